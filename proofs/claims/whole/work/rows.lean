section
-- ===== PART A: goes FIRST, ahead of the names: the tables' words, and 'selects' of the private methods out of them =====
/-- a private method of a class that the tables say can be made, by its rows of tables_1 -/
def lw_okq (q : MethodName × Nat) : Prop := (q.1.cls ≠ "java/lang/invoke/MethodHandle" ∧ q.1.cls ≠ "java/lang/invoke/VarHandle") ∧ Cond.instantiable q.1.cls q.2 ∈ tables_1 ∧ Cond.privateMethod q.1 ∈ tables_1 ∧ Cond.instanceMethod q.1 ∈ tables_1
theorem lw_p0 : lw_okq (⟨"PaidDebts", "isDebt", "(I)Z"⟩, 8) := ⟨⟨by decide +kernel, by decide +kernel⟩, List.mem_of_getElem? (i := 22) (by decide +kernel), List.mem_of_getElem? (i := 320) (by decide +kernel), List.mem_of_getElem? (i := 321) (by decide +kernel)⟩
theorem lw_p1 : lw_okq (⟨"PaidDebts", "isPayment", "(I)Z"⟩, 8) := ⟨⟨by decide +kernel, by decide +kernel⟩, List.mem_of_getElem? (i := 22) (by decide +kernel), List.mem_of_getElem? (i := 357) (by decide +kernel), List.mem_of_getElem? (i := 358) (by decide +kernel)⟩
theorem lw_p2 : lw_okq (⟨"PaidDebts", "isDebtOrNone", "(I)Z"⟩, 8) := ⟨⟨by decide +kernel, by decide +kernel⟩, List.mem_of_getElem? (i := 22) (by decide +kernel), List.mem_of_getElem? (i := 361) (by decide +kernel), List.mem_of_getElem? (i := 362) (by decide +kernel)⟩
theorem lw_p3 : lw_okq (⟨"PaidDebts", "goBehind", "(II)V"⟩, 8) := ⟨⟨by decide +kernel, by decide +kernel⟩, List.mem_of_getElem? (i := 22) (by decide +kernel), List.mem_of_getElem? (i := 507) (by decide +kernel), List.mem_of_getElem? (i := 508) (by decide +kernel)⟩
theorem lw_p4 : lw_okq (⟨"PaidDebts$Course", "runOn", "(II)V"⟩, 14) := ⟨⟨by decide +kernel, by decide +kernel⟩, List.mem_of_getElem? (i := 141) (by decide +kernel), List.mem_of_getElem? (i := 554) (by decide +kernel), List.mem_of_getElem? (i := 555) (by decide +kernel)⟩
theorem lw_p5 : lw_okq (⟨"PaidDebts$Course", "chosenDebt", "(LPaidDebts$Payment;)I"⟩, 14) := ⟨⟨by decide +kernel, by decide +kernel⟩, List.mem_of_getElem? (i := 141) (by decide +kernel), List.mem_of_getElem? (i := 558) (by decide +kernel), List.mem_of_getElem? (i := 559) (by decide +kernel)⟩
theorem lw_p6 : lw_okq (⟨"PaidDebts$Course", "give", "(IJ)J"⟩, 14) := ⟨⟨by decide +kernel, by decide +kernel⟩, List.mem_of_getElem? (i := 141) (by decide +kernel), List.mem_of_getElem? (i := 581) (by decide +kernel), List.mem_of_getElem? (i := 582) (by decide +kernel)⟩
theorem lw_p7 : lw_okq (⟨"PaidDebts$Course", "compareByKeys", "(II)I"⟩, 14) := ⟨⟨by decide +kernel, by decide +kernel⟩, List.mem_of_getElem? (i := 141) (by decide +kernel), List.mem_of_getElem? (i := 592) (by decide +kernel), List.mem_of_getElem? (i := 593) (by decide +kernel)⟩
theorem lw_p8 : lw_okq (⟨"PaidDebts$Course", "share", "(IIJ)J"⟩, 14) := ⟨⟨by decide +kernel, by decide +kernel⟩, List.mem_of_getElem? (i := 141) (by decide +kernel), List.mem_of_getElem? (i := 609) (by decide +kernel), List.mem_of_getElem? (i := 610) (by decide +kernel)⟩
theorem lw_p9 : lw_okq (⟨"PaidDebts$WordSearch", "tryFrom", "(I)V"⟩, 7) := ⟨⟨by decide +kernel, by decide +kernel⟩, List.mem_of_getElem? (i := 205) (by decide +kernel), List.mem_of_getElem? (i := 687) (by decide +kernel), List.mem_of_getElem? (i := 688) (by decide +kernel)⟩
theorem lw_p10 : lw_okq (⟨"PaidDebts$WordSearch", "weigh", "(J)V"⟩, 7) := ⟨⟨by decide +kernel, by decide +kernel⟩, List.mem_of_getElem? (i := 205) (by decide +kernel), List.mem_of_getElem? (i := 695) (by decide +kernel), List.mem_of_getElem? (i := 696) (by decide +kernel)⟩
theorem lw_p11 : lw_okq (⟨"PaidDebts$WordSearch", "isTriedAhead", "()Z"⟩, 7) := ⟨⟨by decide +kernel, by decide +kernel⟩, List.mem_of_getElem? (i := 205) (by decide +kernel), List.mem_of_getElem? (i := 699) (by decide +kernel), List.mem_of_getElem? (i := 700) (by decide +kernel)⟩
theorem lw_p12 : lw_okq (⟨"PaidDebtsModel", "isDebt", "(I)Z"⟩, 29) := ⟨⟨by decide +kernel, by decide +kernel⟩, List.mem_of_getElem? (i := 785) (by decide +kernel), List.mem_of_getElem? (i := 896) (by decide +kernel), List.mem_of_getElem? (i := 897) (by decide +kernel)⟩
theorem lw_p13 : lw_okq (⟨"PaidDebtsModel", "addPayment", "(II)V"⟩, 29) := ⟨⟨by decide +kernel, by decide +kernel⟩, List.mem_of_getElem? (i := 785) (by decide +kernel), List.mem_of_getElem? (i := 906) (by decide +kernel), List.mem_of_getElem? (i := 907) (by decide +kernel)⟩
theorem lw_p14 : lw_okq (⟨"PaidDebtsModel", "isPayment", "(I)Z"⟩, 29) := ⟨⟨by decide +kernel, by decide +kernel⟩, List.mem_of_getElem? (i := 785) (by decide +kernel), List.mem_of_getElem? (i := 914) (by decide +kernel), List.mem_of_getElem? (i := 915) (by decide +kernel)⟩
theorem lw_p15 : lw_okq (⟨"PaidDebtsModel", "goTo", "(II)V"⟩, 29) := ⟨⟨by decide +kernel, by decide +kernel⟩, List.mem_of_getElem? (i := 785) (by decide +kernel), List.mem_of_getElem? (i := 954) (by decide +kernel), List.mem_of_getElem? (i := 955) (by decide +kernel)⟩
def lw_privs_1 : List (MethodName × Nat) := [(⟨"PaidDebts", "isDebt", "(I)Z"⟩, 8), (⟨"PaidDebts", "isPayment", "(I)Z"⟩, 8), (⟨"PaidDebts", "isDebtOrNone", "(I)Z"⟩, 8), (⟨"PaidDebts", "goBehind", "(II)V"⟩, 8), (⟨"PaidDebts$Course", "runOn", "(II)V"⟩, 14), (⟨"PaidDebts$Course", "chosenDebt", "(LPaidDebts$Payment;)I"⟩, 14), (⟨"PaidDebts$Course", "give", "(IJ)J"⟩, 14), (⟨"PaidDebts$Course", "compareByKeys", "(II)I"⟩, 14), (⟨"PaidDebts$Course", "share", "(IIJ)J"⟩, 14), (⟨"PaidDebts$WordSearch", "tryFrom", "(I)V"⟩, 7), (⟨"PaidDebts$WordSearch", "weigh", "(J)V"⟩, 7), (⟨"PaidDebts$WordSearch", "isTriedAhead", "()Z"⟩, 7), (⟨"PaidDebtsModel", "isDebt", "(I)Z"⟩, 29), (⟨"PaidDebtsModel", "addPayment", "(II)V"⟩, 29), (⟨"PaidDebtsModel", "isPayment", "(I)Z"⟩, 29), (⟨"PaidDebtsModel", "goTo", "(II)V"⟩, 29)]
theorem lw_r1 : ∀ q ∈ lw_privs_1, lw_okq q := List.forall_mem_cons.mpr ⟨lw_p0, List.forall_mem_cons.mpr ⟨lw_p1, List.forall_mem_cons.mpr ⟨lw_p2, List.forall_mem_cons.mpr ⟨lw_p3, List.forall_mem_cons.mpr ⟨lw_p4, List.forall_mem_cons.mpr ⟨lw_p5, List.forall_mem_cons.mpr ⟨lw_p6, List.forall_mem_cons.mpr ⟨lw_p7, List.forall_mem_cons.mpr ⟨lw_p8, List.forall_mem_cons.mpr ⟨lw_p9, List.forall_mem_cons.mpr ⟨lw_p10, List.forall_mem_cons.mpr ⟨lw_p11, List.forall_mem_cons.mpr ⟨lw_p12, List.forall_mem_cons.mpr ⟨lw_p13, List.forall_mem_cons.mpr ⟨lw_p14, List.forall_mem_cons.mpr ⟨lw_p15, fun _ h => absurd h List.not_mem_nil⟩⟩⟩⟩⟩⟩⟩⟩⟩⟩⟩⟩⟩⟩⟩⟩
theorem lw_p16 : lw_okq (⟨"PaidDebtsModel", "beginDays", "()V"⟩, 29) := ⟨⟨by decide +kernel, by decide +kernel⟩, List.mem_of_getElem? (i := 785) (by decide +kernel), List.mem_of_getElem? (i := 958) (by decide +kernel), List.mem_of_getElem? (i := 959) (by decide +kernel)⟩
theorem lw_p17 : lw_okq (⟨"PaidDebtsModel", "goDay", "(II)V"⟩, 29) := ⟨⟨by decide +kernel, by decide +kernel⟩, List.mem_of_getElem? (i := 785) (by decide +kernel), List.mem_of_getElem? (i := 962) (by decide +kernel), List.mem_of_getElem? (i := 963) (by decide +kernel)⟩
theorem lw_p18 : lw_okq (⟨"PaidDebtsModel", "runOn", "(I)V"⟩, 29) := ⟨⟨by decide +kernel, by decide +kernel⟩, List.mem_of_getElem? (i := 785) (by decide +kernel), List.mem_of_getElem? (i := 966) (by decide +kernel), List.mem_of_getElem? (i := 967) (by decide +kernel)⟩
theorem lw_p19 : lw_okq (⟨"PaidDebtsModel", "putPayment", "(III)V"⟩, 29) := ⟨⟨by decide +kernel, by decide +kernel⟩, List.mem_of_getElem? (i := 785) (by decide +kernel), List.mem_of_getElem? (i := 971) (by decide +kernel), List.mem_of_getElem? (i := 972) (by decide +kernel)⟩
theorem lw_p20 : lw_okq (⟨"PaidDebtsModel", "putAll", "(IJIII)V"⟩, 29) := ⟨⟨by decide +kernel, by decide +kernel⟩, List.mem_of_getElem? (i := 785) (by decide +kernel), List.mem_of_getElem? (i := 975) (by decide +kernel), List.mem_of_getElem? (i := 976) (by decide +kernel)⟩
theorem lw_p21 : lw_okq (⟨"PaidDebtsModel", "isDead", "(II)Z"⟩, 29) := ⟨⟨by decide +kernel, by decide +kernel⟩, List.mem_of_getElem? (i := 785) (by decide +kernel), List.mem_of_getElem? (i := 979) (by decide +kernel), List.mem_of_getElem? (i := 980) (by decide +kernel)⟩
theorem lw_p22 : lw_okq (⟨"PaidDebtsModel", "leftOf", "(I)J"⟩, 29) := ⟨⟨by decide +kernel, by decide +kernel⟩, List.mem_of_getElem? (i := 785) (by decide +kernel), List.mem_of_getElem? (i := 983) (by decide +kernel), List.mem_of_getElem? (i := 984) (by decide +kernel)⟩
theorem lw_p23 : lw_okq (⟨"PaidDebtsModel", "has", "(II)Z"⟩, 29) := ⟨⟨by decide +kernel, by decide +kernel⟩, List.mem_of_getElem? (i := 785) (by decide +kernel), List.mem_of_getElem? (i := 987) (by decide +kernel), List.mem_of_getElem? (i := 988) (by decide +kernel)⟩
theorem lw_p24 : lw_okq (⟨"PaidDebtsModel", "putTo", "(IIJI)J"⟩, 29) := ⟨⟨by decide +kernel, by decide +kernel⟩, List.mem_of_getElem? (i := 785) (by decide +kernel), List.mem_of_getElem? (i := 991) (by decide +kernel), List.mem_of_getElem? (i := 992) (by decide +kernel)⟩
theorem lw_p25 : lw_okq (⟨"PaidDebtsModel", "findOrder", "(II)I"⟩, 29) := ⟨⟨by decide +kernel, by decide +kernel⟩, List.mem_of_getElem? (i := 785) (by decide +kernel), List.mem_of_getElem? (i := 995) (by decide +kernel), List.mem_of_getElem? (i := 996) (by decide +kernel)⟩
theorem lw_p26 : lw_okq (⟨"PaidDebtsModel", "compare", "(IIII)I"⟩, 29) := ⟨⟨by decide +kernel, by decide +kernel⟩, List.mem_of_getElem? (i := 785) (by decide +kernel), List.mem_of_getElem? (i := 999) (by decide +kernel), List.mem_of_getElem? (i := 1000) (by decide +kernel)⟩
theorem lw_p27 : lw_okq (⟨"PaidDebtsModel", "putParts", "(IIII)V"⟩, 29) := ⟨⟨by decide +kernel, by decide +kernel⟩, List.mem_of_getElem? (i := 785) (by decide +kernel), List.mem_of_getElem? (i := 1003) (by decide +kernel), List.mem_of_getElem? (i := 1004) (by decide +kernel)⟩
theorem lw_p28 : lw_okq (⟨"PaidDebtsModel", "owedOn", "(II)J"⟩, 29) := ⟨⟨by decide +kernel, by decide +kernel⟩, List.mem_of_getElem? (i := 785) (by decide +kernel), List.mem_of_getElem? (i := 1011) (by decide +kernel), List.mem_of_getElem? (i := 1012) (by decide +kernel)⟩
theorem lw_p29 : lw_okq (⟨"PaidDebtsModel", "owedNow", "()J"⟩, 29) := ⟨⟨by decide +kernel, by decide +kernel⟩, List.mem_of_getElem? (i := 785) (by decide +kernel), List.mem_of_getElem? (i := 1015) (by decide +kernel), List.mem_of_getElem? (i := 1016) (by decide +kernel)⟩
theorem lw_p30 : lw_okq (⟨"PaidDebtsModel", "findWords", "(III)V"⟩, 29) := ⟨⟨by decide +kernel, by decide +kernel⟩, List.mem_of_getElem? (i := 785) (by decide +kernel), List.mem_of_getElem? (i := 1047) (by decide +kernel), List.mem_of_getElem? (i := 1048) (by decide +kernel)⟩
theorem lw_p31 : lw_okq (⟨"PaidDebtsModel", "carry", "(Z)V"⟩, 29) := ⟨⟨by decide +kernel, by decide +kernel⟩, List.mem_of_getElem? (i := 785) (by decide +kernel), List.mem_of_getElem? (i := 1083) (by decide +kernel), List.mem_of_getElem? (i := 1084) (by decide +kernel)⟩
def lw_privs_2 : List (MethodName × Nat) := [(⟨"PaidDebtsModel", "beginDays", "()V"⟩, 29), (⟨"PaidDebtsModel", "goDay", "(II)V"⟩, 29), (⟨"PaidDebtsModel", "runOn", "(I)V"⟩, 29), (⟨"PaidDebtsModel", "putPayment", "(III)V"⟩, 29), (⟨"PaidDebtsModel", "putAll", "(IJIII)V"⟩, 29), (⟨"PaidDebtsModel", "isDead", "(II)Z"⟩, 29), (⟨"PaidDebtsModel", "leftOf", "(I)J"⟩, 29), (⟨"PaidDebtsModel", "has", "(II)Z"⟩, 29), (⟨"PaidDebtsModel", "putTo", "(IIJI)J"⟩, 29), (⟨"PaidDebtsModel", "findOrder", "(II)I"⟩, 29), (⟨"PaidDebtsModel", "compare", "(IIII)I"⟩, 29), (⟨"PaidDebtsModel", "putParts", "(IIII)V"⟩, 29), (⟨"PaidDebtsModel", "owedOn", "(II)J"⟩, 29), (⟨"PaidDebtsModel", "owedNow", "()J"⟩, 29), (⟨"PaidDebtsModel", "findWords", "(III)V"⟩, 29), (⟨"PaidDebtsModel", "carry", "(Z)V"⟩, 29)]
theorem lw_r2 : ∀ q ∈ lw_privs_2, lw_okq q := List.forall_mem_cons.mpr ⟨lw_p16, List.forall_mem_cons.mpr ⟨lw_p17, List.forall_mem_cons.mpr ⟨lw_p18, List.forall_mem_cons.mpr ⟨lw_p19, List.forall_mem_cons.mpr ⟨lw_p20, List.forall_mem_cons.mpr ⟨lw_p21, List.forall_mem_cons.mpr ⟨lw_p22, List.forall_mem_cons.mpr ⟨lw_p23, List.forall_mem_cons.mpr ⟨lw_p24, List.forall_mem_cons.mpr ⟨lw_p25, List.forall_mem_cons.mpr ⟨lw_p26, List.forall_mem_cons.mpr ⟨lw_p27, List.forall_mem_cons.mpr ⟨lw_p28, List.forall_mem_cons.mpr ⟨lw_p29, List.forall_mem_cons.mpr ⟨lw_p30, List.forall_mem_cons.mpr ⟨lw_p31, fun _ h => absurd h List.not_mem_nil⟩⟩⟩⟩⟩⟩⟩⟩⟩⟩⟩⟩⟩⟩⟩⟩
theorem lw_p32 : lw_okq (⟨"PaidDebtsModel", "lacksRow", "(IIII)I"⟩, 29) := ⟨⟨by decide +kernel, by decide +kernel⟩, List.mem_of_getElem? (i := 785) (by decide +kernel), List.mem_of_getElem? (i := 1106) (by decide +kernel), List.mem_of_getElem? (i := 1107) (by decide +kernel)⟩
def lw_privs_3 : List (MethodName × Nat) := [(⟨"PaidDebtsModel", "lacksRow", "(IIII)I"⟩, 29)]
theorem lw_r3 : ∀ q ∈ lw_privs_3, lw_okq q := List.forall_mem_cons.mpr ⟨lw_p32, fun _ h => absurd h List.not_mem_nil⟩
def lw_privs : List (MethodName × Nat) := lw_privs_1 ++ (lw_privs_2 ++ (lw_privs_3))
def lw_tbl : List Cond := k2_sels lw_privs ++ tables_1
theorem lw_privs_ok : ∀ q ∈ lw_privs, lw_okq q := by
  show ∀ q ∈ lw_privs_1 ++ (lw_privs_2 ++ (lw_privs_3)), lw_okq q
  exact List.forall_mem_append.mpr ⟨lw_r1, List.forall_mem_append.mpr ⟨lw_r2, lw_r3⟩⟩

theorem goodIn_r {big : List Cond} (ws : List Cond) (ps : List Nat) (hp : ws = ps.filterMap (fun i => big[i]?)) (h : ws.all goodWord = true) : GoodIn big ws := by
  intro w hw
  have h1 := List.all_eq_true.mp h w hw
  rw [hp] at hw
  obtain ⟨i, -, hi⟩ := List.mem_filterMap.mp hw
  have hm : w ∈ big := by first | exact List.mem_of_getElem? hi | exact List.getElem?_mem hi
  exact ⟨hm, good_of_word h1⟩
theorem goodIn_app {big a b : List Cond} (ha : GoodIn big a) (hb : GoodIn big b) : GoodIn big (a ++ b) := fun w h => (List.mem_append.mp h).elim (ha w) (hb w)
theorem goodIn_ca {big a b : List Cond} {c : Cond} (ha : GoodIn big (c :: a)) (hb : GoodIn big b) : GoodIn big (c :: (a ++ b)) := fun w h => (List.mem_cons.mp h).elim (fun e => ha w (List.mem_cons.mpr (Or.inl e))) (fun h => (List.mem_append.mp h).elim (fun h => ha w (List.mem_cons.mpr (Or.inr h))) (hb w))
theorem goodIn_sub {big ws : List Cond} (hm : ∀ w ∈ ws, w ∈ big) (h : ws.all goodWord = true) : GoodIn big ws := fun w hw => ⟨hm w hw, good_of_word (List.all_eq_true.mp h w hw)⟩
def RX0 : String := "PaidDebts$Book"
def TX0 : u_T := fun k => match k with
  | 0 => ("PaidDebts$Book", "debts", "[LPaidDebts$Debt;", true)
  | 1 => ("PaidDebts$Book", "debtCount", "I", false)
  | 2 => ("PaidDebts$Book", "payments", "[LPaidDebts$Payment;", true)
  | 3 => ("PaidDebts$Book", "paymentCount", "I", false)
  | _ => ("PaidDebts$Book", "laws", "[LPaidDebts$Law;", true)
def tyX0 : Nat → FieldType := fun k => match k with
  | 0 => .array (.object "PaidDebts$Debt")
  | 1 => .int
  | 2 => .array (.object "PaidDebts$Payment")
  | 3 => .int
  | _ => .array (.object "PaidDebts$Law")
abbrev wsX00 : List Cond := u_ws RX0 TX0 5
theorem nmX0 : ∀ a, a < 5 → ∀ b, b < 5 → a ≠ b → (TX0 a).2.1 ≠ (TX0 b).2.1 := by decide +kernel
theorem tyX0_ok : ∀ k, k < 5 → parseFieldDescriptor (TX0 k).2.2.1 = some (tyX0 k) := by decide +kernel
abbrev cX0_init : ByteArray := prog_2_method_1_code
def yX0_init : MethodName := ⟨RX0, "<init>", "()V"⟩
abbrev cX0_addPayment : ByteArray := prog_2_method_2_code
def yX0_addPayment : MethodName := ⟨RX0, "addPayment", "(II)V"⟩
abbrev cX0_debtsWithAtLeast : ByteArray := prog_2_method_3_code
def yX0_debtsWithAtLeast : MethodName := ⟨RX0, "debtsWithAtLeast", "(II)I"⟩
abbrev cX0_copyFrom : ByteArray := prog_2_method_4_code
def yX0_copyFrom : MethodName := ⟨RX0, "copyFrom", "(LPaidDebts$Book;)V"⟩
def RX1 : String := "PaidDebts$Course"
def TX1 : u_T := fun k => match k with
  | 0 => ("PaidDebts$Course", "book", "LPaidDebts$Book;", true)
  | 1 => ("PaidDebts$Course", "law", "LPaidDebts$Law;", true)
  | 2 => ("PaidDebts$Course", "day", "I", false)
  | 3 => ("PaidDebts$Course", "lastTaken", "I", false)
  | 4 => ("PaidDebts$Course", "sum", "[J", true)
  | 5 => ("PaidDebts$Course", "run", "[J", true)
  | 6 => ("PaidDebts$Course", "lastPutDay", "[I", true)
  | 7 => ("PaidDebts$Course", "paidDay", "[I", true)
  | 8 => ("PaidDebts$Course", "wakeDay", "[I", true)
  | 9 => ("PaidDebts$Course", "isDead", "[Z", true)
  | 10 => ("PaidDebts$Course", "order", "[I", true)
  | 11 => ("PaidDebts$Course", "toSum", "[J", true)
  | 12 => ("PaidDebts$Course", "toRun", "[J", true)
  | _ => ("PaidDebts$Course", "spare", "J", false)
def tyX1 : Nat → FieldType := fun k => match k with
  | 0 => .object "PaidDebts$Book"
  | 1 => .object "PaidDebts$Law"
  | 2 => .int
  | 3 => .int
  | 4 => .array .long
  | 5 => .array .long
  | 6 => .array .int
  | 7 => .array .int
  | 8 => .array .int
  | 9 => .array .boolean
  | 10 => .array .int
  | 11 => .array .long
  | 12 => .array .long
  | _ => .long
abbrev wsX10 : List Cond := u_ws RX1 TX1 14
theorem nmX1 : ∀ a, a < 14 → ∀ b, b < 14 → a ≠ b → (TX1 a).2.1 ≠ (TX1 b).2.1 := by decide +kernel
theorem tyX1_ok : ∀ k, k < 14 → parseFieldDescriptor (TX1 k).2.2.1 = some (tyX1 k) := by decide +kernel
abbrev cX1_init : ByteArray := prog_3_method_1_code
def yX1_init : MethodName := ⟨RX1, "<init>", "()V"⟩
abbrev cX1_start : ByteArray := prog_3_method_2_code
def yX1_start : MethodName := ⟨RX1, "start", "(LPaidDebts$Book;I)V"⟩
abbrev cX1_standWith : ByteArray := prog_3_method_3_code
def yX1_standWith : MethodName := ⟨RX1, "standWith", "(LPaidDebts$Course;)V"⟩
abbrev cX1_goAheadOf : ByteArray := prog_3_method_4_code
def yX1_goAheadOf : MethodName := ⟨RX1, "goAheadOf", "(I)V"⟩
abbrev cX1_goBehind : ByteArray := prog_3_method_5_code
def yX1_goBehind : MethodName := ⟨RX1, "goBehind", "(I)V"⟩
abbrev cX1_takeUpTo : ByteArray := prog_3_method_6_code
def yX1_takeUpTo : MethodName := ⟨RX1, "takeUpTo", "(I)V"⟩
abbrev cX1_nextPayment : ByteArray := prog_3_method_7_code
def yX1_nextPayment : MethodName := ⟨RX1, "nextPayment", "(I)I"⟩
abbrev cX1_take : ByteArray := prog_3_method_8_code
def yX1_take : MethodName := ⟨RX1, "take", "(I)V"⟩
abbrev cX1_runTo : ByteArray := prog_3_method_9_code
def yX1_runTo : MethodName := ⟨RX1, "runTo", "(I)V"⟩
abbrev cX1_runOn : ByteArray := prog_3_method_10_code
def yX1_runOn : MethodName := ⟨RX1, "runOn", "(II)V"⟩
abbrev cX1_isOpen : ByteArray := prog_3_method_11_code
def yX1_isOpen : MethodName := ⟨RX1, "isOpen", "(I)Z"⟩
abbrev cX1_sumLeft : ByteArray := prog_3_method_12_code
def yX1_sumLeft : MethodName := ⟨RX1, "sumLeft", "(I)J"⟩
abbrev cX1_runLeft : ByteArray := prog_3_method_13_code
def yX1_runLeft : MethodName := ⟨RX1, "runLeft", "(I)J"⟩
abbrev cX1_leftOf : ByteArray := prog_3_method_14_code
def yX1_leftOf : MethodName := ⟨RX1, "leftOf", "(I)J"⟩
abbrev cX1_owedNow : ByteArray := prog_3_method_15_code
def yX1_owedNow : MethodName := ⟨RX1, "owedNow", "()J"⟩
abbrev cX1_isLeftAlike : ByteArray := prog_3_method_16_code
def yX1_isLeftAlike : MethodName := ⟨RX1, "isLeftAlike", "(LPaidDebts$Course;)Z"⟩
abbrev cX1_findDead : ByteArray := prog_3_method_17_code
def yX1_findDead : MethodName := ⟨RX1, "findDead", "()V"⟩
abbrev cX1_orderOpen : ByteArray := prog_3_method_18_code
def yX1_orderOpen : MethodName := ⟨RX1, "orderOpen", "()I"⟩
abbrev cX1_compareByKeys : ByteArray := prog_3_method_19_code
def yX1_compareByKeys : MethodName := ⟨RX1, "compareByKeys", "(II)I"⟩
abbrev cX1_firstIf : ByteArray := prog_3_method_20_code
def yX1_firstIf : MethodName := ⟨RX1, "firstIf", "(ZZ)I"⟩
abbrev cX1_chosenDebt : ByteArray := prog_3_method_21_code
def yX1_chosenDebt : MethodName := ⟨RX1, "chosenDebt", "(LPaidDebts$Payment;)I"⟩
abbrev cX1_heedsWord : ByteArray := prog_3_method_22_code
def yX1_heedsWord : MethodName := ⟨RX1, "heedsWord", "(I)Z"⟩
abbrev cX1_distribute : ByteArray := prog_3_method_23_code
def yX1_distribute : MethodName := ⟨RX1, "distribute", "(JI)V"⟩
abbrev cX1_share : ByteArray := prog_3_method_24_code
def yX1_share : MethodName := ⟨RX1, "share", "(IIJ)J"⟩
abbrev cX1_give : ByteArray := prog_3_method_25_code
def yX1_give : MethodName := ⟨RX1, "give", "(IJ)J"⟩
def RX2 : String := "PaidDebts$Debt"
def TX2 : u_T := fun k => match k with
  | 0 => ("PaidDebts$Debt", "whole", "I", false)
  | 1 => ("PaidDebts$Debt", "since", "I", false)
  | _ => ("PaidDebts$Debt", "traits", "[I", true)
def tyX2 : Nat → FieldType := fun k => match k with
  | 0 => .int
  | 1 => .int
  | _ => .array .int
abbrev wsX20 : List Cond := u_ws RX2 TX2 3
theorem nmX2 : ∀ a, a < 3 → ∀ b, b < 3 → a ≠ b → (TX2 a).2.1 ≠ (TX2 b).2.1 := by decide +kernel
theorem tyX2_ok : ∀ k, k < 3 → parseFieldDescriptor (TX2 k).2.2.1 = some (tyX2 k) := by decide +kernel
abbrev cX2_init : ByteArray := prog_4_method_1_code
def yX2_init : MethodName := ⟨RX2, "<init>", "()V"⟩
abbrev cX2_begin : ByteArray := prog_4_method_2_code
def yX2_begin : MethodName := ⟨RX2, "begin", "(IIII)V"⟩
abbrev cX2_isSecured : ByteArray := prog_4_method_3_code
def yX2_isSecured : MethodName := ⟨RX2, "isSecured", "()Z"⟩
abbrev cX2_copyFrom : ByteArray := prog_4_method_4_code
def yX2_copyFrom : MethodName := ⟨RX2, "copyFrom", "(LPaidDebts$Debt;)V"⟩
def RX3 : String := "PaidDebts$Law"
def TX3 : u_T := fun k => match k with
  | 0 => ("PaidDebts$Law", "letters", "[I", true)
  | 1 => ("PaidDebts$Law", "length", "I", false)
  | _ => ("PaidDebts$Law", "letterBits", "I", false)
def tyX3 : Nat → FieldType := fun k => match k with
  | 0 => .array .int
  | 1 => .int
  | _ => .int
abbrev wsX30 : List Cond := u_ws RX3 TX3 3
theorem nmX3 : ∀ a, a < 3 → ∀ b, b < 3 → a ≠ b → (TX3 a).2.1 ≠ (TX3 b).2.1 := by decide +kernel
theorem tyX3_ok : ∀ k, k < 3 → parseFieldDescriptor (TX3 k).2.2.1 = some (tyX3 k) := by decide +kernel
abbrev cX3_init : ByteArray := prog_5_method_1_code
def yX3_init : MethodName := ⟨RX3, "<init>", "()V"⟩
abbrev cX3_has : ByteArray := prog_5_method_2_code
def yX3_has : MethodName := ⟨RX3, "has", "(I)Z"⟩
abbrev cX3_read : ByteArray := prog_5_method_3_code
def yX3_read : MethodName := ⟨RX3, "read", "(LPaidDebts$Tape;)V"⟩
abbrev cX3_copyFrom : ByteArray := prog_5_method_4_code
def yX3_copyFrom : MethodName := ⟨RX3, "copyFrom", "(LPaidDebts$Law;)V"⟩
abbrev cX3_bitOf : ByteArray := prog_5_method_5_code
def yX3_bitOf : MethodName := ⟨RX3, "bitOf", "(I)I"⟩
def RX4 : String := "PaidDebts$Payment"
def TX4 : u_T := fun k => match k with
  | 0 => ("PaidDebts$Payment", "day", "I", false)
  | 1 => ("PaidDebts$Payment", "whole", "I", false)
  | 2 => ("PaidDebts$Payment", "word", "I", false)
  | _ => ("PaidDebts$Payment", "answer", "I", false)
def tyX4 : Nat → FieldType := fun k => match k with
  | 0 => .int
  | 1 => .int
  | 2 => .int
  | _ => .int
abbrev wsX40 : List Cond := u_ws RX4 TX4 4
theorem nmX4 : ∀ a, a < 4 → ∀ b, b < 4 → a ≠ b → (TX4 a).2.1 ≠ (TX4 b).2.1 := by decide +kernel
theorem tyX4_ok : ∀ k, k < 4 → parseFieldDescriptor (TX4 k).2.2.1 = some (tyX4 k) := by decide +kernel
abbrev cX4_init : ByteArray := prog_6_method_1_code
def yX4_init : MethodName := ⟨RX4, "<init>", "()V"⟩
abbrev cX4_copyFrom : ByteArray := prog_6_method_2_code
def yX4_copyFrom : MethodName := ⟨RX4, "copyFrom", "(LPaidDebts$Payment;)V"⟩
def RX5 : String := "PaidDebts$Sheet"
def TX5 : u_T := fun k => match k with
  | 0 => ("PaidDebts$Sheet", "isThere", "Z", false)
  | 1 => ("PaidDebts$Sheet", "length", "I", false)
  | 2 => ("PaidDebts$Sheet", "items", "[I", true)
  | _ => ("PaidDebts$Sheet", "lane", "I", false)
def tyX5 : Nat → FieldType := fun k => match k with
  | 0 => .boolean
  | 1 => .int
  | 2 => .array .int
  | _ => .int
abbrev wsX50 : List Cond := u_ws RX5 TX5 4
theorem nmX5 : ∀ a, a < 4 → ∀ b, b < 4 → a ≠ b → (TX5 a).2.1 ≠ (TX5 b).2.1 := by decide +kernel
theorem tyX5_ok : ∀ k, k < 4 → parseFieldDescriptor (TX5 k).2.2.1 = some (tyX5 k) := by decide +kernel
abbrev cX5_init : ByteArray := prog_7_method_1_code
def yX5_init : MethodName := ⟨RX5, "<init>", "()V"⟩
abbrev cX5_begin : ByteArray := prog_7_method_2_code
def yX5_begin : MethodName := ⟨RX5, "begin", "(II)V"⟩
abbrev cX5_refusal : ByteArray := prog_7_method_3_code
def yX5_refusal : MethodName := ⟨RX5, "refusal", "(III)I"⟩
abbrev cX5_write : ByteArray := prog_7_method_4_code
def yX5_write : MethodName := ⟨RX5, "write", "(II)V"⟩
def RX6 : String := "PaidDebts$Tape"
def TX6 : u_T := fun k => match k with
  | 0 => ("PaidDebts$Tape", "bytes", "[I", true)
  | _ => ("PaidDebts$Tape", "length", "I", false)
def tyX6 : Nat → FieldType := fun k => match k with
  | 0 => .array .int
  | _ => .int
abbrev wsX60 : List Cond := u_ws RX6 TX6 2
theorem nmX6 : ∀ a, a < 2 → ∀ b, b < 2 → a ≠ b → (TX6 a).2.1 ≠ (TX6 b).2.1 := by decide +kernel
theorem tyX6_ok : ∀ k, k < 2 → parseFieldDescriptor (TX6 k).2.2.1 = some (tyX6 k) := by decide +kernel
abbrev cX6_init : ByteArray := prog_8_method_1_code
def yX6_init : MethodName := ⟨RX6, "<init>", "()V"⟩
abbrev cX6_append : ByteArray := prog_8_method_2_code
def yX6_append : MethodName := ⟨RX6, "append", "(I)V"⟩
abbrev cX6_fault : ByteArray := prog_8_method_3_code
def yX6_fault : MethodName := ⟨RX6, "fault", "()I"⟩
def RX7 : String := "PaidDebts$WordSearch"
def TX7 : u_T := fun k => match k with
  | 0 => ("PaidDebts$WordSearch", "found", "[I", true)
  | 1 => ("PaidDebts$WordSearch", "leastOwed", "J", false)
  | 2 => ("PaidDebts$WordSearch", "hasFound", "Z", false)
  | 3 => ("PaidDebts$WordSearch", "tried", "[I", true)
  | 4 => ("PaidDebts$WordSearch", "courses", "[LPaidDebts$Course;", true)
  | 5 => ("PaidDebts$WordSearch", "choices", "I", false)
  | _ => ("PaidDebts$WordSearch", "day", "I", false)
def tyX7 : Nat → FieldType := fun k => match k with
  | 0 => .array .int
  | 1 => .long
  | 2 => .boolean
  | 3 => .array .int
  | 4 => .array (.object "PaidDebts$Course")
  | 5 => .int
  | _ => .int
abbrev wsX70 : List Cond := u_ws RX7 TX7 7
theorem nmX7 : ∀ a, a < 7 → ∀ b, b < 7 → a ≠ b → (TX7 a).2.1 ≠ (TX7 b).2.1 := by decide +kernel
theorem tyX7_ok : ∀ k, k < 7 → parseFieldDescriptor (TX7 k).2.2.1 = some (tyX7 k) := by decide +kernel
abbrev cX7_init : ByteArray := prog_9_method_1_code
def yX7_init : MethodName := ⟨RX7, "<init>", "()V"⟩
abbrev cX7_find : ByteArray := prog_9_method_2_code
def yX7_find : MethodName := ⟨RX7, "find", "(LPaidDebts$Book;III)V"⟩
abbrev cX7_tryFrom : ByteArray := prog_9_method_3_code
def yX7_tryFrom : MethodName := ⟨RX7, "tryFrom", "(I)V"⟩
abbrev cX7_weigh : ByteArray := prog_9_method_4_code
def yX7_weigh : MethodName := ⟨RX7, "weigh", "(J)V"⟩
abbrev cX7_isTriedAhead : ByteArray := prog_9_method_5_code
def yX7_isTriedAhead : MethodName := ⟨RX7, "isTriedAhead", "()Z"⟩
def RX8 : String := "PaidDebts"
def TX8 : u_T := fun k => match k with
  | 0 => ("PaidDebts", "book", "LPaidDebts$Book;", true)
  | 1 => ("PaidDebts", "kept", "LPaidDebts$Book;", true)
  | 2 => ("PaidDebts", "hasImage", "Z", false)
  | 3 => ("PaidDebts", "course", "LPaidDebts$Course;", true)
  | 4 => ("PaidDebts", "otherCourse", "LPaidDebts$Course;", true)
  | 5 => ("PaidDebts", "search", "LPaidDebts$WordSearch;", true)
  | 6 => ("PaidDebts", "tape", "LPaidDebts$Tape;", true)
  | _ => ("PaidDebts", "sheets", "[LPaidDebts$Sheet;", true)
def tyX8 : Nat → FieldType := fun k => match k with
  | 0 => .object "PaidDebts$Book"
  | 1 => .object "PaidDebts$Book"
  | 2 => .boolean
  | 3 => .object "PaidDebts$Course"
  | 4 => .object "PaidDebts$Course"
  | 5 => .object "PaidDebts$WordSearch"
  | 6 => .object "PaidDebts$Tape"
  | _ => .array (.object "PaidDebts$Sheet")
abbrev wsX80 : List Cond := u_ws RX8 TX8 8
theorem nmX8 : ∀ a, a < 8 → ∀ b, b < 8 → a ≠ b → (TX8 a).2.1 ≠ (TX8 b).2.1 := by decide +kernel
theorem tyX8_ok : ∀ k, k < 8 → parseFieldDescriptor (TX8 k).2.2.1 = some (tyX8 k) := by decide +kernel
abbrev cX8_init : ByteArray := prog_1_method_1_code
def yX8_init : MethodName := ⟨RX8, "<init>", "()V"⟩
abbrev cX8_debt : ByteArray := prog_1_method_2_code
def yX8_debt : MethodName := ⟨RX8, "debt", "(IIII)I"⟩
abbrev cX8_set : ByteArray := prog_1_method_3_code
def yX8_set : MethodName := ⟨RX8, "set", "(III)I"⟩
abbrev cX8_pay : ByteArray := prog_1_method_4_code
def yX8_pay : MethodName := ⟨RX8, "pay", "(II)I"⟩
abbrev cX8_pays : ByteArray := prog_1_method_5_code
def yX8_pays : MethodName := ⟨RX8, "pays", "(IIII)I"⟩
abbrev cX8_word : ByteArray := prog_1_method_6_code
def yX8_word : MethodName := ⟨RX8, "word", "(III)I"⟩
abbrev cX8_move : ByteArray := prog_1_method_7_code
def yX8_move : MethodName := ⟨RX8, "move", "(II)I"⟩
abbrev cX8_count : ByteArray := prog_1_method_8_code
def yX8_count : MethodName := ⟨RX8, "count", "(I)I"⟩
abbrev cX8_type : ByteArray := prog_1_method_9_code
def yX8_type : MethodName := ⟨RX8, "type", "(JI)I"⟩
abbrev cX8_law : ByteArray := prog_1_method_10_code
def yX8_law : MethodName := ⟨RX8, "law", "(I)I"⟩
abbrev cX8_letter : ByteArray := prog_1_method_11_code
def yX8_letter : MethodName := ⟨RX8, "letter", "(II)I"⟩
abbrev cX8_left : ByteArray := prog_1_method_12_code
def yX8_left : MethodName := ⟨RX8, "left", "(IIII)J"⟩
abbrev cX8_owed : ByteArray := prog_1_method_13_code
def yX8_owed : MethodName := ⟨RX8, "owed", "(II)J"⟩
abbrev cX8_put : ByteArray := prog_1_method_14_code
def yX8_put : MethodName := ⟨RX8, "put", "(IIII)J"⟩
abbrev cX8_paid : ByteArray := prog_1_method_15_code
def yX8_paid : MethodName := ⟨RX8, "paid", "(II)I"⟩
abbrev cX8_dead : ByteArray := prog_1_method_16_code
def yX8_dead : MethodName := ⟨RX8, "dead", "(III)I"⟩
abbrev cX8_wakes : ByteArray := prog_1_method_17_code
def yX8_wakes : MethodName := ⟨RX8, "wakes", "(II)I"⟩
abbrev cX8_free : ByteArray := prog_1_method_18_code
def yX8_free : MethodName := ⟨RX8, "free", "(II)I"⟩
abbrev cX8_rank : ByteArray := prog_1_method_19_code
def yX8_rank : MethodName := ⟨RX8, "rank", "(III)I"⟩
abbrev cX8_best : ByteArray := prog_1_method_20_code
def yX8_best : MethodName := ⟨RX8, "best", "(IIII)I"⟩
abbrev cX8_least : ByteArray := prog_1_method_21_code
def yX8_least : MethodName := ⟨RX8, "least", "(III)J"⟩
abbrev cX8_answer : ByteArray := prog_1_method_22_code
def yX8_answer : MethodName := ⟨RX8, "answer", "(III)I"⟩
abbrev cX8_hangs : ByteArray := prog_1_method_23_code
def yX8_hangs : MethodName := ⟨RX8, "hangs", "(IIIIII)J"⟩
abbrev cX8_plan : ByteArray := prog_1_method_24_code
def yX8_plan : MethodName := ⟨RX8, "plan", "(IIIII)J"⟩
abbrev cX8_parts : ByteArray := prog_1_method_25_code
def yX8_parts : MethodName := ⟨RX8, "parts", "()I"⟩
abbrev cX8_gap : ByteArray := prog_1_method_26_code
def yX8_gap : MethodName := ⟨RX8, "gap", "(I)J"⟩
abbrev cX8_judge : ByteArray := prog_1_method_27_code
def yX8_judge : MethodName := ⟨RX8, "judge", "(IIIII)I"⟩
abbrev cX8_image : ByteArray := prog_1_method_28_code
def yX8_image : MethodName := ⟨RX8, "image", "()I"⟩
abbrev cX8_restore : ByteArray := prog_1_method_29_code
def yX8_restore : MethodName := ⟨RX8, "restore", "()I"⟩
abbrev cX8_sheet : ByteArray := prog_1_method_30_code
def yX8_sheet : MethodName := ⟨RX8, "sheet", "(III)I"⟩
abbrev cX8_drop : ByteArray := prog_1_method_31_code
def yX8_drop : MethodName := ⟨RX8, "drop", "(I)I"⟩
abbrev cX8_item : ByteArray := prog_1_method_32_code
def yX8_item : MethodName := ⟨RX8, "item", "(IIII)I"⟩
abbrev cX8_within : ByteArray := prog_1_method_33_code
def yX8_within : MethodName := ⟨RX8, "within", "(III)Z"⟩
abbrev cX8_isDay : ByteArray := prog_1_method_34_code
def yX8_isDay : MethodName := ⟨RX8, "isDay", "(I)Z"⟩
abbrev cX8_isPayable : ByteArray := prog_1_method_35_code
def yX8_isPayable : MethodName := ⟨RX8, "isPayable", "(II)Z"⟩
abbrev cX8_isLaw : ByteArray := prog_1_method_36_code
def yX8_isLaw : MethodName := ⟨RX8, "isLaw", "(I)Z"⟩
abbrev cX8_isSheet : ByteArray := prog_1_method_37_code
def yX8_isSheet : MethodName := ⟨RX8, "isSheet", "(I)Z"⟩
abbrev cX8_isLane : ByteArray := prog_1_method_38_code
def yX8_isLane : MethodName := ⟨RX8, "isLane", "(I)Z"⟩
abbrev cX8_isDebt : ByteArray := prog_1_method_39_code
def yX8_isDebt : MethodName := ⟨RX8, "isDebt", "(I)Z"⟩
abbrev cX8_isDebtOrNone : ByteArray := prog_1_method_40_code
def yX8_isDebtOrNone : MethodName := ⟨RX8, "isDebtOrNone", "(I)Z"⟩
abbrev cX8_isPayment : ByteArray := prog_1_method_41_code
def yX8_isPayment : MethodName := ⟨RX8, "isPayment", "(I)Z"⟩
abbrev cX8_dayOrNone : ByteArray := prog_1_method_42_code
def yX8_dayOrNone : MethodName := ⟨RX8, "dayOrNone", "(I)I"⟩
abbrev cX8_byteOf : ByteArray := prog_1_method_43_code
def yX8_byteOf : MethodName := ⟨RX8, "byteOf", "(JI)I"⟩
abbrev cX8_allSigns : ByteArray := prog_1_method_44_code
def yX8_allSigns : MethodName := ⟨RX8, "allSigns", "(JI)Z"⟩
abbrev cX8_goBehind : ByteArray := prog_1_method_45_code
def yX8_goBehind : MethodName := ⟨RX8, "goBehind", "(II)V"⟩
def RX9 : String := "PaidDebtsModel"
def TX9 : u_T := fun k => match k with
  | 0 => ("PaidDebtsModel", "debts", "I", false)
  | 1 => ("PaidDebtsModel", "debt", "[I", true)
  | 2 => ("PaidDebtsModel", "payments", "I", false)
  | 3 => ("PaidDebtsModel", "payment", "[I", true)
  | 4 => ("PaidDebtsModel", "tape", "[I", true)
  | 5 => ("PaidDebtsModel", "taped", "I", false)
  | 6 => ("PaidDebtsModel", "letters", "[I", true)
  | 7 => ("PaidDebtsModel", "sizes", "[I", true)
  | 8 => ("PaidDebtsModel", "read", "[I", true)
  | 9 => ("PaidDebtsModel", "sums", "[J", true)
  | 10 => ("PaidDebtsModel", "runs", "[J", true)
  | 11 => ("PaidDebtsModel", "lastPut", "[I", true)
  | 12 => ("PaidDebtsModel", "woke", "[I", true)
  | 13 => ("PaidDebtsModel", "toSum", "[J", true)
  | 14 => ("PaidDebtsModel", "toRun", "[J", true)
  | 15 => ("PaidDebtsModel", "over", "J", false)
  | 16 => ("PaidDebtsModel", "wasDead", "[Z", true)
  | 17 => ("PaidDebtsModel", "order", "[I", true)
  | 18 => ("PaidDebtsModel", "parts", "[J", true)
  | 19 => ("PaidDebtsModel", "group", "[I", true)
  | 20 => ("PaidDebtsModel", "best", "[I", true)
  | 21 => ("PaidDebtsModel", "bestOwed", "J", false)
  | 22 => ("PaidDebtsModel", "had", "[I", true)
  | 23 => ("PaidDebtsModel", "lefts", "[J", true)
  | 24 => ("PaidDebtsModel", "isKept", "Z", false)
  | 25 => ("PaidDebtsModel", "kept", "[I", true)
  | 26 => ("PaidDebtsModel", "lanes", "[I", true)
  | 27 => ("PaidDebtsModel", "rowSizes", "[I", true)
  | _ => ("PaidDebtsModel", "items", "[I", true)
def tyX9 : Nat → FieldType := fun k => match k with
  | 0 => .int
  | 1 => .array .int
  | 2 => .int
  | 3 => .array .int
  | 4 => .array .int
  | 5 => .int
  | 6 => .array .int
  | 7 => .array .int
  | 8 => .array .int
  | 9 => .array .long
  | 10 => .array .long
  | 11 => .array .int
  | 12 => .array .int
  | 13 => .array .long
  | 14 => .array .long
  | 15 => .long
  | 16 => .array .boolean
  | 17 => .array .int
  | 18 => .array .long
  | 19 => .array .int
  | 20 => .array .int
  | 21 => .long
  | 22 => .array .int
  | 23 => .array .long
  | 24 => .boolean
  | 25 => .array .int
  | 26 => .array .int
  | 27 => .array .int
  | _ => .array .int
abbrev wsX90 : List Cond := u_ws RX9 TX9 29
theorem nmX9 : ∀ a, a < 29 → ∀ b, b < 29 → a ≠ b → (TX9 a).2.1 ≠ (TX9 b).2.1 := by decide +kernel
theorem tyX9_ok : ∀ k, k < 29 → parseFieldDescriptor (TX9 k).2.2.1 = some (tyX9 k) := by decide +kernel
abbrev cX9_in : ByteArray := prog_11_method_1_code
def yX9_in : MethodName := ⟨RX9, "in", "(JJJ)Z"⟩
abbrev cX9_init : ByteArray := prog_11_method_2_code
def yX9_init : MethodName := ⟨RX9, "<init>", "()V"⟩
abbrev cX9_isDay : ByteArray := prog_11_method_3_code
def yX9_isDay : MethodName := ⟨RX9, "isDay", "(I)Z"⟩
abbrev cX9_isDebt : ByteArray := prog_11_method_4_code
def yX9_isDebt : MethodName := ⟨RX9, "isDebt", "(I)Z"⟩
abbrev cX9_isPayment : ByteArray := prog_11_method_5_code
def yX9_isPayment : MethodName := ⟨RX9, "isPayment", "(I)Z"⟩
abbrev cX9_isLaw : ByteArray := prog_11_method_6_code
def yX9_isLaw : MethodName := ⟨RX9, "isLaw", "(I)Z"⟩
abbrev cX9_debt : ByteArray := prog_11_method_7_code
def yX9_debt : MethodName := ⟨RX9, "debt", "(IIII)I"⟩
abbrev cX9_set : ByteArray := prog_11_method_8_code
def yX9_set : MethodName := ⟨RX9, "set", "(III)I"⟩
abbrev cX9_addPayment : ByteArray := prog_11_method_9_code
def yX9_addPayment : MethodName := ⟨RX9, "addPayment", "(II)V"⟩
abbrev cX9_pay : ByteArray := prog_11_method_10_code
def yX9_pay : MethodName := ⟨RX9, "pay", "(II)I"⟩
abbrev cX9_word : ByteArray := prog_11_method_11_code
def yX9_word : MethodName := ⟨RX9, "word", "(III)I"⟩
abbrev cX9_move : ByteArray := prog_11_method_12_code
def yX9_move : MethodName := ⟨RX9, "move", "(II)I"⟩
abbrev cX9_count : ByteArray := prog_11_method_13_code
def yX9_count : MethodName := ⟨RX9, "count", "(I)I"⟩
abbrev cX9_type : ByteArray := prog_11_method_14_code
def yX9_type : MethodName := ⟨RX9, "type", "(JI)I"⟩
abbrev cX9_isLetter : ByteArray := prog_11_method_15_code
def yX9_isLetter : MethodName := ⟨RX9, "isLetter", "(I)Z"⟩
abbrev cX9_law : ByteArray := prog_11_method_16_code
def yX9_law : MethodName := ⟨RX9, "law", "(I)I"⟩
abbrev cX9_letter : ByteArray := prog_11_method_17_code
def yX9_letter : MethodName := ⟨RX9, "letter", "(II)I"⟩
abbrev cX9_has : ByteArray := prog_11_method_18_code
def yX9_has : MethodName := ⟨RX9, "has", "(II)Z"⟩
abbrev cX9_beginDays : ByteArray := prog_11_method_19_code
def yX9_beginDays : MethodName := ⟨RX9, "beginDays", "()V"⟩
abbrev cX9_runOn : ByteArray := prog_11_method_20_code
def yX9_runOn : MethodName := ⟨RX9, "runOn", "(I)V"⟩
abbrev cX9_leftOf : ByteArray := prog_11_method_21_code
def yX9_leftOf : MethodName := ⟨RX9, "leftOf", "(I)J"⟩
abbrev cX9_isDead : ByteArray := prog_11_method_22_code
def yX9_isDead : MethodName := ⟨RX9, "isDead", "(II)Z"⟩
abbrev cX9_putTo : ByteArray := prog_11_method_23_code
def yX9_putTo : MethodName := ⟨RX9, "putTo", "(IIJI)J"⟩
abbrev cX9_compare : ByteArray := prog_11_method_24_code
def yX9_compare : MethodName := ⟨RX9, "compare", "(IIII)I"⟩
abbrev cX9_findOrder : ByteArray := prog_11_method_25_code
def yX9_findOrder : MethodName := ⟨RX9, "findOrder", "(II)I"⟩
abbrev cX9_putParts : ByteArray := prog_11_method_26_code
def yX9_putParts : MethodName := ⟨RX9, "putParts", "(IIII)V"⟩
abbrev cX9_putAll : ByteArray := prog_11_method_27_code
def yX9_putAll : MethodName := ⟨RX9, "putAll", "(IJIII)V"⟩
abbrev cX9_putPayment : ByteArray := prog_11_method_28_code
def yX9_putPayment : MethodName := ⟨RX9, "putPayment", "(III)V"⟩
abbrev cX9_goDay : ByteArray := prog_11_method_29_code
def yX9_goDay : MethodName := ⟨RX9, "goDay", "(II)V"⟩
abbrev cX9_goTo : ByteArray := prog_11_method_30_code
def yX9_goTo : MethodName := ⟨RX9, "goTo", "(II)V"⟩
abbrev cX9_owedNow : ByteArray := prog_11_method_31_code
def yX9_owedNow : MethodName := ⟨RX9, "owedNow", "()J"⟩
abbrev cX9_owedOn : ByteArray := prog_11_method_32_code
def yX9_owedOn : MethodName := ⟨RX9, "owedOn", "(II)J"⟩
abbrev cX9_left : ByteArray := prog_11_method_33_code
def yX9_left : MethodName := ⟨RX9, "left", "(IIII)J"⟩
abbrev cX9_owed : ByteArray := prog_11_method_34_code
def yX9_owed : MethodName := ⟨RX9, "owed", "(II)J"⟩
abbrev cX9_put : ByteArray := prog_11_method_35_code
def yX9_put : MethodName := ⟨RX9, "put", "(IIII)J"⟩
abbrev cX9_paid : ByteArray := prog_11_method_36_code
def yX9_paid : MethodName := ⟨RX9, "paid", "(II)I"⟩
abbrev cX9_dead : ByteArray := prog_11_method_37_code
def yX9_dead : MethodName := ⟨RX9, "dead", "(III)I"⟩
abbrev cX9_wakes : ByteArray := prog_11_method_38_code
def yX9_wakes : MethodName := ⟨RX9, "wakes", "(II)I"⟩
abbrev cX9_free : ByteArray := prog_11_method_39_code
def yX9_free : MethodName := ⟨RX9, "free", "(II)I"⟩
abbrev cX9_rank : ByteArray := prog_11_method_40_code
def yX9_rank : MethodName := ⟨RX9, "rank", "(III)I"⟩
abbrev cX9_findWords : ByteArray := prog_11_method_41_code
def yX9_findWords : MethodName := ⟨RX9, "findWords", "(III)V"⟩
abbrev cX9_best : ByteArray := prog_11_method_42_code
def yX9_best : MethodName := ⟨RX9, "best", "(IIII)I"⟩
abbrev cX9_least : ByteArray := prog_11_method_43_code
def yX9_least : MethodName := ⟨RX9, "least", "(III)J"⟩
abbrev cX9_answer : ByteArray := prog_11_method_44_code
def yX9_answer : MethodName := ⟨RX9, "answer", "(III)I"⟩
abbrev cX9_hangs : ByteArray := prog_11_method_45_code
def yX9_hangs : MethodName := ⟨RX9, "hangs", "(IIIIII)J"⟩
abbrev cX9_plan : ByteArray := prog_11_method_46_code
def yX9_plan : MethodName := ⟨RX9, "plan", "(IIIII)J"⟩
abbrev cX9_parts : ByteArray := prog_11_method_47_code
def yX9_parts : MethodName := ⟨RX9, "parts", "()I"⟩
abbrev cX9_gap : ByteArray := prog_11_method_48_code
def yX9_gap : MethodName := ⟨RX9, "gap", "(I)J"⟩
abbrev cX9_carry : ByteArray := prog_11_method_49_code
def yX9_carry : MethodName := ⟨RX9, "carry", "(Z)V"⟩
abbrev cX9_image : ByteArray := prog_11_method_50_code
def yX9_image : MethodName := ⟨RX9, "image", "()I"⟩
abbrev cX9_restore : ByteArray := prog_11_method_51_code
def yX9_restore : MethodName := ⟨RX9, "restore", "()I"⟩
abbrev cX9_isSheet : ByteArray := prog_11_method_52_code
def yX9_isSheet : MethodName := ⟨RX9, "isSheet", "(II)Z"⟩
abbrev cX9_sheet : ByteArray := prog_11_method_53_code
def yX9_sheet : MethodName := ⟨RX9, "sheet", "(III)I"⟩
abbrev cX9_drop : ByteArray := prog_11_method_54_code
def yX9_drop : MethodName := ⟨RX9, "drop", "(I)I"⟩
abbrev cX9_lacksRow : ByteArray := prog_11_method_55_code
def yX9_lacksRow : MethodName := ⟨RX9, "lacksRow", "(IIII)I"⟩
abbrev cX9_item : ByteArray := prog_11_method_56_code
def yX9_item : MethodName := ⟨RX9, "item", "(IIII)I"⟩
abbrev cX9_pays : ByteArray := prog_11_method_57_code
def yX9_pays : MethodName := ⟨RX9, "pays", "(IIII)I"⟩
abbrev cX9_judge : ByteArray := prog_11_method_58_code
def yX9_judge : MethodName := ⟨RX9, "judge", "(IIIII)I"⟩
def RJ11 : String := "java/lang/Character"
abbrev cJ11_isValidCodePoint_9a6ad : ByteArray := prog_12_method_11_code
def yJ11_isValidCodePoint_9a6ad : MethodName := ⟨RJ11, "isValidCodePoint", "(I)Z"⟩
abbrev cJ11_highSurrogate_5068e : ByteArray := prog_12_method_28_code
def yJ11_highSurrogate_5068e : MethodName := ⟨RJ11, "highSurrogate", "(I)C"⟩
abbrev cJ11_lowSurrogate_5068e : ByteArray := prog_12_method_29_code
def yJ11_lowSurrogate_5068e : MethodName := ⟨RJ11, "lowSurrogate", "(I)C"⟩
def RJ6 : String := "java/lang/Integer"
abbrev cJ6_compare_7cf53 : ByteArray := prog_13_method_40_code
def yJ6_compare_7cf53 : MethodName := ⟨RJ6, "compare", "(II)I"⟩
def RJ13 : String := "java/lang/Long"
abbrev cJ13_compare_74951 : ByteArray := prog_14_method_42_code
def yJ13_compare_74951 : MethodName := ⟨RJ13, "compare", "(JJ)I"⟩
def RJ9 : String := "java/lang/Math"
abbrev cJ9_max_7cf53 : ByteArray := prog_15_method_65_code
def yJ9_max_7cf53 : MethodName := ⟨RJ9, "max", "(II)I"⟩
abbrev cJ9_max_f86c9 : ByteArray := prog_15_method_66_code
def yJ9_max_f86c9 : MethodName := ⟨RJ9, "max", "(JJ)J"⟩
abbrev cJ9_min_7cf53 : ByteArray := prog_15_method_69_code
def yJ9_min_7cf53 : MethodName := ⟨RJ9, "min", "(II)I"⟩
abbrev cJ9_min_f86c9 : ByteArray := prog_15_method_70_code
def yJ9_min_f86c9 : MethodName := ⟨RJ9, "min", "(JJ)J"⟩
def RJ0 : String := "java/lang/String"
abbrev cJ0_length_8abf5 : ByteArray := prog_16_method_54_code
def yJ0_length_8abf5 : MethodName := ⟨RJ0, "length", "()I"⟩
abbrev cJ0_indexOf_0f7a4 : ByteArray := prog_16_method_79_code
def yJ0_indexOf_0f7a4 : MethodName := ⟨RJ0, "indexOf", "(I)I"⟩
abbrev cJ0_indexOf_7cf53 : ByteArray := prog_16_method_80_code
def yJ0_indexOf_7cf53 : MethodName := ⟨RJ0, "indexOf", "(II)I"⟩
abbrev cJ0_coder_7d493 : ByteArray := prog_16_method_152_code
def yJ0_coder_7d493 : MethodName := ⟨RJ0, "coder", "()B"⟩
abbrev cJ0_isLatin1_aae02 : ByteArray := prog_16_method_154_code
def yJ0_isLatin1_aae02 : MethodName := ⟨RJ0, "isLatin1", "()Z"⟩
abbrev cJ0_checkBoundsBeginEnd_23922 : ByteArray := prog_16_method_158_code
def yJ0_checkBoundsBeginEnd_23922 : MethodName := ⟨RJ0, "checkBoundsBeginEnd", "(III)V"⟩
def RJ1 : String := "java/lang/StringLatin1"
abbrev cJ1_canEncode_9a6ad : ByteArray := prog_17_method_4_code
def yJ1_canEncode_9a6ad : MethodName := ⟨RJ1, "canEncode", "(I)Z"⟩
abbrev cJ1_indexOf_4cfef : ByteArray := prog_17_method_22_code
def yJ1_indexOf_4cfef : MethodName := ⟨RJ1, "indexOf", "([BIII)I"⟩
abbrev cJ1_indexOfChar_4cfef : ByteArray := prog_17_method_23_code
def yJ1_indexOfChar_4cfef : MethodName := ⟨RJ1, "indexOfChar", "([BIII)I"⟩
def RJ2 : String := "java/lang/StringUTF16"
abbrev cJ2_getChar_3b067 : ByteArray := prog_18_method_5_code
def yJ2_getChar_3b067 : MethodName := ⟨RJ2, "getChar", "([BI)C"⟩
abbrev cJ2_length_9d52b : ByteArray := prog_18_method_6_code
def yJ2_length_9d52b : MethodName := ⟨RJ2, "length", "([B)I"⟩
abbrev cJ2_indexOf_4cfef : ByteArray := prog_18_method_40_code
def yJ2_indexOf_4cfef : MethodName := ⟨RJ2, "indexOf", "([BIII)I"⟩
abbrev cJ2_indexOfChar_4cfef : ByteArray := prog_18_method_47_code
def yJ2_indexOfChar_4cfef : MethodName := ⟨RJ2, "indexOfChar", "([BIII)I"⟩
abbrev cJ2_indexOfCharUnsafe_4cfef : ByteArray := prog_18_method_48_code
def yJ2_indexOfCharUnsafe_4cfef : MethodName := ⟨RJ2, "indexOfCharUnsafe", "([BIII)I"⟩
abbrev cJ2_indexOfSupplementary_4cfef : ByteArray := prog_18_method_49_code
def yJ2_indexOfSupplementary_4cfef : MethodName := ⟨RJ2, "indexOfSupplementary", "([BIII)I"⟩
abbrev cJ2_checkBoundsBeginEnd_d044e : ByteArray := prog_18_method_93_code
def yJ2_checkBoundsBeginEnd_d044e : MethodName := ⟨RJ2, "checkBoundsBeginEnd", "(II[B)V"⟩
def RJ10 : String := "java/lang/System"
def RJ7 : String := "java/util/Arrays"
abbrev cJ7_fill_d0a16 : ByteArray := prog_20_method_101_code
def yJ7_fill_d0a16 : MethodName := ⟨RJ7, "fill", "([JJ)V"⟩
abbrev cJ7_fill_53178 : ByteArray := prog_20_method_103_code
def yJ7_fill_53178 : MethodName := ⟨RJ7, "fill", "([II)V"⟩
def RJ3 : String := "jdk/internal/util/Preconditions"
abbrev cJ3_checkFromToIndex_8c36e : ByteArray := prog_21_method_12_code
def yJ3_checkFromToIndex_8c36e : MethodName := ⟨RJ3, "checkFromToIndex", "(IIILjava/util/function/BiFunction;)I"⟩
def RL : String := "PaidDebtsLaw"
abbrev cL_law : ByteArray := code
def yL_law : MethodName := ⟨RL, "law", "([I)Z"⟩
abbrev vwCl : List vw_C := [(RX0, TX0, 5), (RX1, TX1, 14), (RX2, TX2, 3), (RX3, TX3, 3), (RX4, TX4, 4), (RX5, TX5, 4), (RX6, TX6, 2), (RX7, TX7, 7), (RX8, TX8, 8), (RX9, TX9, 29)]
theorem inX0 : ∀ w ∈ wsX00, w ∈ lw_tbl := by decide +kernel
theorem inX1 : ∀ w ∈ wsX10, w ∈ lw_tbl := by decide +kernel
theorem inX2 : ∀ w ∈ wsX20, w ∈ lw_tbl := by decide +kernel
theorem inX3 : ∀ w ∈ wsX30, w ∈ lw_tbl := by decide +kernel
theorem inX4 : ∀ w ∈ wsX40, w ∈ lw_tbl := by decide +kernel
theorem inX5 : ∀ w ∈ wsX50, w ∈ lw_tbl := by decide +kernel
theorem inX6 : ∀ w ∈ wsX60, w ∈ lw_tbl := by decide +kernel
theorem inX7 : ∀ w ∈ wsX70, w ∈ lw_tbl := by decide +kernel
theorem inX8 : ∀ w ∈ wsX80, w ∈ lw_tbl := by decide +kernel
theorem inX9 : ∀ w ∈ wsX90, w ∈ lw_tbl := by decide +kernel
end
section
theorem dX0_init_0 : decode cX0_init 0 = .ok (.aload_n 0, 1) := by decide +kernel
theorem dX0_init_1 : decode cX0_init 1 = .ok (.invokespecial 3, 3) := by decide +kernel
theorem dX0_init_4 : decode cX0_init 4 = .ok (.aload_n 0, 1) := by decide +kernel
theorem dX0_init_5 : decode cX0_init 5 = .ok (.bipush 8, 2) := by decide +kernel
theorem dX0_init_7 : decode cX0_init 7 = .ok (.anewarray 9, 3) := by decide +kernel
theorem dX0_init_10 : decode cX0_init 10 = .ok (.putfield 11, 3) := by decide +kernel
theorem dX0_init_13 : decode cX0_init 13 = .ok (.aload_n 0, 1) := by decide +kernel
theorem dX0_init_14 : decode cX0_init 14 = .ok (.iconst 0, 1) := by decide +kernel
theorem dX0_init_15 : decode cX0_init 15 = .ok (.putfield 17, 3) := by decide +kernel
theorem dX0_init_18 : decode cX0_init 18 = .ok (.aload_n 0, 1) := by decide +kernel
theorem dX0_init_19 : decode cX0_init 19 = .ok (.bipush 12, 2) := by decide +kernel
theorem dX0_init_21 : decode cX0_init 21 = .ok (.anewarray 21, 3) := by decide +kernel
theorem dX0_init_24 : decode cX0_init 24 = .ok (.putfield 23, 3) := by decide +kernel
theorem dX0_init_27 : decode cX0_init 27 = .ok (.aload_n 0, 1) := by decide +kernel
theorem dX0_init_28 : decode cX0_init 28 = .ok (.iconst 0, 1) := by decide +kernel
theorem dX0_init_29 : decode cX0_init 29 = .ok (.putfield 27, 3) := by decide +kernel
theorem dX0_init_32 : decode cX0_init 32 = .ok (.aload_n 0, 1) := by decide +kernel
theorem dX0_init_33 : decode cX0_init 33 = .ok (.iconst 2, 1) := by decide +kernel
theorem dX0_init_34 : decode cX0_init 34 = .ok (.anewarray 30, 3) := by decide +kernel
theorem dX0_init_37 : decode cX0_init 37 = .ok (.putfield 32, 3) := by decide +kernel
theorem dX0_init_40 : decode cX0_init 40 = .ok (.iconst 0, 1) := by decide +kernel
theorem dX0_init_41 : decode cX0_init 41 = .ok (.istore_n 1, 1) := by decide +kernel
theorem dX0_init_42 : decode cX0_init 42 = .ok (.iload_n 1, 1) := by decide +kernel
theorem dX0_init_43 : decode cX0_init 43 = .ok (.bipush 8, 2) := by decide +kernel
theorem dX0_init_45 : decode cX0_init 45 = .ok (.if_icmp .ge 22, 3) := by decide +kernel
theorem dX0_init_48 : decode cX0_init 48 = .ok (.aload_n 0, 1) := by decide +kernel
theorem dX0_init_49 : decode cX0_init 49 = .ok (.getfield 11, 3) := by decide +kernel
theorem dX0_init_52 : decode cX0_init 52 = .ok (.iload_n 1, 1) := by decide +kernel
theorem dX0_init_53 : decode cX0_init 53 = .ok (.new 9, 3) := by decide +kernel
theorem dX0_init_56 : decode cX0_init 56 = .ok (.dup, 1) := by decide +kernel
theorem dX0_init_57 : decode cX0_init 57 = .ok (.invokespecial 36, 3) := by decide +kernel
theorem dX0_init_60 : decode cX0_init 60 = .ok (.aastore, 1) := by decide +kernel
theorem dX0_init_61 : decode cX0_init 61 = .ok (.iinc 1 1, 3) := by decide +kernel
theorem dX0_init_64 : decode cX0_init 64 = .ok (.goto (-22), 3) := by decide +kernel
theorem dX0_init_67 : decode cX0_init 67 = .ok (.iconst 0, 1) := by decide +kernel
theorem dX0_init_68 : decode cX0_init 68 = .ok (.istore_n 1, 1) := by decide +kernel
theorem dX0_init_69 : decode cX0_init 69 = .ok (.iload_n 1, 1) := by decide +kernel
theorem dX0_init_70 : decode cX0_init 70 = .ok (.bipush 12, 2) := by decide +kernel
theorem dX0_init_72 : decode cX0_init 72 = .ok (.if_icmp .ge 22, 3) := by decide +kernel
theorem dX0_init_75 : decode cX0_init 75 = .ok (.aload_n 0, 1) := by decide +kernel
theorem dX0_init_76 : decode cX0_init 76 = .ok (.getfield 23, 3) := by decide +kernel
theorem dX0_init_79 : decode cX0_init 79 = .ok (.iload_n 1, 1) := by decide +kernel
theorem dX0_init_80 : decode cX0_init 80 = .ok (.new 21, 3) := by decide +kernel
theorem dX0_init_83 : decode cX0_init 83 = .ok (.dup, 1) := by decide +kernel
theorem dX0_init_84 : decode cX0_init 84 = .ok (.invokespecial 37, 3) := by decide +kernel
theorem dX0_init_87 : decode cX0_init 87 = .ok (.aastore, 1) := by decide +kernel
theorem dX0_init_88 : decode cX0_init 88 = .ok (.iinc 1 1, 3) := by decide +kernel
theorem dX0_init_91 : decode cX0_init 91 = .ok (.goto (-22), 3) := by decide +kernel
theorem dX0_init_94 : decode cX0_init 94 = .ok (.iconst 0, 1) := by decide +kernel
theorem dX0_init_95 : decode cX0_init 95 = .ok (.istore_n 1, 1) := by decide +kernel
theorem dX0_init_96 : decode cX0_init 96 = .ok (.iload_n 1, 1) := by decide +kernel
theorem dX0_init_97 : decode cX0_init 97 = .ok (.iconst 2, 1) := by decide +kernel
theorem dX0_init_98 : decode cX0_init 98 = .ok (.if_icmp .ge 22, 3) := by decide +kernel
theorem dX0_init_101 : decode cX0_init 101 = .ok (.aload_n 0, 1) := by decide +kernel
theorem dX0_init_102 : decode cX0_init 102 = .ok (.getfield 32, 3) := by decide +kernel
theorem dX0_init_105 : decode cX0_init 105 = .ok (.iload_n 1, 1) := by decide +kernel
theorem dX0_init_106 : decode cX0_init 106 = .ok (.new 30, 3) := by decide +kernel
theorem dX0_init_109 : decode cX0_init 109 = .ok (.dup, 1) := by decide +kernel
theorem dX0_init_110 : decode cX0_init 110 = .ok (.invokespecial 38, 3) := by decide +kernel
theorem dX0_init_113 : decode cX0_init 113 = .ok (.aastore, 1) := by decide +kernel
theorem dX0_init_114 : decode cX0_init 114 = .ok (.iinc 1 1, 3) := by decide +kernel
theorem dX0_init_117 : decode cX0_init 117 = .ok (.goto (-21), 3) := by decide +kernel
theorem dX0_init_120 : decode cX0_init 120 = .ok (.return_, 1) := by decide +kernel
theorem dX0_addPayment_0 : decode cX0_addPayment 0 = .ok (.aload_n 0, 1) := by decide +kernel
theorem dX0_addPayment_1 : decode cX0_addPayment 1 = .ok (.getfield 27, 3) := by decide +kernel
theorem dX0_addPayment_4 : decode cX0_addPayment 4 = .ok (.bipush 12, 2) := by decide +kernel
theorem dX0_addPayment_6 : decode cX0_addPayment 6 = .ok (.if_icmp .ge 43, 3) := by decide +kernel
theorem dX0_addPayment_9 : decode cX0_addPayment 9 = .ok (.aload_n 0, 1) := by decide +kernel
theorem dX0_addPayment_10 : decode cX0_addPayment 10 = .ok (.getfield 23, 3) := by decide +kernel
theorem dX0_addPayment_13 : decode cX0_addPayment 13 = .ok (.aload_n 0, 1) := by decide +kernel
theorem dX0_addPayment_14 : decode cX0_addPayment 14 = .ok (.getfield 27, 3) := by decide +kernel
theorem dX0_addPayment_17 : decode cX0_addPayment 17 = .ok (.aaload, 1) := by decide +kernel
theorem dX0_addPayment_18 : decode cX0_addPayment 18 = .ok (.astore_n 3, 1) := by decide +kernel
theorem dX0_addPayment_19 : decode cX0_addPayment 19 = .ok (.aload_n 3, 1) := by decide +kernel
theorem dX0_addPayment_20 : decode cX0_addPayment 20 = .ok (.iload_n 1, 1) := by decide +kernel
theorem dX0_addPayment_21 : decode cX0_addPayment 21 = .ok (.putfield 39, 3) := by decide +kernel
theorem dX0_addPayment_24 : decode cX0_addPayment 24 = .ok (.aload_n 3, 1) := by decide +kernel
theorem dX0_addPayment_25 : decode cX0_addPayment 25 = .ok (.iload_n 2, 1) := by decide +kernel
theorem dX0_addPayment_26 : decode cX0_addPayment 26 = .ok (.putfield 42, 3) := by decide +kernel
theorem dX0_addPayment_29 : decode cX0_addPayment 29 = .ok (.aload_n 3, 1) := by decide +kernel
theorem dX0_addPayment_30 : decode cX0_addPayment 30 = .ok (.iconst (-1), 1) := by decide +kernel
theorem dX0_addPayment_31 : decode cX0_addPayment 31 = .ok (.putfield 45, 3) := by decide +kernel
theorem dX0_addPayment_34 : decode cX0_addPayment 34 = .ok (.aload_n 3, 1) := by decide +kernel
theorem dX0_addPayment_35 : decode cX0_addPayment 35 = .ok (.iconst (-1), 1) := by decide +kernel
theorem dX0_addPayment_36 : decode cX0_addPayment 36 = .ok (.putfield 48, 3) := by decide +kernel
theorem dX0_addPayment_39 : decode cX0_addPayment 39 = .ok (.aload_n 0, 1) := by decide +kernel
theorem dX0_addPayment_40 : decode cX0_addPayment 40 = .ok (.dup, 1) := by decide +kernel
theorem dX0_addPayment_41 : decode cX0_addPayment 41 = .ok (.getfield 27, 3) := by decide +kernel
theorem dX0_addPayment_44 : decode cX0_addPayment 44 = .ok (.iconst 1, 1) := by decide +kernel
theorem dX0_addPayment_45 : decode cX0_addPayment 45 = .ok (.iadd, 1) := by decide +kernel
theorem dX0_addPayment_46 : decode cX0_addPayment 46 = .ok (.putfield 27, 3) := by decide +kernel
theorem dX0_addPayment_49 : decode cX0_addPayment 49 = .ok (.return_, 1) := by decide +kernel
theorem dX0_debtsWithAtLeast_0 : decode cX0_debtsWithAtLeast 0 = .ok (.iconst 0, 1) := by decide +kernel
theorem dX0_debtsWithAtLeast_1 : decode cX0_debtsWithAtLeast 1 = .ok (.istore_n 3, 1) := by decide +kernel
theorem dX0_debtsWithAtLeast_2 : decode cX0_debtsWithAtLeast 2 = .ok (.iconst 0, 1) := by decide +kernel
theorem dX0_debtsWithAtLeast_3 : decode cX0_debtsWithAtLeast 3 = .ok (.istore 4, 2) := by decide +kernel
theorem dX0_debtsWithAtLeast_5 : decode cX0_debtsWithAtLeast 5 = .ok (.iload 4, 2) := by decide +kernel
theorem dX0_debtsWithAtLeast_7 : decode cX0_debtsWithAtLeast 7 = .ok (.aload_n 0, 1) := by decide +kernel
theorem dX0_debtsWithAtLeast_8 : decode cX0_debtsWithAtLeast 8 = .ok (.getfield 17, 3) := by decide +kernel
theorem dX0_debtsWithAtLeast_11 : decode cX0_debtsWithAtLeast 11 = .ok (.if_icmp .ge 28, 3) := by decide +kernel
theorem dX0_debtsWithAtLeast_14 : decode cX0_debtsWithAtLeast 14 = .ok (.aload_n 0, 1) := by decide +kernel
theorem dX0_debtsWithAtLeast_15 : decode cX0_debtsWithAtLeast 15 = .ok (.getfield 11, 3) := by decide +kernel
theorem dX0_debtsWithAtLeast_18 : decode cX0_debtsWithAtLeast 18 = .ok (.iload 4, 2) := by decide +kernel
theorem dX0_debtsWithAtLeast_20 : decode cX0_debtsWithAtLeast 20 = .ok (.aaload, 1) := by decide +kernel
theorem dX0_debtsWithAtLeast_21 : decode cX0_debtsWithAtLeast 21 = .ok (.getfield 51, 3) := by decide +kernel
theorem dX0_debtsWithAtLeast_24 : decode cX0_debtsWithAtLeast 24 = .ok (.iload_n 1, 1) := by decide +kernel
theorem dX0_debtsWithAtLeast_25 : decode cX0_debtsWithAtLeast 25 = .ok (.iaload, 1) := by decide +kernel
theorem dX0_debtsWithAtLeast_26 : decode cX0_debtsWithAtLeast 26 = .ok (.iload_n 2, 1) := by decide +kernel
theorem dX0_debtsWithAtLeast_27 : decode cX0_debtsWithAtLeast 27 = .ok (.if_icmp .lt 6, 3) := by decide +kernel
theorem dX0_debtsWithAtLeast_30 : decode cX0_debtsWithAtLeast 30 = .ok (.iinc 3 1, 3) := by decide +kernel
theorem dX0_debtsWithAtLeast_33 : decode cX0_debtsWithAtLeast 33 = .ok (.iinc 4 1, 3) := by decide +kernel
theorem dX0_debtsWithAtLeast_36 : decode cX0_debtsWithAtLeast 36 = .ok (.goto (-31), 3) := by decide +kernel
theorem dX0_debtsWithAtLeast_39 : decode cX0_debtsWithAtLeast 39 = .ok (.iload_n 3, 1) := by decide +kernel
theorem dX0_debtsWithAtLeast_40 : decode cX0_debtsWithAtLeast 40 = .ok (.ireturn, 1) := by decide +kernel
theorem dX0_copyFrom_0 : decode cX0_copyFrom 0 = .ok (.aload_n 0, 1) := by decide +kernel
theorem dX0_copyFrom_1 : decode cX0_copyFrom 1 = .ok (.aload_n 1, 1) := by decide +kernel
theorem dX0_copyFrom_2 : decode cX0_copyFrom 2 = .ok (.getfield 17, 3) := by decide +kernel
theorem dX0_copyFrom_5 : decode cX0_copyFrom 5 = .ok (.putfield 17, 3) := by decide +kernel
theorem dX0_copyFrom_8 : decode cX0_copyFrom 8 = .ok (.iconst 0, 1) := by decide +kernel
theorem dX0_copyFrom_9 : decode cX0_copyFrom 9 = .ok (.istore_n 2, 1) := by decide +kernel
theorem dX0_copyFrom_10 : decode cX0_copyFrom 10 = .ok (.iload_n 2, 1) := by decide +kernel
theorem dX0_copyFrom_11 : decode cX0_copyFrom 11 = .ok (.aload_n 0, 1) := by decide +kernel
theorem dX0_copyFrom_12 : decode cX0_copyFrom 12 = .ok (.getfield 17, 3) := by decide +kernel
theorem dX0_copyFrom_15 : decode cX0_copyFrom 15 = .ok (.if_icmp .ge 24, 3) := by decide +kernel
theorem dX0_copyFrom_18 : decode cX0_copyFrom 18 = .ok (.aload_n 0, 1) := by decide +kernel
theorem dX0_copyFrom_19 : decode cX0_copyFrom 19 = .ok (.getfield 11, 3) := by decide +kernel
theorem dX0_copyFrom_22 : decode cX0_copyFrom 22 = .ok (.iload_n 2, 1) := by decide +kernel
theorem dX0_copyFrom_23 : decode cX0_copyFrom 23 = .ok (.aaload, 1) := by decide +kernel
theorem dX0_copyFrom_24 : decode cX0_copyFrom 24 = .ok (.aload_n 1, 1) := by decide +kernel
theorem dX0_copyFrom_25 : decode cX0_copyFrom 25 = .ok (.getfield 11, 3) := by decide +kernel
theorem dX0_copyFrom_28 : decode cX0_copyFrom 28 = .ok (.iload_n 2, 1) := by decide +kernel
theorem dX0_copyFrom_29 : decode cX0_copyFrom 29 = .ok (.aaload, 1) := by decide +kernel
theorem dX0_copyFrom_30 : decode cX0_copyFrom 30 = .ok (.invokevirtual 55, 3) := by decide +kernel
theorem dX0_copyFrom_33 : decode cX0_copyFrom 33 = .ok (.iinc 2 1, 3) := by decide +kernel
theorem dX0_copyFrom_36 : decode cX0_copyFrom 36 = .ok (.goto (-26), 3) := by decide +kernel
theorem dX0_copyFrom_39 : decode cX0_copyFrom 39 = .ok (.aload_n 0, 1) := by decide +kernel
theorem dX0_copyFrom_40 : decode cX0_copyFrom 40 = .ok (.aload_n 1, 1) := by decide +kernel
theorem dX0_copyFrom_41 : decode cX0_copyFrom 41 = .ok (.getfield 27, 3) := by decide +kernel
theorem dX0_copyFrom_44 : decode cX0_copyFrom 44 = .ok (.putfield 27, 3) := by decide +kernel
theorem dX0_copyFrom_47 : decode cX0_copyFrom 47 = .ok (.iconst 0, 1) := by decide +kernel
theorem dX0_copyFrom_48 : decode cX0_copyFrom 48 = .ok (.istore_n 2, 1) := by decide +kernel
theorem dX0_copyFrom_49 : decode cX0_copyFrom 49 = .ok (.iload_n 2, 1) := by decide +kernel
theorem dX0_copyFrom_50 : decode cX0_copyFrom 50 = .ok (.aload_n 0, 1) := by decide +kernel
theorem dX0_copyFrom_51 : decode cX0_copyFrom 51 = .ok (.getfield 27, 3) := by decide +kernel
theorem dX0_copyFrom_54 : decode cX0_copyFrom 54 = .ok (.if_icmp .ge 24, 3) := by decide +kernel
theorem dX0_copyFrom_57 : decode cX0_copyFrom 57 = .ok (.aload_n 0, 1) := by decide +kernel
theorem dX0_copyFrom_58 : decode cX0_copyFrom 58 = .ok (.getfield 23, 3) := by decide +kernel
theorem dX0_copyFrom_61 : decode cX0_copyFrom 61 = .ok (.iload_n 2, 1) := by decide +kernel
theorem dX0_copyFrom_62 : decode cX0_copyFrom 62 = .ok (.aaload, 1) := by decide +kernel
theorem dX0_copyFrom_63 : decode cX0_copyFrom 63 = .ok (.aload_n 1, 1) := by decide +kernel
theorem dX0_copyFrom_64 : decode cX0_copyFrom 64 = .ok (.getfield 23, 3) := by decide +kernel
theorem dX0_copyFrom_67 : decode cX0_copyFrom 67 = .ok (.iload_n 2, 1) := by decide +kernel
theorem dX0_copyFrom_68 : decode cX0_copyFrom 68 = .ok (.aaload, 1) := by decide +kernel
theorem dX0_copyFrom_69 : decode cX0_copyFrom 69 = .ok (.invokevirtual 59, 3) := by decide +kernel
theorem dX0_copyFrom_72 : decode cX0_copyFrom 72 = .ok (.iinc 2 1, 3) := by decide +kernel
theorem dX0_copyFrom_75 : decode cX0_copyFrom 75 = .ok (.goto (-26), 3) := by decide +kernel
theorem dX0_copyFrom_78 : decode cX0_copyFrom 78 = .ok (.iconst 0, 1) := by decide +kernel
theorem dX0_copyFrom_79 : decode cX0_copyFrom 79 = .ok (.istore_n 2, 1) := by decide +kernel
theorem dX0_copyFrom_80 : decode cX0_copyFrom 80 = .ok (.iload_n 2, 1) := by decide +kernel
theorem dX0_copyFrom_81 : decode cX0_copyFrom 81 = .ok (.iconst 2, 1) := by decide +kernel
theorem dX0_copyFrom_82 : decode cX0_copyFrom 82 = .ok (.if_icmp .ge 24, 3) := by decide +kernel
theorem dX0_copyFrom_85 : decode cX0_copyFrom 85 = .ok (.aload_n 0, 1) := by decide +kernel
theorem dX0_copyFrom_86 : decode cX0_copyFrom 86 = .ok (.getfield 32, 3) := by decide +kernel
theorem dX0_copyFrom_89 : decode cX0_copyFrom 89 = .ok (.iload_n 2, 1) := by decide +kernel
theorem dX0_copyFrom_90 : decode cX0_copyFrom 90 = .ok (.aaload, 1) := by decide +kernel
theorem dX0_copyFrom_91 : decode cX0_copyFrom 91 = .ok (.aload_n 1, 1) := by decide +kernel
theorem dX0_copyFrom_92 : decode cX0_copyFrom 92 = .ok (.getfield 32, 3) := by decide +kernel
theorem dX0_copyFrom_95 : decode cX0_copyFrom 95 = .ok (.iload_n 2, 1) := by decide +kernel
theorem dX0_copyFrom_96 : decode cX0_copyFrom 96 = .ok (.aaload, 1) := by decide +kernel
theorem dX0_copyFrom_97 : decode cX0_copyFrom 97 = .ok (.invokevirtual 62, 3) := by decide +kernel
theorem dX0_copyFrom_100 : decode cX0_copyFrom 100 = .ok (.iinc 2 1, 3) := by decide +kernel
theorem dX0_copyFrom_103 : decode cX0_copyFrom 103 = .ok (.goto (-23), 3) := by decide +kernel
theorem dX0_copyFrom_106 : decode cX0_copyFrom 106 = .ok (.return_, 1) := by decide +kernel
theorem dX1_init_0 : decode cX1_init 0 = .ok (.aload_n 0, 1) := by decide +kernel
theorem dX1_init_1 : decode cX1_init 1 = .ok (.invokespecial 3, 3) := by decide +kernel
theorem dX1_init_4 : decode cX1_init 4 = .ok (.aload_n 0, 1) := by decide +kernel
theorem dX1_init_5 : decode cX1_init 5 = .ok (.new 9, 3) := by decide +kernel
theorem dX1_init_8 : decode cX1_init 8 = .ok (.dup, 1) := by decide +kernel
theorem dX1_init_9 : decode cX1_init 9 = .ok (.invokespecial 11, 3) := by decide +kernel
theorem dX1_init_12 : decode cX1_init 12 = .ok (.putfield 12, 3) := by decide +kernel
theorem dX1_init_15 : decode cX1_init 15 = .ok (.aload_n 0, 1) := by decide +kernel
theorem dX1_init_16 : decode cX1_init 16 = .ok (.new 18, 3) := by decide +kernel
theorem dX1_init_19 : decode cX1_init 19 = .ok (.dup, 1) := by decide +kernel
theorem dX1_init_20 : decode cX1_init 20 = .ok (.invokespecial 20, 3) := by decide +kernel
theorem dX1_init_23 : decode cX1_init 23 = .ok (.putfield 21, 3) := by decide +kernel
theorem dX1_init_26 : decode cX1_init 26 = .ok (.aload_n 0, 1) := by decide +kernel
theorem dX1_init_27 : decode cX1_init 27 = .ok (.iconst 0, 1) := by decide +kernel
theorem dX1_init_28 : decode cX1_init 28 = .ok (.putfield 25, 3) := by decide +kernel
theorem dX1_init_31 : decode cX1_init 31 = .ok (.aload_n 0, 1) := by decide +kernel
theorem dX1_init_32 : decode cX1_init 32 = .ok (.iconst (-1), 1) := by decide +kernel
theorem dX1_init_33 : decode cX1_init 33 = .ok (.putfield 29, 3) := by decide +kernel
theorem dX1_init_36 : decode cX1_init 36 = .ok (.aload_n 0, 1) := by decide +kernel
theorem dX1_init_37 : decode cX1_init 37 = .ok (.bipush 8, 2) := by decide +kernel
theorem dX1_init_39 : decode cX1_init 39 = .ok (.newarray .long, 2) := by decide +kernel
theorem dX1_init_41 : decode cX1_init 41 = .ok (.putfield 32, 3) := by decide +kernel
theorem dX1_init_44 : decode cX1_init 44 = .ok (.aload_n 0, 1) := by decide +kernel
theorem dX1_init_45 : decode cX1_init 45 = .ok (.bipush 8, 2) := by decide +kernel
theorem dX1_init_47 : decode cX1_init 47 = .ok (.newarray .long, 2) := by decide +kernel
theorem dX1_init_49 : decode cX1_init 49 = .ok (.putfield 36, 3) := by decide +kernel
theorem dX1_init_52 : decode cX1_init 52 = .ok (.aload_n 0, 1) := by decide +kernel
theorem dX1_init_53 : decode cX1_init 53 = .ok (.bipush 8, 2) := by decide +kernel
theorem dX1_init_55 : decode cX1_init 55 = .ok (.newarray .int, 2) := by decide +kernel
theorem dX1_init_57 : decode cX1_init 57 = .ok (.putfield 39, 3) := by decide +kernel
theorem dX1_init_60 : decode cX1_init 60 = .ok (.aload_n 0, 1) := by decide +kernel
theorem dX1_init_61 : decode cX1_init 61 = .ok (.bipush 8, 2) := by decide +kernel
theorem dX1_init_63 : decode cX1_init 63 = .ok (.newarray .int, 2) := by decide +kernel
theorem dX1_init_65 : decode cX1_init 65 = .ok (.putfield 43, 3) := by decide +kernel
theorem dX1_init_68 : decode cX1_init 68 = .ok (.aload_n 0, 1) := by decide +kernel
theorem dX1_init_69 : decode cX1_init 69 = .ok (.bipush 8, 2) := by decide +kernel
theorem dX1_init_71 : decode cX1_init 71 = .ok (.newarray .int, 2) := by decide +kernel
theorem dX1_init_73 : decode cX1_init 73 = .ok (.putfield 46, 3) := by decide +kernel
theorem dX1_init_76 : decode cX1_init 76 = .ok (.aload_n 0, 1) := by decide +kernel
theorem dX1_init_77 : decode cX1_init 77 = .ok (.bipush 8, 2) := by decide +kernel
theorem dX1_init_79 : decode cX1_init 79 = .ok (.newarray .boolean, 2) := by decide +kernel
theorem dX1_init_81 : decode cX1_init 81 = .ok (.putfield 49, 3) := by decide +kernel
theorem dX1_init_84 : decode cX1_init 84 = .ok (.aload_n 0, 1) := by decide +kernel
theorem dX1_init_85 : decode cX1_init 85 = .ok (.bipush 8, 2) := by decide +kernel
theorem dX1_init_87 : decode cX1_init 87 = .ok (.newarray .int, 2) := by decide +kernel
theorem dX1_init_89 : decode cX1_init 89 = .ok (.putfield 53, 3) := by decide +kernel
theorem dX1_init_92 : decode cX1_init 92 = .ok (.aload_n 0, 1) := by decide +kernel
theorem dX1_init_93 : decode cX1_init 93 = .ok (.bipush 8, 2) := by decide +kernel
theorem dX1_init_95 : decode cX1_init 95 = .ok (.newarray .long, 2) := by decide +kernel
theorem dX1_init_97 : decode cX1_init 97 = .ok (.putfield 56, 3) := by decide +kernel
theorem dX1_init_100 : decode cX1_init 100 = .ok (.aload_n 0, 1) := by decide +kernel
theorem dX1_init_101 : decode cX1_init 101 = .ok (.bipush 8, 2) := by decide +kernel
theorem dX1_init_103 : decode cX1_init 103 = .ok (.newarray .long, 2) := by decide +kernel
theorem dX1_init_105 : decode cX1_init 105 = .ok (.putfield 59, 3) := by decide +kernel
theorem dX1_init_108 : decode cX1_init 108 = .ok (.aload_n 0, 1) := by decide +kernel
theorem dX1_init_109 : decode cX1_init 109 = .ok (.lconst 0, 1) := by decide +kernel
theorem dX1_init_110 : decode cX1_init 110 = .ok (.putfield 62, 3) := by decide +kernel
theorem dX1_init_113 : decode cX1_init 113 = .ok (.return_, 1) := by decide +kernel
theorem dX1_start_0 : decode cX1_start 0 = .ok (.aload_n 0, 1) := by decide +kernel
theorem dX1_start_1 : decode cX1_start 1 = .ok (.getfield 12, 3) := by decide +kernel
theorem dX1_start_4 : decode cX1_start 4 = .ok (.aload_n 1, 1) := by decide +kernel
theorem dX1_start_5 : decode cX1_start 5 = .ok (.invokevirtual 66, 3) := by decide +kernel
theorem dX1_start_8 : decode cX1_start 8 = .ok (.aload_n 0, 1) := by decide +kernel
theorem dX1_start_9 : decode cX1_start 9 = .ok (.getfield 21, 3) := by decide +kernel
theorem dX1_start_12 : decode cX1_start 12 = .ok (.aload_n 1, 1) := by decide +kernel
theorem dX1_start_13 : decode cX1_start 13 = .ok (.getfield 70, 3) := by decide +kernel
theorem dX1_start_16 : decode cX1_start 16 = .ok (.iload_n 2, 1) := by decide +kernel
theorem dX1_start_17 : decode cX1_start 17 = .ok (.aaload, 1) := by decide +kernel
theorem dX1_start_18 : decode cX1_start 18 = .ok (.invokevirtual 74, 3) := by decide +kernel
theorem dX1_start_21 : decode cX1_start 21 = .ok (.aload_n 0, 1) := by decide +kernel
theorem dX1_start_22 : decode cX1_start 22 = .ok (.iconst 0, 1) := by decide +kernel
theorem dX1_start_23 : decode cX1_start 23 = .ok (.putfield 25, 3) := by decide +kernel
theorem dX1_start_26 : decode cX1_start 26 = .ok (.aload_n 0, 1) := by decide +kernel
theorem dX1_start_27 : decode cX1_start 27 = .ok (.iconst (-1), 1) := by decide +kernel
theorem dX1_start_28 : decode cX1_start 28 = .ok (.putfield 29, 3) := by decide +kernel
theorem dX1_start_31 : decode cX1_start 31 = .ok (.aload_n 0, 1) := by decide +kernel
theorem dX1_start_32 : decode cX1_start 32 = .ok (.lconst 0, 1) := by decide +kernel
theorem dX1_start_33 : decode cX1_start 33 = .ok (.putfield 62, 3) := by decide +kernel
theorem dX1_start_36 : decode cX1_start 36 = .ok (.iconst 0, 1) := by decide +kernel
theorem dX1_start_37 : decode cX1_start 37 = .ok (.istore_n 3, 1) := by decide +kernel
theorem dX1_start_38 : decode cX1_start 38 = .ok (.iload_n 3, 1) := by decide +kernel
theorem dX1_start_39 : decode cX1_start 39 = .ok (.aload_n 0, 1) := by decide +kernel
theorem dX1_start_40 : decode cX1_start 40 = .ok (.getfield 12, 3) := by decide +kernel
theorem dX1_start_43 : decode cX1_start 43 = .ok (.getfield 77, 3) := by decide +kernel
theorem dX1_start_46 : decode cX1_start 46 = .ok (.if_icmp .ge 60, 3) := by decide +kernel
theorem dX1_start_49 : decode cX1_start 49 = .ok (.aload_n 0, 1) := by decide +kernel
theorem dX1_start_50 : decode cX1_start 50 = .ok (.getfield 32, 3) := by decide +kernel
theorem dX1_start_53 : decode cX1_start 53 = .ok (.iload_n 3, 1) := by decide +kernel
theorem dX1_start_54 : decode cX1_start 54 = .ok (.aload_n 0, 1) := by decide +kernel
theorem dX1_start_55 : decode cX1_start 55 = .ok (.getfield 12, 3) := by decide +kernel
theorem dX1_start_58 : decode cX1_start 58 = .ok (.getfield 80, 3) := by decide +kernel
theorem dX1_start_61 : decode cX1_start 61 = .ok (.iload_n 3, 1) := by decide +kernel
theorem dX1_start_62 : decode cX1_start 62 = .ok (.aaload, 1) := by decide +kernel
theorem dX1_start_63 : decode cX1_start 63 = .ok (.getfield 84, 3) := by decide +kernel
theorem dX1_start_66 : decode cX1_start 66 = .ok (.i2l, 1) := by decide +kernel
theorem dX1_start_67 : decode cX1_start 67 = .ok (.ldc2_w 89, 3) := by decide +kernel
theorem dX1_start_70 : decode cX1_start 70 = .ok (.lmul, 1) := by decide +kernel
theorem dX1_start_71 : decode cX1_start 71 = .ok (.lastore, 1) := by decide +kernel
theorem dX1_start_72 : decode cX1_start 72 = .ok (.aload_n 0, 1) := by decide +kernel
theorem dX1_start_73 : decode cX1_start 73 = .ok (.getfield 36, 3) := by decide +kernel
theorem dX1_start_76 : decode cX1_start 76 = .ok (.iload_n 3, 1) := by decide +kernel
theorem dX1_start_77 : decode cX1_start 77 = .ok (.lconst 0, 1) := by decide +kernel
theorem dX1_start_78 : decode cX1_start 78 = .ok (.lastore, 1) := by decide +kernel
theorem dX1_start_79 : decode cX1_start 79 = .ok (.aload_n 0, 1) := by decide +kernel
theorem dX1_start_80 : decode cX1_start 80 = .ok (.getfield 39, 3) := by decide +kernel
theorem dX1_start_83 : decode cX1_start 83 = .ok (.iload_n 3, 1) := by decide +kernel
theorem dX1_start_84 : decode cX1_start 84 = .ok (.iconst (-1), 1) := by decide +kernel
theorem dX1_start_85 : decode cX1_start 85 = .ok (.iastore, 1) := by decide +kernel
theorem dX1_start_86 : decode cX1_start 86 = .ok (.aload_n 0, 1) := by decide +kernel
theorem dX1_start_87 : decode cX1_start 87 = .ok (.getfield 43, 3) := by decide +kernel
theorem dX1_start_90 : decode cX1_start 90 = .ok (.iload_n 3, 1) := by decide +kernel
theorem dX1_start_91 : decode cX1_start 91 = .ok (.iconst (-1), 1) := by decide +kernel
theorem dX1_start_92 : decode cX1_start 92 = .ok (.iastore, 1) := by decide +kernel
theorem dX1_start_93 : decode cX1_start 93 = .ok (.aload_n 0, 1) := by decide +kernel
theorem dX1_start_94 : decode cX1_start 94 = .ok (.getfield 46, 3) := by decide +kernel
theorem dX1_start_97 : decode cX1_start 97 = .ok (.iload_n 3, 1) := by decide +kernel
theorem dX1_start_98 : decode cX1_start 98 = .ok (.iconst (-1), 1) := by decide +kernel
theorem dX1_start_99 : decode cX1_start 99 = .ok (.iastore, 1) := by decide +kernel
theorem dX1_start_100 : decode cX1_start 100 = .ok (.iinc 3 1, 3) := by decide +kernel
theorem dX1_start_103 : decode cX1_start 103 = .ok (.goto (-65), 3) := by decide +kernel
theorem dX1_start_106 : decode cX1_start 106 = .ok (.return_, 1) := by decide +kernel
theorem dX1_standWith_0 : decode cX1_standWith 0 = .ok (.aload_n 0, 1) := by decide +kernel
theorem dX1_standWith_1 : decode cX1_standWith 1 = .ok (.aload_n 1, 1) := by decide +kernel
theorem dX1_standWith_2 : decode cX1_standWith 2 = .ok (.getfield 25, 3) := by decide +kernel
theorem dX1_standWith_5 : decode cX1_standWith 5 = .ok (.putfield 25, 3) := by decide +kernel
theorem dX1_standWith_8 : decode cX1_standWith 8 = .ok (.aload_n 0, 1) := by decide +kernel
theorem dX1_standWith_9 : decode cX1_standWith 9 = .ok (.aload_n 1, 1) := by decide +kernel
theorem dX1_standWith_10 : decode cX1_standWith 10 = .ok (.getfield 29, 3) := by decide +kernel
theorem dX1_standWith_13 : decode cX1_standWith 13 = .ok (.putfield 29, 3) := by decide +kernel
theorem dX1_standWith_16 : decode cX1_standWith 16 = .ok (.aload_n 1, 1) := by decide +kernel
theorem dX1_standWith_17 : decode cX1_standWith 17 = .ok (.getfield 32, 3) := by decide +kernel
theorem dX1_standWith_20 : decode cX1_standWith 20 = .ok (.iconst 0, 1) := by decide +kernel
theorem dX1_standWith_21 : decode cX1_standWith 21 = .ok (.aload_n 0, 1) := by decide +kernel
theorem dX1_standWith_22 : decode cX1_standWith 22 = .ok (.getfield 32, 3) := by decide +kernel
theorem dX1_standWith_25 : decode cX1_standWith 25 = .ok (.iconst 0, 1) := by decide +kernel
theorem dX1_standWith_26 : decode cX1_standWith 26 = .ok (.bipush 8, 2) := by decide +kernel
theorem dX1_standWith_28 : decode cX1_standWith 28 = .ok (.invokestatic 91, 3) := by decide +kernel
theorem dX1_standWith_31 : decode cX1_standWith 31 = .ok (.aload_n 1, 1) := by decide +kernel
theorem dX1_standWith_32 : decode cX1_standWith 32 = .ok (.getfield 36, 3) := by decide +kernel
theorem dX1_standWith_35 : decode cX1_standWith 35 = .ok (.iconst 0, 1) := by decide +kernel
theorem dX1_standWith_36 : decode cX1_standWith 36 = .ok (.aload_n 0, 1) := by decide +kernel
theorem dX1_standWith_37 : decode cX1_standWith 37 = .ok (.getfield 36, 3) := by decide +kernel
theorem dX1_standWith_40 : decode cX1_standWith 40 = .ok (.iconst 0, 1) := by decide +kernel
theorem dX1_standWith_41 : decode cX1_standWith 41 = .ok (.bipush 8, 2) := by decide +kernel
theorem dX1_standWith_43 : decode cX1_standWith 43 = .ok (.invokestatic 91, 3) := by decide +kernel
theorem dX1_standWith_46 : decode cX1_standWith 46 = .ok (.aload_n 1, 1) := by decide +kernel
theorem dX1_standWith_47 : decode cX1_standWith 47 = .ok (.getfield 39, 3) := by decide +kernel
theorem dX1_standWith_50 : decode cX1_standWith 50 = .ok (.iconst 0, 1) := by decide +kernel
theorem dX1_standWith_51 : decode cX1_standWith 51 = .ok (.aload_n 0, 1) := by decide +kernel
theorem dX1_standWith_52 : decode cX1_standWith 52 = .ok (.getfield 39, 3) := by decide +kernel
theorem dX1_standWith_55 : decode cX1_standWith 55 = .ok (.iconst 0, 1) := by decide +kernel
theorem dX1_standWith_56 : decode cX1_standWith 56 = .ok (.bipush 8, 2) := by decide +kernel
theorem dX1_standWith_58 : decode cX1_standWith 58 = .ok (.invokestatic 91, 3) := by decide +kernel
theorem dX1_standWith_61 : decode cX1_standWith 61 = .ok (.aload_n 1, 1) := by decide +kernel
theorem dX1_standWith_62 : decode cX1_standWith 62 = .ok (.getfield 43, 3) := by decide +kernel
theorem dX1_standWith_65 : decode cX1_standWith 65 = .ok (.iconst 0, 1) := by decide +kernel
theorem dX1_standWith_66 : decode cX1_standWith 66 = .ok (.aload_n 0, 1) := by decide +kernel
theorem dX1_standWith_67 : decode cX1_standWith 67 = .ok (.getfield 43, 3) := by decide +kernel
theorem dX1_standWith_70 : decode cX1_standWith 70 = .ok (.iconst 0, 1) := by decide +kernel
theorem dX1_standWith_71 : decode cX1_standWith 71 = .ok (.bipush 8, 2) := by decide +kernel
theorem dX1_standWith_73 : decode cX1_standWith 73 = .ok (.invokestatic 91, 3) := by decide +kernel
theorem dX1_standWith_76 : decode cX1_standWith 76 = .ok (.aload_n 1, 1) := by decide +kernel
theorem dX1_standWith_77 : decode cX1_standWith 77 = .ok (.getfield 46, 3) := by decide +kernel
theorem dX1_standWith_80 : decode cX1_standWith 80 = .ok (.iconst 0, 1) := by decide +kernel
theorem dX1_standWith_81 : decode cX1_standWith 81 = .ok (.aload_n 0, 1) := by decide +kernel
theorem dX1_standWith_82 : decode cX1_standWith 82 = .ok (.getfield 46, 3) := by decide +kernel
theorem dX1_standWith_85 : decode cX1_standWith 85 = .ok (.iconst 0, 1) := by decide +kernel
theorem dX1_standWith_86 : decode cX1_standWith 86 = .ok (.bipush 8, 2) := by decide +kernel
theorem dX1_standWith_88 : decode cX1_standWith 88 = .ok (.invokestatic 91, 3) := by decide +kernel
theorem dX1_standWith_91 : decode cX1_standWith 91 = .ok (.return_, 1) := by decide +kernel
theorem dX1_goAheadOf_0 : decode cX1_goAheadOf 0 = .ok (.aload_n 0, 1) := by decide +kernel
theorem dX1_goAheadOf_1 : decode cX1_goAheadOf 1 = .ok (.iload_n 1, 1) := by decide +kernel
theorem dX1_goAheadOf_2 : decode cX1_goAheadOf 2 = .ok (.iconst 1, 1) := by decide +kernel
theorem dX1_goAheadOf_3 : decode cX1_goAheadOf 3 = .ok (.isub, 1) := by decide +kernel
theorem dX1_goAheadOf_4 : decode cX1_goAheadOf 4 = .ok (.invokevirtual 97, 3) := by decide +kernel
theorem dX1_goAheadOf_7 : decode cX1_goAheadOf 7 = .ok (.aload_n 0, 1) := by decide +kernel
theorem dX1_goAheadOf_8 : decode cX1_goAheadOf 8 = .ok (.iload_n 1, 1) := by decide +kernel
theorem dX1_goAheadOf_9 : decode cX1_goAheadOf 9 = .ok (.invokevirtual 101, 3) := by decide +kernel
theorem dX1_goAheadOf_12 : decode cX1_goAheadOf 12 = .ok (.return_, 1) := by decide +kernel
theorem dX1_goBehind_0 : decode cX1_goBehind 0 = .ok (.aload_n 0, 1) := by decide +kernel
theorem dX1_goBehind_1 : decode cX1_goBehind 1 = .ok (.iload_n 1, 1) := by decide +kernel
theorem dX1_goBehind_2 : decode cX1_goBehind 2 = .ok (.invokevirtual 104, 3) := by decide +kernel
theorem dX1_goBehind_5 : decode cX1_goBehind 5 = .ok (.istore_n 2, 1) := by decide +kernel
theorem dX1_goBehind_6 : decode cX1_goBehind 6 = .ok (.iconst 0, 1) := by decide +kernel
theorem dX1_goBehind_7 : decode cX1_goBehind 7 = .ok (.istore_n 3, 1) := by decide +kernel
theorem dX1_goBehind_8 : decode cX1_goBehind 8 = .ok (.iload_n 3, 1) := by decide +kernel
theorem dX1_goBehind_9 : decode cX1_goBehind 9 = .ok (.bipush 12, 2) := by decide +kernel
theorem dX1_goBehind_11 : decode cX1_goBehind 11 = .ok (.if_icmp .ge 24, 3) := by decide +kernel
theorem dX1_goBehind_14 : decode cX1_goBehind 14 = .ok (.iload_n 2, 1) := by decide +kernel
theorem dX1_goBehind_15 : decode cX1_goBehind 15 = .ok (.ifCond .lt 20, 3) := by decide +kernel
theorem dX1_goBehind_18 : decode cX1_goBehind 18 = .ok (.aload_n 0, 1) := by decide +kernel
theorem dX1_goBehind_19 : decode cX1_goBehind 19 = .ok (.iload_n 2, 1) := by decide +kernel
theorem dX1_goBehind_20 : decode cX1_goBehind 20 = .ok (.invokevirtual 108, 3) := by decide +kernel
theorem dX1_goBehind_23 : decode cX1_goBehind 23 = .ok (.aload_n 0, 1) := by decide +kernel
theorem dX1_goBehind_24 : decode cX1_goBehind 24 = .ok (.iload_n 1, 1) := by decide +kernel
theorem dX1_goBehind_25 : decode cX1_goBehind 25 = .ok (.invokevirtual 104, 3) := by decide +kernel
theorem dX1_goBehind_28 : decode cX1_goBehind 28 = .ok (.istore_n 2, 1) := by decide +kernel
theorem dX1_goBehind_29 : decode cX1_goBehind 29 = .ok (.iinc 3 1, 3) := by decide +kernel
theorem dX1_goBehind_32 : decode cX1_goBehind 32 = .ok (.goto (-24), 3) := by decide +kernel
theorem dX1_goBehind_35 : decode cX1_goBehind 35 = .ok (.aload_n 0, 1) := by decide +kernel
theorem dX1_goBehind_36 : decode cX1_goBehind 36 = .ok (.iload_n 1, 1) := by decide +kernel
theorem dX1_goBehind_37 : decode cX1_goBehind 37 = .ok (.invokevirtual 101, 3) := by decide +kernel
theorem dX1_goBehind_40 : decode cX1_goBehind 40 = .ok (.return_, 1) := by decide +kernel
theorem dX1_takeUpTo_0 : decode cX1_takeUpTo 0 = .ok (.aload_n 0, 1) := by decide +kernel
theorem dX1_takeUpTo_1 : decode cX1_takeUpTo 1 = .ok (.sipush 299, 3) := by decide +kernel
theorem dX1_takeUpTo_4 : decode cX1_takeUpTo 4 = .ok (.invokevirtual 104, 3) := by decide +kernel
theorem dX1_takeUpTo_7 : decode cX1_takeUpTo 7 = .ok (.istore_n 2, 1) := by decide +kernel
theorem dX1_takeUpTo_8 : decode cX1_takeUpTo 8 = .ok (.iconst 0, 1) := by decide +kernel
theorem dX1_takeUpTo_9 : decode cX1_takeUpTo 9 = .ok (.istore_n 3, 1) := by decide +kernel
theorem dX1_takeUpTo_10 : decode cX1_takeUpTo 10 = .ok (.iload_n 3, 1) := by decide +kernel
theorem dX1_takeUpTo_11 : decode cX1_takeUpTo 11 = .ok (.bipush 12, 2) := by decide +kernel
theorem dX1_takeUpTo_13 : decode cX1_takeUpTo 13 = .ok (.if_icmp .ge 35, 3) := by decide +kernel
theorem dX1_takeUpTo_16 : decode cX1_takeUpTo 16 = .ok (.iload_n 2, 1) := by decide +kernel
theorem dX1_takeUpTo_17 : decode cX1_takeUpTo 17 = .ok (.ifCond .lt 31, 3) := by decide +kernel
theorem dX1_takeUpTo_20 : decode cX1_takeUpTo 20 = .ok (.aload_n 0, 1) := by decide +kernel
theorem dX1_takeUpTo_21 : decode cX1_takeUpTo 21 = .ok (.iload_n 2, 1) := by decide +kernel
theorem dX1_takeUpTo_22 : decode cX1_takeUpTo 22 = .ok (.invokevirtual 108, 3) := by decide +kernel
theorem dX1_takeUpTo_25 : decode cX1_takeUpTo 25 = .ok (.iload_n 2, 1) := by decide +kernel
theorem dX1_takeUpTo_26 : decode cX1_takeUpTo 26 = .ok (.iload_n 1, 1) := by decide +kernel
theorem dX1_takeUpTo_27 : decode cX1_takeUpTo 27 = .ok (.if_icmp .ne 7, 3) := by decide +kernel
theorem dX1_takeUpTo_30 : decode cX1_takeUpTo 30 = .ok (.iconst (-1), 1) := by decide +kernel
theorem dX1_takeUpTo_31 : decode cX1_takeUpTo 31 = .ok (.goto 10, 3) := by decide +kernel
theorem dX1_takeUpTo_34 : decode cX1_takeUpTo 34 = .ok (.aload_n 0, 1) := by decide +kernel
theorem dX1_takeUpTo_35 : decode cX1_takeUpTo 35 = .ok (.sipush 299, 3) := by decide +kernel
theorem dX1_takeUpTo_38 : decode cX1_takeUpTo 38 = .ok (.invokevirtual 104, 3) := by decide +kernel
theorem dX1_takeUpTo_41 : decode cX1_takeUpTo 41 = .ok (.istore_n 2, 1) := by decide +kernel
theorem dX1_takeUpTo_42 : decode cX1_takeUpTo 42 = .ok (.iinc 3 1, 3) := by decide +kernel
theorem dX1_takeUpTo_45 : decode cX1_takeUpTo 45 = .ok (.goto (-35), 3) := by decide +kernel
theorem dX1_takeUpTo_48 : decode cX1_takeUpTo 48 = .ok (.return_, 1) := by decide +kernel
theorem dX1_nextPayment_0 : decode cX1_nextPayment 0 = .ok (.iconst (-1), 1) := by decide +kernel
theorem dX1_nextPayment_1 : decode cX1_nextPayment 1 = .ok (.istore_n 2, 1) := by decide +kernel
theorem dX1_nextPayment_2 : decode cX1_nextPayment 2 = .ok (.iload_n 1, 1) := by decide +kernel
theorem dX1_nextPayment_3 : decode cX1_nextPayment 3 = .ok (.iconst 1, 1) := by decide +kernel
theorem dX1_nextPayment_4 : decode cX1_nextPayment 4 = .ok (.iadd, 1) := by decide +kernel
theorem dX1_nextPayment_5 : decode cX1_nextPayment 5 = .ok (.istore_n 3, 1) := by decide +kernel
theorem dX1_nextPayment_6 : decode cX1_nextPayment 6 = .ok (.iconst 0, 1) := by decide +kernel
theorem dX1_nextPayment_7 : decode cX1_nextPayment 7 = .ok (.istore 4, 2) := by decide +kernel
theorem dX1_nextPayment_9 : decode cX1_nextPayment 9 = .ok (.iload 4, 2) := by decide +kernel
theorem dX1_nextPayment_11 : decode cX1_nextPayment 11 = .ok (.aload_n 0, 1) := by decide +kernel
theorem dX1_nextPayment_12 : decode cX1_nextPayment 12 = .ok (.getfield 12, 3) := by decide +kernel
theorem dX1_nextPayment_15 : decode cX1_nextPayment 15 = .ok (.getfield 111, 3) := by decide +kernel
theorem dX1_nextPayment_18 : decode cX1_nextPayment 18 = .ok (.if_icmp .ge 75, 3) := by decide +kernel
theorem dX1_nextPayment_21 : decode cX1_nextPayment 21 = .ok (.aload_n 0, 1) := by decide +kernel
theorem dX1_nextPayment_22 : decode cX1_nextPayment 22 = .ok (.getfield 12, 3) := by decide +kernel
theorem dX1_nextPayment_25 : decode cX1_nextPayment 25 = .ok (.getfield 114, 3) := by decide +kernel
theorem dX1_nextPayment_28 : decode cX1_nextPayment 28 = .ok (.iload 4, 2) := by decide +kernel
theorem dX1_nextPayment_30 : decode cX1_nextPayment 30 = .ok (.aaload, 1) := by decide +kernel
theorem dX1_nextPayment_31 : decode cX1_nextPayment 31 = .ok (.getfield 118, 3) := by decide +kernel
theorem dX1_nextPayment_34 : decode cX1_nextPayment 34 = .ok (.istore 5, 2) := by decide +kernel
theorem dX1_nextPayment_36 : decode cX1_nextPayment 36 = .ok (.iload 5, 2) := by decide +kernel
theorem dX1_nextPayment_38 : decode cX1_nextPayment 38 = .ok (.aload_n 0, 1) := by decide +kernel
theorem dX1_nextPayment_39 : decode cX1_nextPayment 39 = .ok (.getfield 25, 3) := by decide +kernel
theorem dX1_nextPayment_42 : decode cX1_nextPayment 42 = .ok (.if_icmp .gt 21, 3) := by decide +kernel
theorem dX1_nextPayment_45 : decode cX1_nextPayment 45 = .ok (.iload 5, 2) := by decide +kernel
theorem dX1_nextPayment_47 : decode cX1_nextPayment 47 = .ok (.aload_n 0, 1) := by decide +kernel
theorem dX1_nextPayment_48 : decode cX1_nextPayment 48 = .ok (.getfield 25, 3) := by decide +kernel
theorem dX1_nextPayment_51 : decode cX1_nextPayment 51 = .ok (.if_icmp .ne 16, 3) := by decide +kernel
theorem dX1_nextPayment_54 : decode cX1_nextPayment 54 = .ok (.iload 4, 2) := by decide +kernel
theorem dX1_nextPayment_56 : decode cX1_nextPayment 56 = .ok (.aload_n 0, 1) := by decide +kernel
theorem dX1_nextPayment_57 : decode cX1_nextPayment 57 = .ok (.getfield 29, 3) := by decide +kernel
theorem dX1_nextPayment_60 : decode cX1_nextPayment 60 = .ok (.if_icmp .le 7, 3) := by decide +kernel
theorem dX1_nextPayment_63 : decode cX1_nextPayment 63 = .ok (.iconst 1, 1) := by decide +kernel
theorem dX1_nextPayment_64 : decode cX1_nextPayment 64 = .ok (.goto 4, 3) := by decide +kernel
theorem dX1_nextPayment_67 : decode cX1_nextPayment 67 = .ok (.iconst 0, 1) := by decide +kernel
theorem dX1_nextPayment_68 : decode cX1_nextPayment 68 = .ok (.istore 6, 2) := by decide +kernel
theorem dX1_nextPayment_70 : decode cX1_nextPayment 70 = .ok (.iload 6, 2) := by decide +kernel
theorem dX1_nextPayment_72 : decode cX1_nextPayment 72 = .ok (.ifCond .eq 15, 3) := by decide +kernel
theorem dX1_nextPayment_75 : decode cX1_nextPayment 75 = .ok (.iload 5, 2) := by decide +kernel
theorem dX1_nextPayment_77 : decode cX1_nextPayment 77 = .ok (.iload_n 3, 1) := by decide +kernel
theorem dX1_nextPayment_78 : decode cX1_nextPayment 78 = .ok (.if_icmp .ge 9, 3) := by decide +kernel
theorem dX1_nextPayment_81 : decode cX1_nextPayment 81 = .ok (.iload 4, 2) := by decide +kernel
theorem dX1_nextPayment_83 : decode cX1_nextPayment 83 = .ok (.istore_n 2, 1) := by decide +kernel
theorem dX1_nextPayment_84 : decode cX1_nextPayment 84 = .ok (.iload 5, 2) := by decide +kernel
theorem dX1_nextPayment_86 : decode cX1_nextPayment 86 = .ok (.istore_n 3, 1) := by decide +kernel
theorem dX1_nextPayment_87 : decode cX1_nextPayment 87 = .ok (.iinc 4 1, 3) := by decide +kernel
theorem dX1_nextPayment_90 : decode cX1_nextPayment 90 = .ok (.goto (-81), 3) := by decide +kernel
theorem dX1_nextPayment_93 : decode cX1_nextPayment 93 = .ok (.iload_n 2, 1) := by decide +kernel
theorem dX1_nextPayment_94 : decode cX1_nextPayment 94 = .ok (.ireturn, 1) := by decide +kernel
theorem dX1_take_0 : decode cX1_take 0 = .ok (.aload_n 0, 1) := by decide +kernel
theorem dX1_take_1 : decode cX1_take 1 = .ok (.getfield 12, 3) := by decide +kernel
theorem dX1_take_4 : decode cX1_take 4 = .ok (.getfield 114, 3) := by decide +kernel
theorem dX1_take_7 : decode cX1_take 7 = .ok (.iload_n 1, 1) := by decide +kernel
theorem dX1_take_8 : decode cX1_take 8 = .ok (.aaload, 1) := by decide +kernel
theorem dX1_take_9 : decode cX1_take 9 = .ok (.astore_n 2, 1) := by decide +kernel
theorem dX1_take_10 : decode cX1_take 10 = .ok (.aload_n 0, 1) := by decide +kernel
theorem dX1_take_11 : decode cX1_take 11 = .ok (.aload_n 2, 1) := by decide +kernel
theorem dX1_take_12 : decode cX1_take 12 = .ok (.getfield 118, 3) := by decide +kernel
theorem dX1_take_15 : decode cX1_take 15 = .ok (.invokevirtual 101, 3) := by decide +kernel
theorem dX1_take_18 : decode cX1_take 18 = .ok (.aload_n 0, 1) := by decide +kernel
theorem dX1_take_19 : decode cX1_take 19 = .ok (.iload_n 1, 1) := by decide +kernel
theorem dX1_take_20 : decode cX1_take 20 = .ok (.putfield 29, 3) := by decide +kernel
theorem dX1_take_23 : decode cX1_take 23 = .ok (.aload_n 0, 1) := by decide +kernel
theorem dX1_take_24 : decode cX1_take 24 = .ok (.aload_n 2, 1) := by decide +kernel
theorem dX1_take_25 : decode cX1_take 25 = .ok (.getfield 121, 3) := by decide +kernel
theorem dX1_take_28 : decode cX1_take 28 = .ok (.i2l, 1) := by decide +kernel
theorem dX1_take_29 : decode cX1_take 29 = .ok (.ldc2_w 89, 3) := by decide +kernel
theorem dX1_take_32 : decode cX1_take 32 = .ok (.lmul, 1) := by decide +kernel
theorem dX1_take_33 : decode cX1_take 33 = .ok (.aload_n 0, 1) := by decide +kernel
theorem dX1_take_34 : decode cX1_take 34 = .ok (.aload_n 2, 1) := by decide +kernel
theorem dX1_take_35 : decode cX1_take 35 = .ok (.invokevirtual 122, 3) := by decide +kernel
theorem dX1_take_38 : decode cX1_take 38 = .ok (.invokevirtual 126, 3) := by decide +kernel
theorem dX1_take_41 : decode cX1_take 41 = .ok (.return_, 1) := by decide +kernel
theorem dX1_runTo_0 : decode cX1_runTo 0 = .ok (.iload_n 1, 1) := by decide +kernel
theorem dX1_runTo_1 : decode cX1_runTo 1 = .ok (.aload_n 0, 1) := by decide +kernel
theorem dX1_runTo_2 : decode cX1_runTo 2 = .ok (.getfield 25, 3) := by decide +kernel
theorem dX1_runTo_5 : decode cX1_runTo 5 = .ok (.if_icmp .gt 4, 3) := by decide +kernel
theorem dX1_runTo_8 : decode cX1_runTo 8 = .ok (.return_, 1) := by decide +kernel
theorem dX1_runTo_9 : decode cX1_runTo 9 = .ok (.iconst 0, 1) := by decide +kernel
theorem dX1_runTo_10 : decode cX1_runTo 10 = .ok (.istore_n 2, 1) := by decide +kernel
theorem dX1_runTo_11 : decode cX1_runTo 11 = .ok (.iload_n 2, 1) := by decide +kernel
theorem dX1_runTo_12 : decode cX1_runTo 12 = .ok (.aload_n 0, 1) := by decide +kernel
theorem dX1_runTo_13 : decode cX1_runTo 13 = .ok (.getfield 12, 3) := by decide +kernel
theorem dX1_runTo_16 : decode cX1_runTo 16 = .ok (.getfield 77, 3) := by decide +kernel
theorem dX1_runTo_19 : decode cX1_runTo 19 = .ok (.if_icmp .ge 35, 3) := by decide +kernel
theorem dX1_runTo_22 : decode cX1_runTo 22 = .ok (.aload_n 0, 1) := by decide +kernel
theorem dX1_runTo_23 : decode cX1_runTo 23 = .ok (.iload_n 2, 1) := by decide +kernel
theorem dX1_runTo_24 : decode cX1_runTo 24 = .ok (.iload_n 1, 1) := by decide +kernel
theorem dX1_runTo_25 : decode cX1_runTo 25 = .ok (.aload_n 0, 1) := by decide +kernel
theorem dX1_runTo_26 : decode cX1_runTo 26 = .ok (.getfield 25, 3) := by decide +kernel
theorem dX1_runTo_29 : decode cX1_runTo 29 = .ok (.aload_n 0, 1) := by decide +kernel
theorem dX1_runTo_30 : decode cX1_runTo 30 = .ok (.getfield 12, 3) := by decide +kernel
theorem dX1_runTo_33 : decode cX1_runTo 33 = .ok (.getfield 80, 3) := by decide +kernel
theorem dX1_runTo_36 : decode cX1_runTo 36 = .ok (.iload_n 2, 1) := by decide +kernel
theorem dX1_runTo_37 : decode cX1_runTo 37 = .ok (.aaload, 1) := by decide +kernel
theorem dX1_runTo_38 : decode cX1_runTo 38 = .ok (.getfield 130, 3) := by decide +kernel
theorem dX1_runTo_41 : decode cX1_runTo 41 = .ok (.invokestatic 133, 3) := by decide +kernel
theorem dX1_runTo_44 : decode cX1_runTo 44 = .ok (.isub, 1) := by decide +kernel
theorem dX1_runTo_45 : decode cX1_runTo 45 = .ok (.invokevirtual 139, 3) := by decide +kernel
theorem dX1_runTo_48 : decode cX1_runTo 48 = .ok (.iinc 2 1, 3) := by decide +kernel
theorem dX1_runTo_51 : decode cX1_runTo 51 = .ok (.goto (-40), 3) := by decide +kernel
theorem dX1_runTo_54 : decode cX1_runTo 54 = .ok (.aload_n 0, 1) := by decide +kernel
theorem dX1_runTo_55 : decode cX1_runTo 55 = .ok (.iload_n 1, 1) := by decide +kernel
theorem dX1_runTo_56 : decode cX1_runTo 56 = .ok (.putfield 25, 3) := by decide +kernel
theorem dX1_runTo_59 : decode cX1_runTo 59 = .ok (.aload_n 0, 1) := by decide +kernel
theorem dX1_runTo_60 : decode cX1_runTo 60 = .ok (.iconst (-1), 1) := by decide +kernel
theorem dX1_runTo_61 : decode cX1_runTo 61 = .ok (.putfield 29, 3) := by decide +kernel
theorem dX1_runTo_64 : decode cX1_runTo 64 = .ok (.return_, 1) := by decide +kernel
theorem dX1_runOn_0 : decode cX1_runOn 0 = .ok (.aload_n 0, 1) := by decide +kernel
theorem dX1_runOn_1 : decode cX1_runOn 1 = .ok (.getfield 12, 3) := by decide +kernel
theorem dX1_runOn_4 : decode cX1_runOn 4 = .ok (.getfield 80, 3) := by decide +kernel
theorem dX1_runOn_7 : decode cX1_runOn 7 = .ok (.iload_n 1, 1) := by decide +kernel
theorem dX1_runOn_8 : decode cX1_runOn 8 = .ok (.aaload, 1) := by decide +kernel
theorem dX1_runOn_9 : decode cX1_runOn 9 = .ok (.getfield 143, 3) := by decide +kernel
theorem dX1_runOn_12 : decode cX1_runOn 12 = .ok (.iconst 4, 1) := by decide +kernel
theorem dX1_runOn_13 : decode cX1_runOn 13 = .ok (.iaload, 1) := by decide +kernel
theorem dX1_runOn_14 : decode cX1_runOn 14 = .ok (.istore_n 3, 1) := by decide +kernel
theorem dX1_runOn_15 : decode cX1_runOn 15 = .ok (.iload_n 2, 1) := by decide +kernel
theorem dX1_runOn_16 : decode cX1_runOn 16 = .ok (.ifCond .le 7, 3) := by decide +kernel
theorem dX1_runOn_19 : decode cX1_runOn 19 = .ok (.iload_n 3, 1) := by decide +kernel
theorem dX1_runOn_20 : decode cX1_runOn 20 = .ok (.ifCond .ne 4, 3) := by decide +kernel
theorem dX1_runOn_23 : decode cX1_runOn 23 = .ok (.return_, 1) := by decide +kernel
theorem dX1_runOn_24 : decode cX1_runOn 24 = .ok (.aload_n 0, 1) := by decide +kernel
theorem dX1_runOn_25 : decode cX1_runOn 25 = .ok (.getfield 12, 3) := by decide +kernel
theorem dX1_runOn_28 : decode cX1_runOn 28 = .ok (.getfield 80, 3) := by decide +kernel
theorem dX1_runOn_31 : decode cX1_runOn 31 = .ok (.iload_n 1, 1) := by decide +kernel
theorem dX1_runOn_32 : decode cX1_runOn 32 = .ok (.aaload, 1) := by decide +kernel
theorem dX1_runOn_33 : decode cX1_runOn 33 = .ok (.getfield 143, 3) := by decide +kernel
theorem dX1_runOn_36 : decode cX1_runOn 36 = .ok (.iconst 0, 1) := by decide +kernel
theorem dX1_runOn_37 : decode cX1_runOn 37 = .ok (.iaload, 1) := by decide +kernel
theorem dX1_runOn_38 : decode cX1_runOn 38 = .ok (.ifCond .ne 29, 3) := by decide +kernel
theorem dX1_runOn_41 : decode cX1_runOn 41 = .ok (.aload_n 0, 1) := by decide +kernel
theorem dX1_runOn_42 : decode cX1_runOn 42 = .ok (.getfield 36, 3) := by decide +kernel
theorem dX1_runOn_45 : decode cX1_runOn 45 = .ok (.iload_n 1, 1) := by decide +kernel
theorem dX1_runOn_46 : decode cX1_runOn 46 = .ok (.dup2, 1) := by decide +kernel
theorem dX1_runOn_47 : decode cX1_runOn 47 = .ok (.laload, 1) := by decide +kernel
theorem dX1_runOn_48 : decode cX1_runOn 48 = .ok (.aload_n 0, 1) := by decide +kernel
theorem dX1_runOn_49 : decode cX1_runOn 49 = .ok (.getfield 32, 3) := by decide +kernel
theorem dX1_runOn_52 : decode cX1_runOn 52 = .ok (.iload_n 1, 1) := by decide +kernel
theorem dX1_runOn_53 : decode cX1_runOn 53 = .ok (.laload, 1) := by decide +kernel
theorem dX1_runOn_54 : decode cX1_runOn 54 = .ok (.iload_n 3, 1) := by decide +kernel
theorem dX1_runOn_55 : decode cX1_runOn 55 = .ok (.i2l, 1) := by decide +kernel
theorem dX1_runOn_56 : decode cX1_runOn 56 = .ok (.lmul, 1) := by decide +kernel
theorem dX1_runOn_57 : decode cX1_runOn 57 = .ok (.ldc2_w 89, 3) := by decide +kernel
theorem dX1_runOn_60 : decode cX1_runOn 60 = .ok (.ldiv, 1) := by decide +kernel
theorem dX1_runOn_61 : decode cX1_runOn 61 = .ok (.iload_n 2, 1) := by decide +kernel
theorem dX1_runOn_62 : decode cX1_runOn 62 = .ok (.i2l, 1) := by decide +kernel
theorem dX1_runOn_63 : decode cX1_runOn 63 = .ok (.lmul, 1) := by decide +kernel
theorem dX1_runOn_64 : decode cX1_runOn 64 = .ok (.ladd, 1) := by decide +kernel
theorem dX1_runOn_65 : decode cX1_runOn 65 = .ok (.lastore, 1) := by decide +kernel
theorem dX1_runOn_66 : decode cX1_runOn 66 = .ok (.return_, 1) := by decide +kernel
theorem dX1_runOn_67 : decode cX1_runOn 67 = .ok (.aload_n 0, 1) := by decide +kernel
theorem dX1_runOn_68 : decode cX1_runOn 68 = .ok (.getfield 36, 3) := by decide +kernel
theorem dX1_runOn_71 : decode cX1_runOn 71 = .ok (.iload_n 1, 1) := by decide +kernel
theorem dX1_runOn_72 : decode cX1_runOn 72 = .ok (.laload, 1) := by decide +kernel
theorem dX1_runOn_73 : decode cX1_runOn 73 = .ok (.lstore 4, 2) := by decide +kernel
theorem dX1_runOn_75 : decode cX1_runOn 75 = .ok (.iconst 0, 1) := by decide +kernel
theorem dX1_runOn_76 : decode cX1_runOn 76 = .ok (.istore 6, 2) := by decide +kernel
theorem dX1_runOn_78 : decode cX1_runOn 78 = .ok (.iload 6, 2) := by decide +kernel
theorem dX1_runOn_80 : decode cX1_runOn 80 = .ok (.iload_n 2, 1) := by decide +kernel
theorem dX1_runOn_81 : decode cX1_runOn 81 = .ok (.if_icmp .ge 30, 3) := by decide +kernel
theorem dX1_runOn_84 : decode cX1_runOn 84 = .ok (.lload 4, 2) := by decide +kernel
theorem dX1_runOn_86 : decode cX1_runOn 86 = .ok (.aload_n 0, 1) := by decide +kernel
theorem dX1_runOn_87 : decode cX1_runOn 87 = .ok (.getfield 32, 3) := by decide +kernel
theorem dX1_runOn_90 : decode cX1_runOn 90 = .ok (.iload_n 1, 1) := by decide +kernel
theorem dX1_runOn_91 : decode cX1_runOn 91 = .ok (.laload, 1) := by decide +kernel
theorem dX1_runOn_92 : decode cX1_runOn 92 = .ok (.lload 4, 2) := by decide +kernel
theorem dX1_runOn_94 : decode cX1_runOn 94 = .ok (.ladd, 1) := by decide +kernel
theorem dX1_runOn_95 : decode cX1_runOn 95 = .ok (.iload_n 3, 1) := by decide +kernel
theorem dX1_runOn_96 : decode cX1_runOn 96 = .ok (.i2l, 1) := by decide +kernel
theorem dX1_runOn_97 : decode cX1_runOn 97 = .ok (.lmul, 1) := by decide +kernel
theorem dX1_runOn_98 : decode cX1_runOn 98 = .ok (.ldc2_w 89, 3) := by decide +kernel
theorem dX1_runOn_101 : decode cX1_runOn 101 = .ok (.ldiv, 1) := by decide +kernel
theorem dX1_runOn_102 : decode cX1_runOn 102 = .ok (.ladd, 1) := by decide +kernel
theorem dX1_runOn_103 : decode cX1_runOn 103 = .ok (.lstore 4, 2) := by decide +kernel
theorem dX1_runOn_105 : decode cX1_runOn 105 = .ok (.iinc 6 1, 3) := by decide +kernel
theorem dX1_runOn_108 : decode cX1_runOn 108 = .ok (.goto (-30), 3) := by decide +kernel
theorem dX1_runOn_111 : decode cX1_runOn 111 = .ok (.aload_n 0, 1) := by decide +kernel
theorem dX1_runOn_112 : decode cX1_runOn 112 = .ok (.getfield 36, 3) := by decide +kernel
theorem dX1_runOn_115 : decode cX1_runOn 115 = .ok (.iload_n 1, 1) := by decide +kernel
theorem dX1_runOn_116 : decode cX1_runOn 116 = .ok (.lload 4, 2) := by decide +kernel
theorem dX1_runOn_118 : decode cX1_runOn 118 = .ok (.lastore, 1) := by decide +kernel
theorem dX1_runOn_119 : decode cX1_runOn 119 = .ok (.return_, 1) := by decide +kernel
theorem dX1_isOpen_0 : decode cX1_isOpen 0 = .ok (.iload_n 1, 1) := by decide +kernel
theorem dX1_isOpen_1 : decode cX1_isOpen 1 = .ok (.ifCond .lt 55, 3) := by decide +kernel
theorem dX1_isOpen_4 : decode cX1_isOpen 4 = .ok (.iload_n 1, 1) := by decide +kernel
theorem dX1_isOpen_5 : decode cX1_isOpen 5 = .ok (.aload_n 0, 1) := by decide +kernel
theorem dX1_isOpen_6 : decode cX1_isOpen 6 = .ok (.getfield 12, 3) := by decide +kernel
theorem dX1_isOpen_9 : decode cX1_isOpen 9 = .ok (.getfield 77, 3) := by decide +kernel
theorem dX1_isOpen_12 : decode cX1_isOpen 12 = .ok (.if_icmp .ge 44, 3) := by decide +kernel
theorem dX1_isOpen_15 : decode cX1_isOpen 15 = .ok (.aload_n 0, 1) := by decide +kernel
theorem dX1_isOpen_16 : decode cX1_isOpen 16 = .ok (.getfield 12, 3) := by decide +kernel
theorem dX1_isOpen_19 : decode cX1_isOpen 19 = .ok (.getfield 80, 3) := by decide +kernel
theorem dX1_isOpen_22 : decode cX1_isOpen 22 = .ok (.iload_n 1, 1) := by decide +kernel
theorem dX1_isOpen_23 : decode cX1_isOpen 23 = .ok (.aaload, 1) := by decide +kernel
theorem dX1_isOpen_24 : decode cX1_isOpen 24 = .ok (.getfield 130, 3) := by decide +kernel
theorem dX1_isOpen_27 : decode cX1_isOpen 27 = .ok (.aload_n 0, 1) := by decide +kernel
theorem dX1_isOpen_28 : decode cX1_isOpen 28 = .ok (.getfield 25, 3) := by decide +kernel
theorem dX1_isOpen_31 : decode cX1_isOpen 31 = .ok (.if_icmp .gt 25, 3) := by decide +kernel
theorem dX1_isOpen_34 : decode cX1_isOpen 34 = .ok (.aload_n 0, 1) := by decide +kernel
theorem dX1_isOpen_35 : decode cX1_isOpen 35 = .ok (.getfield 32, 3) := by decide +kernel
theorem dX1_isOpen_38 : decode cX1_isOpen 38 = .ok (.iload_n 1, 1) := by decide +kernel
theorem dX1_isOpen_39 : decode cX1_isOpen 39 = .ok (.laload, 1) := by decide +kernel
theorem dX1_isOpen_40 : decode cX1_isOpen 40 = .ok (.aload_n 0, 1) := by decide +kernel
theorem dX1_isOpen_41 : decode cX1_isOpen 41 = .ok (.getfield 36, 3) := by decide +kernel
theorem dX1_isOpen_44 : decode cX1_isOpen 44 = .ok (.iload_n 1, 1) := by decide +kernel
theorem dX1_isOpen_45 : decode cX1_isOpen 45 = .ok (.laload, 1) := by decide +kernel
theorem dX1_isOpen_46 : decode cX1_isOpen 46 = .ok (.ladd, 1) := by decide +kernel
theorem dX1_isOpen_47 : decode cX1_isOpen 47 = .ok (.lconst 0, 1) := by decide +kernel
theorem dX1_isOpen_48 : decode cX1_isOpen 48 = .ok (.lcmp, 1) := by decide +kernel
theorem dX1_isOpen_49 : decode cX1_isOpen 49 = .ok (.ifCond .le 7, 3) := by decide +kernel
theorem dX1_isOpen_52 : decode cX1_isOpen 52 = .ok (.iconst 1, 1) := by decide +kernel
theorem dX1_isOpen_53 : decode cX1_isOpen 53 = .ok (.goto 4, 3) := by decide +kernel
theorem dX1_isOpen_56 : decode cX1_isOpen 56 = .ok (.iconst 0, 1) := by decide +kernel
theorem dX1_isOpen_57 : decode cX1_isOpen 57 = .ok (.ireturn, 1) := by decide +kernel
theorem dX1_sumLeft_0 : decode cX1_sumLeft 0 = .ok (.aload_n 0, 1) := by decide +kernel
theorem dX1_sumLeft_1 : decode cX1_sumLeft 1 = .ok (.getfield 12, 3) := by decide +kernel
theorem dX1_sumLeft_4 : decode cX1_sumLeft 4 = .ok (.getfield 80, 3) := by decide +kernel
theorem dX1_sumLeft_7 : decode cX1_sumLeft 7 = .ok (.iload_n 1, 1) := by decide +kernel
theorem dX1_sumLeft_8 : decode cX1_sumLeft 8 = .ok (.aaload, 1) := by decide +kernel
theorem dX1_sumLeft_9 : decode cX1_sumLeft 9 = .ok (.getfield 130, 3) := by decide +kernel
theorem dX1_sumLeft_12 : decode cX1_sumLeft 12 = .ok (.aload_n 0, 1) := by decide +kernel
theorem dX1_sumLeft_13 : decode cX1_sumLeft 13 = .ok (.getfield 25, 3) := by decide +kernel
theorem dX1_sumLeft_16 : decode cX1_sumLeft 16 = .ok (.if_icmp .gt 12, 3) := by decide +kernel
theorem dX1_sumLeft_19 : decode cX1_sumLeft 19 = .ok (.aload_n 0, 1) := by decide +kernel
theorem dX1_sumLeft_20 : decode cX1_sumLeft 20 = .ok (.getfield 32, 3) := by decide +kernel
theorem dX1_sumLeft_23 : decode cX1_sumLeft 23 = .ok (.iload_n 1, 1) := by decide +kernel
theorem dX1_sumLeft_24 : decode cX1_sumLeft 24 = .ok (.laload, 1) := by decide +kernel
theorem dX1_sumLeft_25 : decode cX1_sumLeft 25 = .ok (.goto 4, 3) := by decide +kernel
theorem dX1_sumLeft_28 : decode cX1_sumLeft 28 = .ok (.lconst 0, 1) := by decide +kernel
theorem dX1_sumLeft_29 : decode cX1_sumLeft 29 = .ok (.lreturn, 1) := by decide +kernel
theorem dX1_runLeft_0 : decode cX1_runLeft 0 = .ok (.aload_n 0, 1) := by decide +kernel
theorem dX1_runLeft_1 : decode cX1_runLeft 1 = .ok (.getfield 12, 3) := by decide +kernel
theorem dX1_runLeft_4 : decode cX1_runLeft 4 = .ok (.getfield 80, 3) := by decide +kernel
theorem dX1_runLeft_7 : decode cX1_runLeft 7 = .ok (.iload_n 1, 1) := by decide +kernel
theorem dX1_runLeft_8 : decode cX1_runLeft 8 = .ok (.aaload, 1) := by decide +kernel
theorem dX1_runLeft_9 : decode cX1_runLeft 9 = .ok (.getfield 130, 3) := by decide +kernel
theorem dX1_runLeft_12 : decode cX1_runLeft 12 = .ok (.aload_n 0, 1) := by decide +kernel
theorem dX1_runLeft_13 : decode cX1_runLeft 13 = .ok (.getfield 25, 3) := by decide +kernel
theorem dX1_runLeft_16 : decode cX1_runLeft 16 = .ok (.if_icmp .gt 12, 3) := by decide +kernel
theorem dX1_runLeft_19 : decode cX1_runLeft 19 = .ok (.aload_n 0, 1) := by decide +kernel
theorem dX1_runLeft_20 : decode cX1_runLeft 20 = .ok (.getfield 36, 3) := by decide +kernel
theorem dX1_runLeft_23 : decode cX1_runLeft 23 = .ok (.iload_n 1, 1) := by decide +kernel
theorem dX1_runLeft_24 : decode cX1_runLeft 24 = .ok (.laload, 1) := by decide +kernel
theorem dX1_runLeft_25 : decode cX1_runLeft 25 = .ok (.goto 4, 3) := by decide +kernel
theorem dX1_runLeft_28 : decode cX1_runLeft 28 = .ok (.lconst 0, 1) := by decide +kernel
theorem dX1_runLeft_29 : decode cX1_runLeft 29 = .ok (.lreturn, 1) := by decide +kernel
theorem dX1_leftOf_0 : decode cX1_leftOf 0 = .ok (.aload_n 0, 1) := by decide +kernel
theorem dX1_leftOf_1 : decode cX1_leftOf 1 = .ok (.iload_n 1, 1) := by decide +kernel
theorem dX1_leftOf_2 : decode cX1_leftOf 2 = .ok (.invokevirtual 146, 3) := by decide +kernel
theorem dX1_leftOf_5 : decode cX1_leftOf 5 = .ok (.aload_n 0, 1) := by decide +kernel
theorem dX1_leftOf_6 : decode cX1_leftOf 6 = .ok (.iload_n 1, 1) := by decide +kernel
theorem dX1_leftOf_7 : decode cX1_leftOf 7 = .ok (.invokevirtual 150, 3) := by decide +kernel
theorem dX1_leftOf_10 : decode cX1_leftOf 10 = .ok (.ladd, 1) := by decide +kernel
theorem dX1_leftOf_11 : decode cX1_leftOf 11 = .ok (.lreturn, 1) := by decide +kernel
theorem dX1_owedNow_0 : decode cX1_owedNow 0 = .ok (.lconst 0, 1) := by decide +kernel
theorem dX1_owedNow_1 : decode cX1_owedNow 1 = .ok (.lstore_n 1, 1) := by decide +kernel
theorem dX1_owedNow_2 : decode cX1_owedNow 2 = .ok (.iconst 0, 1) := by decide +kernel
theorem dX1_owedNow_3 : decode cX1_owedNow 3 = .ok (.istore_n 3, 1) := by decide +kernel
theorem dX1_owedNow_4 : decode cX1_owedNow 4 = .ok (.iload_n 3, 1) := by decide +kernel
theorem dX1_owedNow_5 : decode cX1_owedNow 5 = .ok (.aload_n 0, 1) := by decide +kernel
theorem dX1_owedNow_6 : decode cX1_owedNow 6 = .ok (.getfield 12, 3) := by decide +kernel
theorem dX1_owedNow_9 : decode cX1_owedNow 9 = .ok (.getfield 77, 3) := by decide +kernel
theorem dX1_owedNow_12 : decode cX1_owedNow 12 = .ok (.if_icmp .ge 17, 3) := by decide +kernel
theorem dX1_owedNow_15 : decode cX1_owedNow 15 = .ok (.lload_n 1, 1) := by decide +kernel
theorem dX1_owedNow_16 : decode cX1_owedNow 16 = .ok (.aload_n 0, 1) := by decide +kernel
theorem dX1_owedNow_17 : decode cX1_owedNow 17 = .ok (.iload_n 3, 1) := by decide +kernel
theorem dX1_owedNow_18 : decode cX1_owedNow 18 = .ok (.invokevirtual 153, 3) := by decide +kernel
theorem dX1_owedNow_21 : decode cX1_owedNow 21 = .ok (.ladd, 1) := by decide +kernel
theorem dX1_owedNow_22 : decode cX1_owedNow 22 = .ok (.lstore_n 1, 1) := by decide +kernel
theorem dX1_owedNow_23 : decode cX1_owedNow 23 = .ok (.iinc 3 1, 3) := by decide +kernel
theorem dX1_owedNow_26 : decode cX1_owedNow 26 = .ok (.goto (-22), 3) := by decide +kernel
theorem dX1_owedNow_29 : decode cX1_owedNow 29 = .ok (.lload_n 1, 1) := by decide +kernel
theorem dX1_owedNow_30 : decode cX1_owedNow 30 = .ok (.lreturn, 1) := by decide +kernel
theorem dX1_isLeftAlike_0 : decode cX1_isLeftAlike 0 = .ok (.iconst 0, 1) := by decide +kernel
theorem dX1_isLeftAlike_1 : decode cX1_isLeftAlike 1 = .ok (.istore_n 2, 1) := by decide +kernel
theorem dX1_isLeftAlike_2 : decode cX1_isLeftAlike 2 = .ok (.iload_n 2, 1) := by decide +kernel
theorem dX1_isLeftAlike_3 : decode cX1_isLeftAlike 3 = .ok (.aload_n 0, 1) := by decide +kernel
theorem dX1_isLeftAlike_4 : decode cX1_isLeftAlike 4 = .ok (.getfield 12, 3) := by decide +kernel
theorem dX1_isLeftAlike_7 : decode cX1_isLeftAlike 7 = .ok (.getfield 77, 3) := by decide +kernel
theorem dX1_isLeftAlike_10 : decode cX1_isLeftAlike 10 = .ok (.if_icmp .ge 25, 3) := by decide +kernel
theorem dX1_isLeftAlike_13 : decode cX1_isLeftAlike 13 = .ok (.aload_n 0, 1) := by decide +kernel
theorem dX1_isLeftAlike_14 : decode cX1_isLeftAlike 14 = .ok (.iload_n 2, 1) := by decide +kernel
theorem dX1_isLeftAlike_15 : decode cX1_isLeftAlike 15 = .ok (.invokevirtual 153, 3) := by decide +kernel
theorem dX1_isLeftAlike_18 : decode cX1_isLeftAlike 18 = .ok (.aload_n 1, 1) := by decide +kernel
theorem dX1_isLeftAlike_19 : decode cX1_isLeftAlike 19 = .ok (.iload_n 2, 1) := by decide +kernel
theorem dX1_isLeftAlike_20 : decode cX1_isLeftAlike 20 = .ok (.invokevirtual 153, 3) := by decide +kernel
theorem dX1_isLeftAlike_23 : decode cX1_isLeftAlike 23 = .ok (.lcmp, 1) := by decide +kernel
theorem dX1_isLeftAlike_24 : decode cX1_isLeftAlike 24 = .ok (.ifCond .eq 5, 3) := by decide +kernel
theorem dX1_isLeftAlike_27 : decode cX1_isLeftAlike 27 = .ok (.iconst 0, 1) := by decide +kernel
theorem dX1_isLeftAlike_28 : decode cX1_isLeftAlike 28 = .ok (.ireturn, 1) := by decide +kernel
theorem dX1_isLeftAlike_29 : decode cX1_isLeftAlike 29 = .ok (.iinc 2 1, 3) := by decide +kernel
theorem dX1_isLeftAlike_32 : decode cX1_isLeftAlike 32 = .ok (.goto (-30), 3) := by decide +kernel
theorem dX1_isLeftAlike_35 : decode cX1_isLeftAlike 35 = .ok (.iconst 1, 1) := by decide +kernel
theorem dX1_isLeftAlike_36 : decode cX1_isLeftAlike 36 = .ok (.ireturn, 1) := by decide +kernel
theorem dX1_findDead_0 : decode cX1_findDead 0 = .ok (.iconst 0, 1) := by decide +kernel
theorem dX1_findDead_1 : decode cX1_findDead 1 = .ok (.istore_n 1, 1) := by decide +kernel
theorem dX1_findDead_2 : decode cX1_findDead 2 = .ok (.iload_n 1, 1) := by decide +kernel
theorem dX1_findDead_3 : decode cX1_findDead 3 = .ok (.aload_n 0, 1) := by decide +kernel
theorem dX1_findDead_4 : decode cX1_findDead 4 = .ok (.getfield 12, 3) := by decide +kernel
theorem dX1_findDead_7 : decode cX1_findDead 7 = .ok (.getfield 77, 3) := by decide +kernel
theorem dX1_findDead_10 : decode cX1_findDead 10 = .ok (.if_icmp .ge 81, 3) := by decide +kernel
theorem dX1_findDead_13 : decode cX1_findDead 13 = .ok (.aload_n 0, 1) := by decide +kernel
theorem dX1_findDead_14 : decode cX1_findDead 14 = .ok (.getfield 12, 3) := by decide +kernel
theorem dX1_findDead_17 : decode cX1_findDead 17 = .ok (.getfield 80, 3) := by decide +kernel
theorem dX1_findDead_20 : decode cX1_findDead 20 = .ok (.iload_n 1, 1) := by decide +kernel
theorem dX1_findDead_21 : decode cX1_findDead 21 = .ok (.aaload, 1) := by decide +kernel
theorem dX1_findDead_22 : decode cX1_findDead 22 = .ok (.getfield 143, 3) := by decide +kernel
theorem dX1_findDead_25 : decode cX1_findDead 25 = .ok (.iconst 3, 1) := by decide +kernel
theorem dX1_findDead_26 : decode cX1_findDead 26 = .ok (.iaload, 1) := by decide +kernel
theorem dX1_findDead_27 : decode cX1_findDead 27 = .ok (.istore_n 2, 1) := by decide +kernel
theorem dX1_findDead_28 : decode cX1_findDead 28 = .ok (.aload_n 0, 1) := by decide +kernel
theorem dX1_findDead_29 : decode cX1_findDead 29 = .ok (.getfield 12, 3) := by decide +kernel
theorem dX1_findDead_32 : decode cX1_findDead 32 = .ok (.getfield 80, 3) := by decide +kernel
theorem dX1_findDead_35 : decode cX1_findDead 35 = .ok (.iload_n 1, 1) := by decide +kernel
theorem dX1_findDead_36 : decode cX1_findDead 36 = .ok (.aaload, 1) := by decide +kernel
theorem dX1_findDead_37 : decode cX1_findDead 37 = .ok (.getfield 143, 3) := by decide +kernel
theorem dX1_findDead_40 : decode cX1_findDead 40 = .ok (.iconst 5, 1) := by decide +kernel
theorem dX1_findDead_41 : decode cX1_findDead 41 = .ok (.iaload, 1) := by decide +kernel
theorem dX1_findDead_42 : decode cX1_findDead 42 = .ok (.aload_n 0, 1) := by decide +kernel
theorem dX1_findDead_43 : decode cX1_findDead 43 = .ok (.getfield 39, 3) := by decide +kernel
theorem dX1_findDead_46 : decode cX1_findDead 46 = .ok (.iload_n 1, 1) := by decide +kernel
theorem dX1_findDead_47 : decode cX1_findDead 47 = .ok (.iaload, 1) := by decide +kernel
theorem dX1_findDead_48 : decode cX1_findDead 48 = .ok (.invokestatic 133, 3) := by decide +kernel
theorem dX1_findDead_51 : decode cX1_findDead 51 = .ok (.istore_n 3, 1) := by decide +kernel
theorem dX1_findDead_52 : decode cX1_findDead 52 = .ok (.aload_n 0, 1) := by decide +kernel
theorem dX1_findDead_53 : decode cX1_findDead 53 = .ok (.getfield 49, 3) := by decide +kernel
theorem dX1_findDead_56 : decode cX1_findDead 56 = .ok (.iload_n 1, 1) := by decide +kernel
theorem dX1_findDead_57 : decode cX1_findDead 57 = .ok (.iload_n 2, 1) := by decide +kernel
theorem dX1_findDead_58 : decode cX1_findDead 58 = .ok (.ifCond .le 25, 3) := by decide +kernel
theorem dX1_findDead_61 : decode cX1_findDead 61 = .ok (.aload_n 0, 1) := by decide +kernel
theorem dX1_findDead_62 : decode cX1_findDead 62 = .ok (.getfield 25, 3) := by decide +kernel
theorem dX1_findDead_65 : decode cX1_findDead 65 = .ok (.iload_n 3, 1) := by decide +kernel
theorem dX1_findDead_66 : decode cX1_findDead 66 = .ok (.iload_n 2, 1) := by decide +kernel
theorem dX1_findDead_67 : decode cX1_findDead 67 = .ok (.iadd, 1) := by decide +kernel
theorem dX1_findDead_68 : decode cX1_findDead 68 = .ok (.if_icmp .le 15, 3) := by decide +kernel
theorem dX1_findDead_71 : decode cX1_findDead 71 = .ok (.aload_n 0, 1) := by decide +kernel
theorem dX1_findDead_72 : decode cX1_findDead 72 = .ok (.iload_n 1, 1) := by decide +kernel
theorem dX1_findDead_73 : decode cX1_findDead 73 = .ok (.invokevirtual 156, 3) := by decide +kernel
theorem dX1_findDead_76 : decode cX1_findDead 76 = .ok (.ifCond .eq 7, 3) := by decide +kernel
theorem dX1_findDead_79 : decode cX1_findDead 79 = .ok (.iconst 1, 1) := by decide +kernel
theorem dX1_findDead_80 : decode cX1_findDead 80 = .ok (.goto 4, 3) := by decide +kernel
theorem dX1_findDead_83 : decode cX1_findDead 83 = .ok (.iconst 0, 1) := by decide +kernel
theorem dX1_findDead_84 : decode cX1_findDead 84 = .ok (.bastore, 1) := by decide +kernel
theorem dX1_findDead_85 : decode cX1_findDead 85 = .ok (.iinc 1 1, 3) := by decide +kernel
theorem dX1_findDead_88 : decode cX1_findDead 88 = .ok (.goto (-86), 3) := by decide +kernel
theorem dX1_findDead_91 : decode cX1_findDead 91 = .ok (.return_, 1) := by decide +kernel
theorem dX1_orderOpen_0 : decode cX1_orderOpen 0 = .ok (.iconst 0, 1) := by decide +kernel
theorem dX1_orderOpen_1 : decode cX1_orderOpen 1 = .ok (.istore_n 1, 1) := by decide +kernel
theorem dX1_orderOpen_2 : decode cX1_orderOpen 2 = .ok (.aload_n 0, 1) := by decide +kernel
theorem dX1_orderOpen_3 : decode cX1_orderOpen 3 = .ok (.getfield 21, 3) := by decide +kernel
theorem dX1_orderOpen_6 : decode cX1_orderOpen 6 = .ok (.bipush 120, 2) := by decide +kernel
theorem dX1_orderOpen_8 : decode cX1_orderOpen 8 = .ok (.invokevirtual 160, 3) := by decide +kernel
theorem dX1_orderOpen_11 : decode cX1_orderOpen 11 = .ok (.istore_n 2, 1) := by decide +kernel
theorem dX1_orderOpen_12 : decode cX1_orderOpen 12 = .ok (.iconst 0, 1) := by decide +kernel
theorem dX1_orderOpen_13 : decode cX1_orderOpen 13 = .ok (.istore_n 3, 1) := by decide +kernel
theorem dX1_orderOpen_14 : decode cX1_orderOpen 14 = .ok (.iload_n 3, 1) := by decide +kernel
theorem dX1_orderOpen_15 : decode cX1_orderOpen 15 = .ok (.aload_n 0, 1) := by decide +kernel
theorem dX1_orderOpen_16 : decode cX1_orderOpen 16 = .ok (.getfield 12, 3) := by decide +kernel
theorem dX1_orderOpen_19 : decode cX1_orderOpen 19 = .ok (.getfield 77, 3) := by decide +kernel
theorem dX1_orderOpen_22 : decode cX1_orderOpen 22 = .ok (.if_icmp .ge 88, 3) := by decide +kernel
theorem dX1_orderOpen_25 : decode cX1_orderOpen 25 = .ok (.aload_n 0, 1) := by decide +kernel
theorem dX1_orderOpen_26 : decode cX1_orderOpen 26 = .ok (.iload_n 3, 1) := by decide +kernel
theorem dX1_orderOpen_27 : decode cX1_orderOpen 27 = .ok (.invokevirtual 156, 3) := by decide +kernel
theorem dX1_orderOpen_30 : decode cX1_orderOpen 30 = .ok (.ifCond .eq 74, 3) := by decide +kernel
theorem dX1_orderOpen_33 : decode cX1_orderOpen 33 = .ok (.iload_n 2, 1) := by decide +kernel
theorem dX1_orderOpen_34 : decode cX1_orderOpen 34 = .ok (.ifCond .eq 12, 3) := by decide +kernel
theorem dX1_orderOpen_37 : decode cX1_orderOpen 37 = .ok (.aload_n 0, 1) := by decide +kernel
theorem dX1_orderOpen_38 : decode cX1_orderOpen 38 = .ok (.getfield 49, 3) := by decide +kernel
theorem dX1_orderOpen_41 : decode cX1_orderOpen 41 = .ok (.iload_n 3, 1) := by decide +kernel
theorem dX1_orderOpen_42 : decode cX1_orderOpen 42 = .ok (.baload, 1) := by decide +kernel
theorem dX1_orderOpen_43 : decode cX1_orderOpen 43 = .ok (.ifCond .ne 61, 3) := by decide +kernel
theorem dX1_orderOpen_46 : decode cX1_orderOpen 46 = .ok (.iload_n 1, 1) := by decide +kernel
theorem dX1_orderOpen_47 : decode cX1_orderOpen 47 = .ok (.istore 4, 2) := by decide +kernel
theorem dX1_orderOpen_49 : decode cX1_orderOpen 49 = .ok (.iload 4, 2) := by decide +kernel
theorem dX1_orderOpen_51 : decode cX1_orderOpen 51 = .ok (.ifCond .le 42, 3) := by decide +kernel
theorem dX1_orderOpen_54 : decode cX1_orderOpen 54 = .ok (.aload_n 0, 1) := by decide +kernel
theorem dX1_orderOpen_55 : decode cX1_orderOpen 55 = .ok (.iload_n 3, 1) := by decide +kernel
theorem dX1_orderOpen_56 : decode cX1_orderOpen 56 = .ok (.aload_n 0, 1) := by decide +kernel
theorem dX1_orderOpen_57 : decode cX1_orderOpen 57 = .ok (.getfield 53, 3) := by decide +kernel
theorem dX1_orderOpen_60 : decode cX1_orderOpen 60 = .ok (.iload 4, 2) := by decide +kernel
theorem dX1_orderOpen_62 : decode cX1_orderOpen 62 = .ok (.iconst 1, 1) := by decide +kernel
theorem dX1_orderOpen_63 : decode cX1_orderOpen 63 = .ok (.isub, 1) := by decide +kernel
theorem dX1_orderOpen_64 : decode cX1_orderOpen 64 = .ok (.iaload, 1) := by decide +kernel
theorem dX1_orderOpen_65 : decode cX1_orderOpen 65 = .ok (.invokevirtual 163, 3) := by decide +kernel
theorem dX1_orderOpen_68 : decode cX1_orderOpen 68 = .ok (.ifCond .ge 25, 3) := by decide +kernel
theorem dX1_orderOpen_71 : decode cX1_orderOpen 71 = .ok (.aload_n 0, 1) := by decide +kernel
theorem dX1_orderOpen_72 : decode cX1_orderOpen 72 = .ok (.getfield 53, 3) := by decide +kernel
theorem dX1_orderOpen_75 : decode cX1_orderOpen 75 = .ok (.iload 4, 2) := by decide +kernel
theorem dX1_orderOpen_77 : decode cX1_orderOpen 77 = .ok (.aload_n 0, 1) := by decide +kernel
theorem dX1_orderOpen_78 : decode cX1_orderOpen 78 = .ok (.getfield 53, 3) := by decide +kernel
theorem dX1_orderOpen_81 : decode cX1_orderOpen 81 = .ok (.iload 4, 2) := by decide +kernel
theorem dX1_orderOpen_83 : decode cX1_orderOpen 83 = .ok (.iconst 1, 1) := by decide +kernel
theorem dX1_orderOpen_84 : decode cX1_orderOpen 84 = .ok (.isub, 1) := by decide +kernel
theorem dX1_orderOpen_85 : decode cX1_orderOpen 85 = .ok (.iaload, 1) := by decide +kernel
theorem dX1_orderOpen_86 : decode cX1_orderOpen 86 = .ok (.iastore, 1) := by decide +kernel
theorem dX1_orderOpen_87 : decode cX1_orderOpen 87 = .ok (.iinc 4 (-1), 3) := by decide +kernel
theorem dX1_orderOpen_90 : decode cX1_orderOpen 90 = .ok (.goto (-41), 3) := by decide +kernel
theorem dX1_orderOpen_93 : decode cX1_orderOpen 93 = .ok (.aload_n 0, 1) := by decide +kernel
theorem dX1_orderOpen_94 : decode cX1_orderOpen 94 = .ok (.getfield 53, 3) := by decide +kernel
theorem dX1_orderOpen_97 : decode cX1_orderOpen 97 = .ok (.iload 4, 2) := by decide +kernel
theorem dX1_orderOpen_99 : decode cX1_orderOpen 99 = .ok (.iload_n 3, 1) := by decide +kernel
theorem dX1_orderOpen_100 : decode cX1_orderOpen 100 = .ok (.iastore, 1) := by decide +kernel
theorem dX1_orderOpen_101 : decode cX1_orderOpen 101 = .ok (.iinc 1 1, 3) := by decide +kernel
theorem dX1_orderOpen_104 : decode cX1_orderOpen 104 = .ok (.iinc 3 1, 3) := by decide +kernel
theorem dX1_orderOpen_107 : decode cX1_orderOpen 107 = .ok (.goto (-93), 3) := by decide +kernel
theorem dX1_orderOpen_110 : decode cX1_orderOpen 110 = .ok (.iload_n 1, 1) := by decide +kernel
theorem dX1_orderOpen_111 : decode cX1_orderOpen 111 = .ok (.ireturn, 1) := by decide +kernel
theorem dX1_compareByKeys_0 : decode cX1_compareByKeys 0 = .ok (.aload_n 0, 1) := by decide +kernel
theorem dX1_compareByKeys_1 : decode cX1_compareByKeys 1 = .ok (.getfield 12, 3) := by decide +kernel
theorem dX1_compareByKeys_4 : decode cX1_compareByKeys 4 = .ok (.getfield 80, 3) := by decide +kernel
theorem dX1_compareByKeys_7 : decode cX1_compareByKeys 7 = .ok (.iload_n 1, 1) := by decide +kernel
theorem dX1_compareByKeys_8 : decode cX1_compareByKeys 8 = .ok (.aaload, 1) := by decide +kernel
theorem dX1_compareByKeys_9 : decode cX1_compareByKeys 9 = .ok (.astore_n 3, 1) := by decide +kernel
theorem dX1_compareByKeys_10 : decode cX1_compareByKeys 10 = .ok (.aload_n 0, 1) := by decide +kernel
theorem dX1_compareByKeys_11 : decode cX1_compareByKeys 11 = .ok (.getfield 12, 3) := by decide +kernel
theorem dX1_compareByKeys_14 : decode cX1_compareByKeys 14 = .ok (.getfield 80, 3) := by decide +kernel
theorem dX1_compareByKeys_17 : decode cX1_compareByKeys 17 = .ok (.iload_n 2, 1) := by decide +kernel
theorem dX1_compareByKeys_18 : decode cX1_compareByKeys 18 = .ok (.aaload, 1) := by decide +kernel
theorem dX1_compareByKeys_19 : decode cX1_compareByKeys 19 = .ok (.astore 4, 2) := by decide +kernel
theorem dX1_compareByKeys_21 : decode cX1_compareByKeys 21 = .ok (.iconst 0, 1) := by decide +kernel
theorem dX1_compareByKeys_22 : decode cX1_compareByKeys 22 = .ok (.istore 5, 2) := by decide +kernel
theorem dX1_compareByKeys_24 : decode cX1_compareByKeys 24 = .ok (.iload 5, 2) := by decide +kernel
theorem dX1_compareByKeys_26 : decode cX1_compareByKeys 26 = .ok (.aload_n 0, 1) := by decide +kernel
theorem dX1_compareByKeys_27 : decode cX1_compareByKeys 27 = .ok (.getfield 21, 3) := by decide +kernel
theorem dX1_compareByKeys_30 : decode cX1_compareByKeys 30 = .ok (.getfield 166, 3) := by decide +kernel
theorem dX1_compareByKeys_33 : decode cX1_compareByKeys 33 = .ok (.if_icmp .ge 231, 3) := by decide +kernel
theorem dX1_compareByKeys_36 : decode cX1_compareByKeys 36 = .ok (.iconst 0, 1) := by decide +kernel
theorem dX1_compareByKeys_37 : decode cX1_compareByKeys 37 = .ok (.istore 6, 2) := by decide +kernel
theorem dX1_compareByKeys_39 : decode cX1_compareByKeys 39 = .ok (.aload_n 0, 1) := by decide +kernel
theorem dX1_compareByKeys_40 : decode cX1_compareByKeys 40 = .ok (.getfield 21, 3) := by decide +kernel
theorem dX1_compareByKeys_43 : decode cX1_compareByKeys 43 = .ok (.getfield 169, 3) := by decide +kernel
theorem dX1_compareByKeys_46 : decode cX1_compareByKeys 46 = .ok (.iload 5, 2) := by decide +kernel
theorem dX1_compareByKeys_48 : decode cX1_compareByKeys 48 = .ok (.iaload, 1) := by decide +kernel
theorem dX1_compareByKeys_49 : decode cX1_compareByKeys 49 = .ok (.lookupswitch 201 #[(100, 51), (104, 96), (108, 167), (111, 150), (117, 117)], 51) := by decide +kernel
theorem dX1_compareByKeys_100 : decode cX1_compareByKeys 100 = .ok (.aload_n 3, 1) := by decide +kernel
theorem dX1_compareByKeys_101 : decode cX1_compareByKeys 101 = .ok (.getfield 143, 3) := by decide +kernel
theorem dX1_compareByKeys_104 : decode cX1_compareByKeys 104 = .ok (.iconst 5, 1) := by decide +kernel
theorem dX1_compareByKeys_105 : decode cX1_compareByKeys 105 = .ok (.iaload, 1) := by decide +kernel
theorem dX1_compareByKeys_106 : decode cX1_compareByKeys 106 = .ok (.aload_n 0, 1) := by decide +kernel
theorem dX1_compareByKeys_107 : decode cX1_compareByKeys 107 = .ok (.getfield 25, 3) := by decide +kernel
theorem dX1_compareByKeys_110 : decode cX1_compareByKeys 110 = .ok (.if_icmp .gt 7, 3) := by decide +kernel
theorem dX1_compareByKeys_113 : decode cX1_compareByKeys 113 = .ok (.iconst 1, 1) := by decide +kernel
theorem dX1_compareByKeys_114 : decode cX1_compareByKeys 114 = .ok (.goto 4, 3) := by decide +kernel
theorem dX1_compareByKeys_117 : decode cX1_compareByKeys 117 = .ok (.iconst 0, 1) := by decide +kernel
theorem dX1_compareByKeys_118 : decode cX1_compareByKeys 118 = .ok (.aload 4, 2) := by decide +kernel
theorem dX1_compareByKeys_120 : decode cX1_compareByKeys 120 = .ok (.getfield 143, 3) := by decide +kernel
theorem dX1_compareByKeys_123 : decode cX1_compareByKeys 123 = .ok (.iconst 5, 1) := by decide +kernel
theorem dX1_compareByKeys_124 : decode cX1_compareByKeys 124 = .ok (.iaload, 1) := by decide +kernel
theorem dX1_compareByKeys_125 : decode cX1_compareByKeys 125 = .ok (.aload_n 0, 1) := by decide +kernel
theorem dX1_compareByKeys_126 : decode cX1_compareByKeys 126 = .ok (.getfield 25, 3) := by decide +kernel
theorem dX1_compareByKeys_129 : decode cX1_compareByKeys 129 = .ok (.if_icmp .gt 7, 3) := by decide +kernel
theorem dX1_compareByKeys_132 : decode cX1_compareByKeys 132 = .ok (.iconst 1, 1) := by decide +kernel
theorem dX1_compareByKeys_133 : decode cX1_compareByKeys 133 = .ok (.goto 4, 3) := by decide +kernel
theorem dX1_compareByKeys_136 : decode cX1_compareByKeys 136 = .ok (.iconst 0, 1) := by decide +kernel
theorem dX1_compareByKeys_137 : decode cX1_compareByKeys 137 = .ok (.invokestatic 172, 3) := by decide +kernel
theorem dX1_compareByKeys_140 : decode cX1_compareByKeys 140 = .ok (.istore 6, 2) := by decide +kernel
theorem dX1_compareByKeys_142 : decode cX1_compareByKeys 142 = .ok (.goto 108, 3) := by decide +kernel
theorem dX1_compareByKeys_145 : decode cX1_compareByKeys 145 = .ok (.aload 4, 2) := by decide +kernel
theorem dX1_compareByKeys_147 : decode cX1_compareByKeys 147 = .ok (.getfield 143, 3) := by decide +kernel
theorem dX1_compareByKeys_150 : decode cX1_compareByKeys 150 = .ok (.iconst 4, 1) := by decide +kernel
theorem dX1_compareByKeys_151 : decode cX1_compareByKeys 151 = .ok (.iaload, 1) := by decide +kernel
theorem dX1_compareByKeys_152 : decode cX1_compareByKeys 152 = .ok (.aload_n 3, 1) := by decide +kernel
theorem dX1_compareByKeys_153 : decode cX1_compareByKeys 153 = .ok (.getfield 143, 3) := by decide +kernel
theorem dX1_compareByKeys_156 : decode cX1_compareByKeys 156 = .ok (.iconst 4, 1) := by decide +kernel
theorem dX1_compareByKeys_157 : decode cX1_compareByKeys 157 = .ok (.iaload, 1) := by decide +kernel
theorem dX1_compareByKeys_158 : decode cX1_compareByKeys 158 = .ok (.invokestatic 176, 3) := by decide +kernel
theorem dX1_compareByKeys_161 : decode cX1_compareByKeys 161 = .ok (.istore 6, 2) := by decide +kernel
theorem dX1_compareByKeys_163 : decode cX1_compareByKeys 163 = .ok (.goto 87, 3) := by decide +kernel
theorem dX1_compareByKeys_166 : decode cX1_compareByKeys 166 = .ok (.aload_n 3, 1) := by decide +kernel
theorem dX1_compareByKeys_167 : decode cX1_compareByKeys 167 = .ok (.invokevirtual 181, 3) := by decide +kernel
theorem dX1_compareByKeys_170 : decode cX1_compareByKeys 170 = .ok (.ifCond .ne 7, 3) := by decide +kernel
theorem dX1_compareByKeys_173 : decode cX1_compareByKeys 173 = .ok (.iconst 1, 1) := by decide +kernel
theorem dX1_compareByKeys_174 : decode cX1_compareByKeys 174 = .ok (.goto 4, 3) := by decide +kernel
theorem dX1_compareByKeys_177 : decode cX1_compareByKeys 177 = .ok (.iconst 0, 1) := by decide +kernel
theorem dX1_compareByKeys_178 : decode cX1_compareByKeys 178 = .ok (.aload 4, 2) := by decide +kernel
theorem dX1_compareByKeys_180 : decode cX1_compareByKeys 180 = .ok (.invokevirtual 181, 3) := by decide +kernel
theorem dX1_compareByKeys_183 : decode cX1_compareByKeys 183 = .ok (.ifCond .ne 7, 3) := by decide +kernel
theorem dX1_compareByKeys_186 : decode cX1_compareByKeys 186 = .ok (.iconst 1, 1) := by decide +kernel
theorem dX1_compareByKeys_187 : decode cX1_compareByKeys 187 = .ok (.goto 4, 3) := by decide +kernel
theorem dX1_compareByKeys_190 : decode cX1_compareByKeys 190 = .ok (.iconst 0, 1) := by decide +kernel
theorem dX1_compareByKeys_191 : decode cX1_compareByKeys 191 = .ok (.invokestatic 172, 3) := by decide +kernel
theorem dX1_compareByKeys_194 : decode cX1_compareByKeys 194 = .ok (.istore 6, 2) := by decide +kernel
theorem dX1_compareByKeys_196 : decode cX1_compareByKeys 196 = .ok (.goto 54, 3) := by decide +kernel
theorem dX1_compareByKeys_199 : decode cX1_compareByKeys 199 = .ok (.aload_n 3, 1) := by decide +kernel
theorem dX1_compareByKeys_200 : decode cX1_compareByKeys 200 = .ok (.getfield 130, 3) := by decide +kernel
theorem dX1_compareByKeys_203 : decode cX1_compareByKeys 203 = .ok (.aload 4, 2) := by decide +kernel
theorem dX1_compareByKeys_205 : decode cX1_compareByKeys 205 = .ok (.getfield 130, 3) := by decide +kernel
theorem dX1_compareByKeys_208 : decode cX1_compareByKeys 208 = .ok (.invokestatic 176, 3) := by decide +kernel
theorem dX1_compareByKeys_211 : decode cX1_compareByKeys 211 = .ok (.istore 6, 2) := by decide +kernel
theorem dX1_compareByKeys_213 : decode cX1_compareByKeys 213 = .ok (.goto 37, 3) := by decide +kernel
theorem dX1_compareByKeys_216 : decode cX1_compareByKeys 216 = .ok (.aload_n 0, 1) := by decide +kernel
theorem dX1_compareByKeys_217 : decode cX1_compareByKeys 217 = .ok (.getfield 32, 3) := by decide +kernel
theorem dX1_compareByKeys_220 : decode cX1_compareByKeys 220 = .ok (.iload_n 2, 1) := by decide +kernel
theorem dX1_compareByKeys_221 : decode cX1_compareByKeys 221 = .ok (.laload, 1) := by decide +kernel
theorem dX1_compareByKeys_222 : decode cX1_compareByKeys 222 = .ok (.aload_n 0, 1) := by decide +kernel
theorem dX1_compareByKeys_223 : decode cX1_compareByKeys 223 = .ok (.getfield 36, 3) := by decide +kernel
theorem dX1_compareByKeys_226 : decode cX1_compareByKeys 226 = .ok (.iload_n 2, 1) := by decide +kernel
theorem dX1_compareByKeys_227 : decode cX1_compareByKeys 227 = .ok (.laload, 1) := by decide +kernel
theorem dX1_compareByKeys_228 : decode cX1_compareByKeys 228 = .ok (.ladd, 1) := by decide +kernel
theorem dX1_compareByKeys_229 : decode cX1_compareByKeys 229 = .ok (.aload_n 0, 1) := by decide +kernel
theorem dX1_compareByKeys_230 : decode cX1_compareByKeys 230 = .ok (.getfield 32, 3) := by decide +kernel
theorem dX1_compareByKeys_233 : decode cX1_compareByKeys 233 = .ok (.iload_n 1, 1) := by decide +kernel
theorem dX1_compareByKeys_234 : decode cX1_compareByKeys 234 = .ok (.laload, 1) := by decide +kernel
theorem dX1_compareByKeys_235 : decode cX1_compareByKeys 235 = .ok (.aload_n 0, 1) := by decide +kernel
theorem dX1_compareByKeys_236 : decode cX1_compareByKeys 236 = .ok (.getfield 36, 3) := by decide +kernel
theorem dX1_compareByKeys_239 : decode cX1_compareByKeys 239 = .ok (.iload_n 1, 1) := by decide +kernel
theorem dX1_compareByKeys_240 : decode cX1_compareByKeys 240 = .ok (.laload, 1) := by decide +kernel
theorem dX1_compareByKeys_241 : decode cX1_compareByKeys 241 = .ok (.ladd, 1) := by decide +kernel
theorem dX1_compareByKeys_242 : decode cX1_compareByKeys 242 = .ok (.invokestatic 185, 3) := by decide +kernel
theorem dX1_compareByKeys_245 : decode cX1_compareByKeys 245 = .ok (.istore 6, 2) := by decide +kernel
theorem dX1_compareByKeys_247 : decode cX1_compareByKeys 247 = .ok (.goto 3, 3) := by decide +kernel
theorem dX1_compareByKeys_250 : decode cX1_compareByKeys 250 = .ok (.iload 6, 2) := by decide +kernel
theorem dX1_compareByKeys_252 : decode cX1_compareByKeys 252 = .ok (.ifCond .eq 6, 3) := by decide +kernel
theorem dX1_compareByKeys_255 : decode cX1_compareByKeys 255 = .ok (.iload 6, 2) := by decide +kernel
theorem dX1_compareByKeys_257 : decode cX1_compareByKeys 257 = .ok (.ireturn, 1) := by decide +kernel
theorem dX1_compareByKeys_258 : decode cX1_compareByKeys 258 = .ok (.iinc 5 1, 3) := by decide +kernel
theorem dX1_compareByKeys_261 : decode cX1_compareByKeys 261 = .ok (.goto (-237), 3) := by decide +kernel
theorem dX1_compareByKeys_264 : decode cX1_compareByKeys 264 = .ok (.iconst 0, 1) := by decide +kernel
theorem dX1_compareByKeys_265 : decode cX1_compareByKeys 265 = .ok (.ireturn, 1) := by decide +kernel
theorem dX1_firstIf_0 : decode cX1_firstIf 0 = .ok (.iload_n 0, 1) := by decide +kernel
theorem dX1_firstIf_1 : decode cX1_firstIf 1 = .ok (.iload_n 1, 1) := by decide +kernel
theorem dX1_firstIf_2 : decode cX1_firstIf 2 = .ok (.if_icmp .ne 7, 3) := by decide +kernel
theorem dX1_firstIf_5 : decode cX1_firstIf 5 = .ok (.iconst 0, 1) := by decide +kernel
theorem dX1_firstIf_6 : decode cX1_firstIf 6 = .ok (.goto 12, 3) := by decide +kernel
theorem dX1_firstIf_9 : decode cX1_firstIf 9 = .ok (.iload_n 0, 1) := by decide +kernel
theorem dX1_firstIf_10 : decode cX1_firstIf 10 = .ok (.ifCond .eq 7, 3) := by decide +kernel
theorem dX1_firstIf_13 : decode cX1_firstIf 13 = .ok (.iconst (-1), 1) := by decide +kernel
theorem dX1_firstIf_14 : decode cX1_firstIf 14 = .ok (.goto 4, 3) := by decide +kernel
theorem dX1_firstIf_17 : decode cX1_firstIf 17 = .ok (.iconst 1, 1) := by decide +kernel
theorem dX1_firstIf_18 : decode cX1_firstIf 18 = .ok (.ireturn, 1) := by decide +kernel
theorem dX1_chosenDebt_0 : decode cX1_chosenDebt 0 = .ok (.aload_n 0, 1) := by decide +kernel
theorem dX1_chosenDebt_1 : decode cX1_chosenDebt 1 = .ok (.getfield 21, 3) := by decide +kernel
theorem dX1_chosenDebt_4 : decode cX1_chosenDebt 4 = .ok (.bipush 99, 2) := by decide +kernel
theorem dX1_chosenDebt_6 : decode cX1_chosenDebt 6 = .ok (.invokevirtual 160, 3) := by decide +kernel
theorem dX1_chosenDebt_9 : decode cX1_chosenDebt 9 = .ok (.ifCond .eq 19, 3) := by decide +kernel
theorem dX1_chosenDebt_12 : decode cX1_chosenDebt 12 = .ok (.aload_n 0, 1) := by decide +kernel
theorem dX1_chosenDebt_13 : decode cX1_chosenDebt 13 = .ok (.aload_n 1, 1) := by decide +kernel
theorem dX1_chosenDebt_14 : decode cX1_chosenDebt 14 = .ok (.getfield 190, 3) := by decide +kernel
theorem dX1_chosenDebt_17 : decode cX1_chosenDebt 17 = .ok (.invokevirtual 156, 3) := by decide +kernel
theorem dX1_chosenDebt_20 : decode cX1_chosenDebt 20 = .ok (.ifCond .eq 8, 3) := by decide +kernel
theorem dX1_chosenDebt_23 : decode cX1_chosenDebt 23 = .ok (.aload_n 1, 1) := by decide +kernel
theorem dX1_chosenDebt_24 : decode cX1_chosenDebt 24 = .ok (.getfield 190, 3) := by decide +kernel
theorem dX1_chosenDebt_27 : decode cX1_chosenDebt 27 = .ok (.ireturn, 1) := by decide +kernel
theorem dX1_chosenDebt_28 : decode cX1_chosenDebt 28 = .ok (.aload_n 0, 1) := by decide +kernel
theorem dX1_chosenDebt_29 : decode cX1_chosenDebt 29 = .ok (.getfield 21, 3) := by decide +kernel
theorem dX1_chosenDebt_32 : decode cX1_chosenDebt 32 = .ok (.bipush 116, 2) := by decide +kernel
theorem dX1_chosenDebt_34 : decode cX1_chosenDebt 34 = .ok (.invokevirtual 160, 3) := by decide +kernel
theorem dX1_chosenDebt_37 : decode cX1_chosenDebt 37 = .ok (.ifCond .eq 19, 3) := by decide +kernel
theorem dX1_chosenDebt_40 : decode cX1_chosenDebt 40 = .ok (.aload_n 0, 1) := by decide +kernel
theorem dX1_chosenDebt_41 : decode cX1_chosenDebt 41 = .ok (.aload_n 1, 1) := by decide +kernel
theorem dX1_chosenDebt_42 : decode cX1_chosenDebt 42 = .ok (.getfield 193, 3) := by decide +kernel
theorem dX1_chosenDebt_45 : decode cX1_chosenDebt 45 = .ok (.invokevirtual 156, 3) := by decide +kernel
theorem dX1_chosenDebt_48 : decode cX1_chosenDebt 48 = .ok (.ifCond .eq 8, 3) := by decide +kernel
theorem dX1_chosenDebt_51 : decode cX1_chosenDebt 51 = .ok (.aload_n 1, 1) := by decide +kernel
theorem dX1_chosenDebt_52 : decode cX1_chosenDebt 52 = .ok (.getfield 193, 3) := by decide +kernel
theorem dX1_chosenDebt_55 : decode cX1_chosenDebt 55 = .ok (.ireturn, 1) := by decide +kernel
theorem dX1_chosenDebt_56 : decode cX1_chosenDebt 56 = .ok (.iconst (-1), 1) := by decide +kernel
theorem dX1_chosenDebt_57 : decode cX1_chosenDebt 57 = .ok (.ireturn, 1) := by decide +kernel
theorem dX1_heedsWord_0 : decode cX1_heedsWord 0 = .ok (.aload_n 0, 1) := by decide +kernel
theorem dX1_heedsWord_1 : decode cX1_heedsWord 1 = .ok (.getfield 21, 3) := by decide +kernel
theorem dX1_heedsWord_4 : decode cX1_heedsWord 4 = .ok (.bipush 99, 2) := by decide +kernel
theorem dX1_heedsWord_6 : decode cX1_heedsWord 6 = .ok (.invokevirtual 160, 3) := by decide +kernel
theorem dX1_heedsWord_9 : decode cX1_heedsWord 9 = .ok (.ifCond .eq 15, 3) := by decide +kernel
theorem dX1_heedsWord_12 : decode cX1_heedsWord 12 = .ok (.aload_n 0, 1) := by decide +kernel
theorem dX1_heedsWord_13 : decode cX1_heedsWord 13 = .ok (.iload_n 1, 1) := by decide +kernel
theorem dX1_heedsWord_14 : decode cX1_heedsWord 14 = .ok (.invokevirtual 156, 3) := by decide +kernel
theorem dX1_heedsWord_17 : decode cX1_heedsWord 17 = .ok (.ifCond .eq 7, 3) := by decide +kernel
theorem dX1_heedsWord_20 : decode cX1_heedsWord 20 = .ok (.iconst 1, 1) := by decide +kernel
theorem dX1_heedsWord_21 : decode cX1_heedsWord 21 = .ok (.goto 4, 3) := by decide +kernel
theorem dX1_heedsWord_24 : decode cX1_heedsWord 24 = .ok (.iconst 0, 1) := by decide +kernel
theorem dX1_heedsWord_25 : decode cX1_heedsWord 25 = .ok (.ireturn, 1) := by decide +kernel
theorem dX1_distribute_0 : decode cX1_distribute 0 = .ok (.aload_n 0, 1) := by decide +kernel
theorem dX1_distribute_1 : decode cX1_distribute 1 = .ok (.getfield 56, 3) := by decide +kernel
theorem dX1_distribute_4 : decode cX1_distribute 4 = .ok (.lconst 0, 1) := by decide +kernel
theorem dX1_distribute_5 : decode cX1_distribute 5 = .ok (.invokestatic 196, 3) := by decide +kernel
theorem dX1_distribute_8 : decode cX1_distribute 8 = .ok (.aload_n 0, 1) := by decide +kernel
theorem dX1_distribute_9 : decode cX1_distribute 9 = .ok (.getfield 59, 3) := by decide +kernel
theorem dX1_distribute_12 : decode cX1_distribute 12 = .ok (.lconst 0, 1) := by decide +kernel
theorem dX1_distribute_13 : decode cX1_distribute 13 = .ok (.invokestatic 196, 3) := by decide +kernel
theorem dX1_distribute_16 : decode cX1_distribute 16 = .ok (.aload_n 0, 1) := by decide +kernel
theorem dX1_distribute_17 : decode cX1_distribute 17 = .ok (.invokevirtual 202, 3) := by decide +kernel
theorem dX1_distribute_20 : decode cX1_distribute 20 = .ok (.lload_n 1, 1) := by decide +kernel
theorem dX1_distribute_21 : decode cX1_distribute 21 = .ok (.lstore 4, 2) := by decide +kernel
theorem dX1_distribute_23 : decode cX1_distribute 23 = .ok (.iload_n 3, 1) := by decide +kernel
theorem dX1_distribute_24 : decode cX1_distribute 24 = .ok (.iconst (-1), 1) := by decide +kernel
theorem dX1_distribute_25 : decode cX1_distribute 25 = .ok (.if_icmp .eq 15, 3) := by decide +kernel
theorem dX1_distribute_28 : decode cX1_distribute 28 = .ok (.lload 4, 2) := by decide +kernel
theorem dX1_distribute_30 : decode cX1_distribute 30 = .ok (.aload_n 0, 1) := by decide +kernel
theorem dX1_distribute_31 : decode cX1_distribute 31 = .ok (.iload_n 3, 1) := by decide +kernel
theorem dX1_distribute_32 : decode cX1_distribute 32 = .ok (.lload 4, 2) := by decide +kernel
theorem dX1_distribute_34 : decode cX1_distribute 34 = .ok (.invokevirtual 205, 3) := by decide +kernel
theorem dX1_distribute_37 : decode cX1_distribute 37 = .ok (.lsub, 1) := by decide +kernel
theorem dX1_distribute_38 : decode cX1_distribute 38 = .ok (.lstore 4, 2) := by decide +kernel
theorem dX1_distribute_40 : decode cX1_distribute 40 = .ok (.lload 4, 2) := by decide +kernel
theorem dX1_distribute_42 : decode cX1_distribute 42 = .ok (.lconst 0, 1) := by decide +kernel
theorem dX1_distribute_43 : decode cX1_distribute 43 = .ok (.lcmp, 1) := by decide +kernel
theorem dX1_distribute_44 : decode cX1_distribute 44 = .ok (.ifCond .le 10, 3) := by decide +kernel
theorem dX1_distribute_47 : decode cX1_distribute 47 = .ok (.aload_n 0, 1) := by decide +kernel
theorem dX1_distribute_48 : decode cX1_distribute 48 = .ok (.invokevirtual 209, 3) := by decide +kernel
theorem dX1_distribute_51 : decode cX1_distribute 51 = .ok (.goto 4, 3) := by decide +kernel
theorem dX1_distribute_54 : decode cX1_distribute 54 = .ok (.iconst 0, 1) := by decide +kernel
theorem dX1_distribute_55 : decode cX1_distribute 55 = .ok (.istore 6, 2) := by decide +kernel
theorem dX1_distribute_57 : decode cX1_distribute 57 = .ok (.aload_n 0, 1) := by decide +kernel
theorem dX1_distribute_58 : decode cX1_distribute 58 = .ok (.getfield 21, 3) := by decide +kernel
theorem dX1_distribute_61 : decode cX1_distribute 61 = .ok (.bipush 112, 2) := by decide +kernel
theorem dX1_distribute_63 : decode cX1_distribute 63 = .ok (.invokevirtual 160, 3) := by decide +kernel
theorem dX1_distribute_66 : decode cX1_distribute 66 = .ok (.istore 7, 2) := by decide +kernel
theorem dX1_distribute_68 : decode cX1_distribute 68 = .ok (.iconst 0, 1) := by decide +kernel
theorem dX1_distribute_69 : decode cX1_distribute 69 = .ok (.istore 9, 2) := by decide +kernel
theorem dX1_distribute_71 : decode cX1_distribute 71 = .ok (.iload 9, 2) := by decide +kernel
theorem dX1_distribute_73 : decode cX1_distribute 73 = .ok (.iload 6, 2) := by decide +kernel
theorem dX1_distribute_75 : decode cX1_distribute 75 = .ok (.if_icmp .ge 74, 3) := by decide +kernel
theorem dX1_distribute_78 : decode cX1_distribute 78 = .ok (.lload 4, 2) := by decide +kernel
theorem dX1_distribute_80 : decode cX1_distribute 80 = .ok (.lconst 0, 1) := by decide +kernel
theorem dX1_distribute_81 : decode cX1_distribute 81 = .ok (.lcmp, 1) := by decide +kernel
theorem dX1_distribute_82 : decode cX1_distribute 82 = .ok (.ifCond .le 67, 3) := by decide +kernel
theorem dX1_distribute_85 : decode cX1_distribute 85 = .ok (.iload 9, 2) := by decide +kernel
theorem dX1_distribute_87 : decode cX1_distribute 87 = .ok (.iconst 1, 1) := by decide +kernel
theorem dX1_distribute_88 : decode cX1_distribute 88 = .ok (.iadd, 1) := by decide +kernel
theorem dX1_distribute_89 : decode cX1_distribute 89 = .ok (.istore 8, 2) := by decide +kernel
theorem dX1_distribute_91 : decode cX1_distribute 91 = .ok (.iload 7, 2) := by decide +kernel
theorem dX1_distribute_93 : decode cX1_distribute 93 = .ok (.ifCond .eq 37, 3) := by decide +kernel
theorem dX1_distribute_96 : decode cX1_distribute 96 = .ok (.iload 8, 2) := by decide +kernel
theorem dX1_distribute_98 : decode cX1_distribute 98 = .ok (.iload 6, 2) := by decide +kernel
theorem dX1_distribute_100 : decode cX1_distribute 100 = .ok (.if_icmp .ge 30, 3) := by decide +kernel
theorem dX1_distribute_103 : decode cX1_distribute 103 = .ok (.aload_n 0, 1) := by decide +kernel
theorem dX1_distribute_104 : decode cX1_distribute 104 = .ok (.aload_n 0, 1) := by decide +kernel
theorem dX1_distribute_105 : decode cX1_distribute 105 = .ok (.getfield 53, 3) := by decide +kernel
theorem dX1_distribute_108 : decode cX1_distribute 108 = .ok (.iload 9, 2) := by decide +kernel
theorem dX1_distribute_110 : decode cX1_distribute 110 = .ok (.iaload, 1) := by decide +kernel
theorem dX1_distribute_111 : decode cX1_distribute 111 = .ok (.aload_n 0, 1) := by decide +kernel
theorem dX1_distribute_112 : decode cX1_distribute 112 = .ok (.getfield 53, 3) := by decide +kernel
theorem dX1_distribute_115 : decode cX1_distribute 115 = .ok (.iload 8, 2) := by decide +kernel
theorem dX1_distribute_117 : decode cX1_distribute 117 = .ok (.iaload, 1) := by decide +kernel
theorem dX1_distribute_118 : decode cX1_distribute 118 = .ok (.invokevirtual 163, 3) := by decide +kernel
theorem dX1_distribute_121 : decode cX1_distribute 121 = .ok (.ifCond .ne 9, 3) := by decide +kernel
theorem dX1_distribute_124 : decode cX1_distribute 124 = .ok (.iinc 8 1, 3) := by decide +kernel
theorem dX1_distribute_127 : decode cX1_distribute 127 = .ok (.goto (-36), 3) := by decide +kernel
theorem dX1_distribute_130 : decode cX1_distribute 130 = .ok (.aload_n 0, 1) := by decide +kernel
theorem dX1_distribute_131 : decode cX1_distribute 131 = .ok (.iload 9, 2) := by decide +kernel
theorem dX1_distribute_133 : decode cX1_distribute 133 = .ok (.iload 8, 2) := by decide +kernel
theorem dX1_distribute_135 : decode cX1_distribute 135 = .ok (.lload 4, 2) := by decide +kernel
theorem dX1_distribute_137 : decode cX1_distribute 137 = .ok (.invokevirtual 213, 3) := by decide +kernel
theorem dX1_distribute_140 : decode cX1_distribute 140 = .ok (.lstore 4, 2) := by decide +kernel
theorem dX1_distribute_142 : decode cX1_distribute 142 = .ok (.iload 8, 2) := by decide +kernel
theorem dX1_distribute_144 : decode cX1_distribute 144 = .ok (.istore 9, 2) := by decide +kernel
theorem dX1_distribute_146 : decode cX1_distribute 146 = .ok (.goto (-75), 3) := by decide +kernel
theorem dX1_distribute_149 : decode cX1_distribute 149 = .ok (.aload_n 0, 1) := by decide +kernel
theorem dX1_distribute_150 : decode cX1_distribute 150 = .ok (.lload 4, 2) := by decide +kernel
theorem dX1_distribute_152 : decode cX1_distribute 152 = .ok (.putfield 62, 3) := by decide +kernel
theorem dX1_distribute_155 : decode cX1_distribute 155 = .ok (.return_, 1) := by decide +kernel
theorem dX1_share_0 : decode cX1_share 0 = .ok (.lconst 0, 1) := by decide +kernel
theorem dX1_share_1 : decode cX1_share 1 = .ok (.lstore 5, 2) := by decide +kernel
theorem dX1_share_3 : decode cX1_share 3 = .ok (.iload_n 1, 1) := by decide +kernel
theorem dX1_share_4 : decode cX1_share 4 = .ok (.istore 7, 2) := by decide +kernel
theorem dX1_share_6 : decode cX1_share 6 = .ok (.iload 7, 2) := by decide +kernel
theorem dX1_share_8 : decode cX1_share 8 = .ok (.iload_n 2, 1) := by decide +kernel
theorem dX1_share_9 : decode cX1_share 9 = .ok (.if_icmp .ge 39, 3) := by decide +kernel
theorem dX1_share_12 : decode cX1_share 12 = .ok (.lload 5, 2) := by decide +kernel
theorem dX1_share_14 : decode cX1_share 14 = .ok (.aload_n 0, 1) := by decide +kernel
theorem dX1_share_15 : decode cX1_share 15 = .ok (.getfield 32, 3) := by decide +kernel
theorem dX1_share_18 : decode cX1_share 18 = .ok (.aload_n 0, 1) := by decide +kernel
theorem dX1_share_19 : decode cX1_share 19 = .ok (.getfield 53, 3) := by decide +kernel
theorem dX1_share_22 : decode cX1_share 22 = .ok (.iload 7, 2) := by decide +kernel
theorem dX1_share_24 : decode cX1_share 24 = .ok (.iaload, 1) := by decide +kernel
theorem dX1_share_25 : decode cX1_share 25 = .ok (.laload, 1) := by decide +kernel
theorem dX1_share_26 : decode cX1_share 26 = .ok (.aload_n 0, 1) := by decide +kernel
theorem dX1_share_27 : decode cX1_share 27 = .ok (.getfield 36, 3) := by decide +kernel
theorem dX1_share_30 : decode cX1_share 30 = .ok (.aload_n 0, 1) := by decide +kernel
theorem dX1_share_31 : decode cX1_share 31 = .ok (.getfield 53, 3) := by decide +kernel
theorem dX1_share_34 : decode cX1_share 34 = .ok (.iload 7, 2) := by decide +kernel
theorem dX1_share_36 : decode cX1_share 36 = .ok (.iaload, 1) := by decide +kernel
theorem dX1_share_37 : decode cX1_share 37 = .ok (.laload, 1) := by decide +kernel
theorem dX1_share_38 : decode cX1_share 38 = .ok (.ladd, 1) := by decide +kernel
theorem dX1_share_39 : decode cX1_share 39 = .ok (.ladd, 1) := by decide +kernel
theorem dX1_share_40 : decode cX1_share 40 = .ok (.lstore 5, 2) := by decide +kernel
theorem dX1_share_42 : decode cX1_share 42 = .ok (.iinc 7 1, 3) := by decide +kernel
theorem dX1_share_45 : decode cX1_share 45 = .ok (.goto (-39), 3) := by decide +kernel
theorem dX1_share_48 : decode cX1_share 48 = .ok (.lload_n 3, 1) := by decide +kernel
theorem dX1_share_49 : decode cX1_share 49 = .ok (.lstore 7, 2) := by decide +kernel
theorem dX1_share_51 : decode cX1_share 51 = .ok (.lload 5, 2) := by decide +kernel
theorem dX1_share_53 : decode cX1_share 53 = .ok (.lconst 0, 1) := by decide +kernel
theorem dX1_share_54 : decode cX1_share 54 = .ok (.lcmp, 1) := by decide +kernel
theorem dX1_share_55 : decode cX1_share 55 = .ok (.ifCond .le 71, 3) := by decide +kernel
theorem dX1_share_58 : decode cX1_share 58 = .ok (.lload 5, 2) := by decide +kernel
theorem dX1_share_60 : decode cX1_share 60 = .ok (.lload_n 3, 1) := by decide +kernel
theorem dX1_share_61 : decode cX1_share 61 = .ok (.lcmp, 1) := by decide +kernel
theorem dX1_share_62 : decode cX1_share 62 = .ok (.ifCond .le 64, 3) := by decide +kernel
theorem dX1_share_65 : decode cX1_share 65 = .ok (.iload_n 1, 1) := by decide +kernel
theorem dX1_share_66 : decode cX1_share 66 = .ok (.istore 9, 2) := by decide +kernel
theorem dX1_share_68 : decode cX1_share 68 = .ok (.iload 9, 2) := by decide +kernel
theorem dX1_share_70 : decode cX1_share 70 = .ok (.iload_n 2, 1) := by decide +kernel
theorem dX1_share_71 : decode cX1_share 71 = .ok (.if_icmp .ge 55, 3) := by decide +kernel
theorem dX1_share_74 : decode cX1_share 74 = .ok (.lload 7, 2) := by decide +kernel
theorem dX1_share_76 : decode cX1_share 76 = .ok (.aload_n 0, 1) := by decide +kernel
theorem dX1_share_77 : decode cX1_share 77 = .ok (.aload_n 0, 1) := by decide +kernel
theorem dX1_share_78 : decode cX1_share 78 = .ok (.getfield 53, 3) := by decide +kernel
theorem dX1_share_81 : decode cX1_share 81 = .ok (.iload 9, 2) := by decide +kernel
theorem dX1_share_83 : decode cX1_share 83 = .ok (.iaload, 1) := by decide +kernel
theorem dX1_share_84 : decode cX1_share 84 = .ok (.lload_n 3, 1) := by decide +kernel
theorem dX1_share_85 : decode cX1_share 85 = .ok (.aload_n 0, 1) := by decide +kernel
theorem dX1_share_86 : decode cX1_share 86 = .ok (.getfield 32, 3) := by decide +kernel
theorem dX1_share_89 : decode cX1_share 89 = .ok (.aload_n 0, 1) := by decide +kernel
theorem dX1_share_90 : decode cX1_share 90 = .ok (.getfield 53, 3) := by decide +kernel
theorem dX1_share_93 : decode cX1_share 93 = .ok (.iload 9, 2) := by decide +kernel
theorem dX1_share_95 : decode cX1_share 95 = .ok (.iaload, 1) := by decide +kernel
theorem dX1_share_96 : decode cX1_share 96 = .ok (.laload, 1) := by decide +kernel
theorem dX1_share_97 : decode cX1_share 97 = .ok (.aload_n 0, 1) := by decide +kernel
theorem dX1_share_98 : decode cX1_share 98 = .ok (.getfield 36, 3) := by decide +kernel
theorem dX1_share_101 : decode cX1_share 101 = .ok (.aload_n 0, 1) := by decide +kernel
theorem dX1_share_102 : decode cX1_share 102 = .ok (.getfield 53, 3) := by decide +kernel
theorem dX1_share_105 : decode cX1_share 105 = .ok (.iload 9, 2) := by decide +kernel
theorem dX1_share_107 : decode cX1_share 107 = .ok (.iaload, 1) := by decide +kernel
theorem dX1_share_108 : decode cX1_share 108 = .ok (.laload, 1) := by decide +kernel
theorem dX1_share_109 : decode cX1_share 109 = .ok (.ladd, 1) := by decide +kernel
theorem dX1_share_110 : decode cX1_share 110 = .ok (.lmul, 1) := by decide +kernel
theorem dX1_share_111 : decode cX1_share 111 = .ok (.lload 5, 2) := by decide +kernel
theorem dX1_share_113 : decode cX1_share 113 = .ok (.ldiv, 1) := by decide +kernel
theorem dX1_share_114 : decode cX1_share 114 = .ok (.invokevirtual 205, 3) := by decide +kernel
theorem dX1_share_117 : decode cX1_share 117 = .ok (.lsub, 1) := by decide +kernel
theorem dX1_share_118 : decode cX1_share 118 = .ok (.lstore 7, 2) := by decide +kernel
theorem dX1_share_120 : decode cX1_share 120 = .ok (.iinc 9 1, 3) := by decide +kernel
theorem dX1_share_123 : decode cX1_share 123 = .ok (.goto (-55), 3) := by decide +kernel
theorem dX1_share_126 : decode cX1_share 126 = .ok (.iload_n 1, 1) := by decide +kernel
theorem dX1_share_127 : decode cX1_share 127 = .ok (.istore 9, 2) := by decide +kernel
theorem dX1_share_129 : decode cX1_share 129 = .ok (.iload 9, 2) := by decide +kernel
theorem dX1_share_131 : decode cX1_share 131 = .ok (.iload_n 2, 1) := by decide +kernel
theorem dX1_share_132 : decode cX1_share 132 = .ok (.if_icmp .ge 27, 3) := by decide +kernel
theorem dX1_share_135 : decode cX1_share 135 = .ok (.lload 7, 2) := by decide +kernel
theorem dX1_share_137 : decode cX1_share 137 = .ok (.aload_n 0, 1) := by decide +kernel
theorem dX1_share_138 : decode cX1_share 138 = .ok (.aload_n 0, 1) := by decide +kernel
theorem dX1_share_139 : decode cX1_share 139 = .ok (.getfield 53, 3) := by decide +kernel
theorem dX1_share_142 : decode cX1_share 142 = .ok (.iload 9, 2) := by decide +kernel
theorem dX1_share_144 : decode cX1_share 144 = .ok (.iaload, 1) := by decide +kernel
theorem dX1_share_145 : decode cX1_share 145 = .ok (.lload 7, 2) := by decide +kernel
theorem dX1_share_147 : decode cX1_share 147 = .ok (.invokevirtual 205, 3) := by decide +kernel
theorem dX1_share_150 : decode cX1_share 150 = .ok (.lsub, 1) := by decide +kernel
theorem dX1_share_151 : decode cX1_share 151 = .ok (.lstore 7, 2) := by decide +kernel
theorem dX1_share_153 : decode cX1_share 153 = .ok (.iinc 9 1, 3) := by decide +kernel
theorem dX1_share_156 : decode cX1_share 156 = .ok (.goto (-27), 3) := by decide +kernel
theorem dX1_share_159 : decode cX1_share 159 = .ok (.lload 7, 2) := by decide +kernel
theorem dX1_share_161 : decode cX1_share 161 = .ok (.lreturn, 1) := by decide +kernel
theorem dX1_give_0 : decode cX1_give 0 = .ok (.lload_n 2, 1) := by decide +kernel
theorem dX1_give_1 : decode cX1_give 1 = .ok (.aload_n 0, 1) := by decide +kernel
theorem dX1_give_2 : decode cX1_give 2 = .ok (.getfield 32, 3) := by decide +kernel
theorem dX1_give_5 : decode cX1_give 5 = .ok (.iload_n 1, 1) := by decide +kernel
theorem dX1_give_6 : decode cX1_give 6 = .ok (.laload, 1) := by decide +kernel
theorem dX1_give_7 : decode cX1_give 7 = .ok (.aload_n 0, 1) := by decide +kernel
theorem dX1_give_8 : decode cX1_give 8 = .ok (.getfield 36, 3) := by decide +kernel
theorem dX1_give_11 : decode cX1_give 11 = .ok (.iload_n 1, 1) := by decide +kernel
theorem dX1_give_12 : decode cX1_give 12 = .ok (.laload, 1) := by decide +kernel
theorem dX1_give_13 : decode cX1_give 13 = .ok (.ladd, 1) := by decide +kernel
theorem dX1_give_14 : decode cX1_give 14 = .ok (.invokestatic 217, 3) := by decide +kernel
theorem dX1_give_17 : decode cX1_give 17 = .ok (.lstore 4, 2) := by decide +kernel
theorem dX1_give_19 : decode cX1_give 19 = .ok (.lload 4, 2) := by decide +kernel
theorem dX1_give_21 : decode cX1_give 21 = .ok (.lconst 0, 1) := by decide +kernel
theorem dX1_give_22 : decode cX1_give 22 = .ok (.lcmp, 1) := by decide +kernel
theorem dX1_give_23 : decode cX1_give 23 = .ok (.ifCond .gt 5, 3) := by decide +kernel
theorem dX1_give_26 : decode cX1_give 26 = .ok (.lconst 0, 1) := by decide +kernel
theorem dX1_give_27 : decode cX1_give 27 = .ok (.lreturn, 1) := by decide +kernel
theorem dX1_give_28 : decode cX1_give 28 = .ok (.aload_n 0, 1) := by decide +kernel
theorem dX1_give_29 : decode cX1_give 29 = .ok (.getfield 21, 3) := by decide +kernel
theorem dX1_give_32 : decode cX1_give 32 = .ok (.bipush 115, 2) := by decide +kernel
theorem dX1_give_34 : decode cX1_give 34 = .ok (.invokevirtual 160, 3) := by decide +kernel
theorem dX1_give_37 : decode cX1_give 37 = .ok (.ifCond .eq 17, 3) := by decide +kernel
theorem dX1_give_40 : decode cX1_give 40 = .ok (.lload 4, 2) := by decide +kernel
theorem dX1_give_42 : decode cX1_give 42 = .ok (.aload_n 0, 1) := by decide +kernel
theorem dX1_give_43 : decode cX1_give 43 = .ok (.getfield 32, 3) := by decide +kernel
theorem dX1_give_46 : decode cX1_give 46 = .ok (.iload_n 1, 1) := by decide +kernel
theorem dX1_give_47 : decode cX1_give 47 = .ok (.laload, 1) := by decide +kernel
theorem dX1_give_48 : decode cX1_give 48 = .ok (.invokestatic 217, 3) := by decide +kernel
theorem dX1_give_51 : decode cX1_give 51 = .ok (.goto 17, 3) := by decide +kernel
theorem dX1_give_54 : decode cX1_give 54 = .ok (.lload 4, 2) := by decide +kernel
theorem dX1_give_56 : decode cX1_give 56 = .ok (.lload 4, 2) := by decide +kernel
theorem dX1_give_58 : decode cX1_give 58 = .ok (.aload_n 0, 1) := by decide +kernel
theorem dX1_give_59 : decode cX1_give 59 = .ok (.getfield 36, 3) := by decide +kernel
theorem dX1_give_62 : decode cX1_give 62 = .ok (.iload_n 1, 1) := by decide +kernel
theorem dX1_give_63 : decode cX1_give 63 = .ok (.laload, 1) := by decide +kernel
theorem dX1_give_64 : decode cX1_give 64 = .ok (.invokestatic 217, 3) := by decide +kernel
theorem dX1_give_67 : decode cX1_give 67 = .ok (.lsub, 1) := by decide +kernel
theorem dX1_give_68 : decode cX1_give 68 = .ok (.lstore 6, 2) := by decide +kernel
theorem dX1_give_70 : decode cX1_give 70 = .ok (.aload_n 0, 1) := by decide +kernel
theorem dX1_give_71 : decode cX1_give 71 = .ok (.getfield 32, 3) := by decide +kernel
theorem dX1_give_74 : decode cX1_give 74 = .ok (.iload_n 1, 1) := by decide +kernel
theorem dX1_give_75 : decode cX1_give 75 = .ok (.dup2, 1) := by decide +kernel
theorem dX1_give_76 : decode cX1_give 76 = .ok (.laload, 1) := by decide +kernel
theorem dX1_give_77 : decode cX1_give 77 = .ok (.lload 6, 2) := by decide +kernel
theorem dX1_give_79 : decode cX1_give 79 = .ok (.lsub, 1) := by decide +kernel
theorem dX1_give_80 : decode cX1_give 80 = .ok (.lastore, 1) := by decide +kernel
theorem dX1_give_81 : decode cX1_give 81 = .ok (.aload_n 0, 1) := by decide +kernel
theorem dX1_give_82 : decode cX1_give 82 = .ok (.getfield 36, 3) := by decide +kernel
theorem dX1_give_85 : decode cX1_give 85 = .ok (.iload_n 1, 1) := by decide +kernel
theorem dX1_give_86 : decode cX1_give 86 = .ok (.dup2, 1) := by decide +kernel
theorem dX1_give_87 : decode cX1_give 87 = .ok (.laload, 1) := by decide +kernel
theorem dX1_give_88 : decode cX1_give 88 = .ok (.lload 4, 2) := by decide +kernel
theorem dX1_give_90 : decode cX1_give 90 = .ok (.lload 6, 2) := by decide +kernel
theorem dX1_give_92 : decode cX1_give 92 = .ok (.lsub, 1) := by decide +kernel
theorem dX1_give_93 : decode cX1_give 93 = .ok (.lsub, 1) := by decide +kernel
theorem dX1_give_94 : decode cX1_give 94 = .ok (.lastore, 1) := by decide +kernel
theorem dX1_give_95 : decode cX1_give 95 = .ok (.aload_n 0, 1) := by decide +kernel
theorem dX1_give_96 : decode cX1_give 96 = .ok (.getfield 56, 3) := by decide +kernel
theorem dX1_give_99 : decode cX1_give 99 = .ok (.iload_n 1, 1) := by decide +kernel
theorem dX1_give_100 : decode cX1_give 100 = .ok (.dup2, 1) := by decide +kernel
theorem dX1_give_101 : decode cX1_give 101 = .ok (.laload, 1) := by decide +kernel
theorem dX1_give_102 : decode cX1_give 102 = .ok (.lload 6, 2) := by decide +kernel
theorem dX1_give_104 : decode cX1_give 104 = .ok (.ladd, 1) := by decide +kernel
theorem dX1_give_105 : decode cX1_give 105 = .ok (.lastore, 1) := by decide +kernel
theorem dX1_give_106 : decode cX1_give 106 = .ok (.aload_n 0, 1) := by decide +kernel
theorem dX1_give_107 : decode cX1_give 107 = .ok (.getfield 59, 3) := by decide +kernel
theorem dX1_give_110 : decode cX1_give 110 = .ok (.iload_n 1, 1) := by decide +kernel
theorem dX1_give_111 : decode cX1_give 111 = .ok (.dup2, 1) := by decide +kernel
theorem dX1_give_112 : decode cX1_give 112 = .ok (.laload, 1) := by decide +kernel
theorem dX1_give_113 : decode cX1_give 113 = .ok (.lload 4, 2) := by decide +kernel
theorem dX1_give_115 : decode cX1_give 115 = .ok (.lload 6, 2) := by decide +kernel
theorem dX1_give_117 : decode cX1_give 117 = .ok (.lsub, 1) := by decide +kernel
theorem dX1_give_118 : decode cX1_give 118 = .ok (.ladd, 1) := by decide +kernel
theorem dX1_give_119 : decode cX1_give 119 = .ok (.lastore, 1) := by decide +kernel
theorem dX1_give_120 : decode cX1_give 120 = .ok (.aload_n 0, 1) := by decide +kernel
theorem dX1_give_121 : decode cX1_give 121 = .ok (.getfield 39, 3) := by decide +kernel
theorem dX1_give_124 : decode cX1_give 124 = .ok (.iload_n 1, 1) := by decide +kernel
theorem dX1_give_125 : decode cX1_give 125 = .ok (.aload_n 0, 1) := by decide +kernel
theorem dX1_give_126 : decode cX1_give 126 = .ok (.getfield 25, 3) := by decide +kernel
theorem dX1_give_129 : decode cX1_give 129 = .ok (.iastore, 1) := by decide +kernel
theorem dX1_give_130 : decode cX1_give 130 = .ok (.aload_n 0, 1) := by decide +kernel
theorem dX1_give_131 : decode cX1_give 131 = .ok (.getfield 49, 3) := by decide +kernel
theorem dX1_give_134 : decode cX1_give 134 = .ok (.iload_n 1, 1) := by decide +kernel
theorem dX1_give_135 : decode cX1_give 135 = .ok (.baload, 1) := by decide +kernel
theorem dX1_give_136 : decode cX1_give 136 = .ok (.ifCond .eq 23, 3) := by decide +kernel
theorem dX1_give_139 : decode cX1_give 139 = .ok (.aload_n 0, 1) := by decide +kernel
theorem dX1_give_140 : decode cX1_give 140 = .ok (.getfield 46, 3) := by decide +kernel
theorem dX1_give_143 : decode cX1_give 143 = .ok (.iload_n 1, 1) := by decide +kernel
theorem dX1_give_144 : decode cX1_give 144 = .ok (.iaload, 1) := by decide +kernel
theorem dX1_give_145 : decode cX1_give 145 = .ok (.iconst (-1), 1) := by decide +kernel
theorem dX1_give_146 : decode cX1_give 146 = .ok (.if_icmp .ne 13, 3) := by decide +kernel
theorem dX1_give_149 : decode cX1_give 149 = .ok (.aload_n 0, 1) := by decide +kernel
theorem dX1_give_150 : decode cX1_give 150 = .ok (.getfield 46, 3) := by decide +kernel
theorem dX1_give_153 : decode cX1_give 153 = .ok (.iload_n 1, 1) := by decide +kernel
theorem dX1_give_154 : decode cX1_give 154 = .ok (.aload_n 0, 1) := by decide +kernel
theorem dX1_give_155 : decode cX1_give 155 = .ok (.getfield 25, 3) := by decide +kernel
theorem dX1_give_158 : decode cX1_give 158 = .ok (.iastore, 1) := by decide +kernel
theorem dX1_give_159 : decode cX1_give 159 = .ok (.aload_n 0, 1) := by decide +kernel
theorem dX1_give_160 : decode cX1_give 160 = .ok (.getfield 32, 3) := by decide +kernel
theorem dX1_give_163 : decode cX1_give 163 = .ok (.iload_n 1, 1) := by decide +kernel
theorem dX1_give_164 : decode cX1_give 164 = .ok (.laload, 1) := by decide +kernel
theorem dX1_give_165 : decode cX1_give 165 = .ok (.aload_n 0, 1) := by decide +kernel
theorem dX1_give_166 : decode cX1_give 166 = .ok (.getfield 36, 3) := by decide +kernel
theorem dX1_give_169 : decode cX1_give 169 = .ok (.iload_n 1, 1) := by decide +kernel
theorem dX1_give_170 : decode cX1_give 170 = .ok (.laload, 1) := by decide +kernel
theorem dX1_give_171 : decode cX1_give 171 = .ok (.ladd, 1) := by decide +kernel
theorem dX1_give_172 : decode cX1_give 172 = .ok (.lconst 0, 1) := by decide +kernel
theorem dX1_give_173 : decode cX1_give 173 = .ok (.lcmp, 1) := by decide +kernel
theorem dX1_give_174 : decode cX1_give 174 = .ok (.ifCond .ne 13, 3) := by decide +kernel
theorem dX1_give_177 : decode cX1_give 177 = .ok (.aload_n 0, 1) := by decide +kernel
theorem dX1_give_178 : decode cX1_give 178 = .ok (.getfield 43, 3) := by decide +kernel
theorem dX1_give_181 : decode cX1_give 181 = .ok (.iload_n 1, 1) := by decide +kernel
theorem dX1_give_182 : decode cX1_give 182 = .ok (.aload_n 0, 1) := by decide +kernel
theorem dX1_give_183 : decode cX1_give 183 = .ok (.getfield 25, 3) := by decide +kernel
theorem dX1_give_186 : decode cX1_give 186 = .ok (.iastore, 1) := by decide +kernel
theorem dX1_give_187 : decode cX1_give 187 = .ok (.lload 4, 2) := by decide +kernel
theorem dX1_give_189 : decode cX1_give 189 = .ok (.lreturn, 1) := by decide +kernel
theorem dX2_init_0 : decode cX2_init 0 = .ok (.aload_n 0, 1) := by decide +kernel
theorem dX2_init_1 : decode cX2_init 1 = .ok (.invokespecial 3, 3) := by decide +kernel
theorem dX2_init_4 : decode cX2_init 4 = .ok (.aload_n 0, 1) := by decide +kernel
theorem dX2_init_5 : decode cX2_init 5 = .ok (.bipush 6, 2) := by decide +kernel
theorem dX2_init_7 : decode cX2_init 7 = .ok (.newarray .int, 2) := by decide +kernel
theorem dX2_init_9 : decode cX2_init 9 = .ok (.putfield 9, 3) := by decide +kernel
theorem dX2_init_12 : decode cX2_init 12 = .ok (.return_, 1) := by decide +kernel
theorem dX2_begin_0 : decode cX2_begin 0 = .ok (.aload_n 0, 1) := by decide +kernel
theorem dX2_begin_1 : decode cX2_begin 1 = .ok (.iload_n 1, 1) := by decide +kernel
theorem dX2_begin_2 : decode cX2_begin 2 = .ok (.putfield 15, 3) := by decide +kernel
theorem dX2_begin_5 : decode cX2_begin 5 = .ok (.aload_n 0, 1) := by decide +kernel
theorem dX2_begin_6 : decode cX2_begin 6 = .ok (.iload_n 2, 1) := by decide +kernel
theorem dX2_begin_7 : decode cX2_begin 7 = .ok (.putfield 19, 3) := by decide +kernel
theorem dX2_begin_10 : decode cX2_begin 10 = .ok (.aload_n 0, 1) := by decide +kernel
theorem dX2_begin_11 : decode cX2_begin 11 = .ok (.getfield 9, 3) := by decide +kernel
theorem dX2_begin_14 : decode cX2_begin 14 = .ok (.iconst 0, 1) := by decide +kernel
theorem dX2_begin_15 : decode cX2_begin 15 = .ok (.iconst 0, 1) := by decide +kernel
theorem dX2_begin_16 : decode cX2_begin 16 = .ok (.iastore, 1) := by decide +kernel
theorem dX2_begin_17 : decode cX2_begin 17 = .ok (.aload_n 0, 1) := by decide +kernel
theorem dX2_begin_18 : decode cX2_begin 18 = .ok (.getfield 9, 3) := by decide +kernel
theorem dX2_begin_21 : decode cX2_begin 21 = .ok (.iconst 1, 1) := by decide +kernel
theorem dX2_begin_22 : decode cX2_begin 22 = .ok (.iconst (-1), 1) := by decide +kernel
theorem dX2_begin_23 : decode cX2_begin 23 = .ok (.iastore, 1) := by decide +kernel
theorem dX2_begin_24 : decode cX2_begin 24 = .ok (.aload_n 0, 1) := by decide +kernel
theorem dX2_begin_25 : decode cX2_begin 25 = .ok (.getfield 9, 3) := by decide +kernel
theorem dX2_begin_28 : decode cX2_begin 28 = .ok (.iconst 2, 1) := by decide +kernel
theorem dX2_begin_29 : decode cX2_begin 29 = .ok (.iconst 0, 1) := by decide +kernel
theorem dX2_begin_30 : decode cX2_begin 30 = .ok (.iastore, 1) := by decide +kernel
theorem dX2_begin_31 : decode cX2_begin 31 = .ok (.aload_n 0, 1) := by decide +kernel
theorem dX2_begin_32 : decode cX2_begin 32 = .ok (.getfield 9, 3) := by decide +kernel
theorem dX2_begin_35 : decode cX2_begin 35 = .ok (.iconst 3, 1) := by decide +kernel
theorem dX2_begin_36 : decode cX2_begin 36 = .ok (.iconst 0, 1) := by decide +kernel
theorem dX2_begin_37 : decode cX2_begin 37 = .ok (.iastore, 1) := by decide +kernel
theorem dX2_begin_38 : decode cX2_begin 38 = .ok (.aload_n 0, 1) := by decide +kernel
theorem dX2_begin_39 : decode cX2_begin 39 = .ok (.getfield 9, 3) := by decide +kernel
theorem dX2_begin_42 : decode cX2_begin 42 = .ok (.iconst 4, 1) := by decide +kernel
theorem dX2_begin_43 : decode cX2_begin 43 = .ok (.iload 4, 2) := by decide +kernel
theorem dX2_begin_45 : decode cX2_begin 45 = .ok (.iastore, 1) := by decide +kernel
theorem dX2_begin_46 : decode cX2_begin 46 = .ok (.aload_n 0, 1) := by decide +kernel
theorem dX2_begin_47 : decode cX2_begin 47 = .ok (.getfield 9, 3) := by decide +kernel
theorem dX2_begin_50 : decode cX2_begin 50 = .ok (.iconst 5, 1) := by decide +kernel
theorem dX2_begin_51 : decode cX2_begin 51 = .ok (.iload_n 3, 1) := by decide +kernel
theorem dX2_begin_52 : decode cX2_begin 52 = .ok (.iastore, 1) := by decide +kernel
theorem dX2_begin_53 : decode cX2_begin 53 = .ok (.return_, 1) := by decide +kernel
theorem dX2_isSecured_0 : decode cX2_isSecured 0 = .ok (.aload_n 0, 1) := by decide +kernel
theorem dX2_isSecured_1 : decode cX2_isSecured 1 = .ok (.getfield 9, 3) := by decide +kernel
theorem dX2_isSecured_4 : decode cX2_isSecured 4 = .ok (.iconst 1, 1) := by decide +kernel
theorem dX2_isSecured_5 : decode cX2_isSecured 5 = .ok (.iaload, 1) := by decide +kernel
theorem dX2_isSecured_6 : decode cX2_isSecured 6 = .ok (.ifCond .ge 13, 3) := by decide +kernel
theorem dX2_isSecured_9 : decode cX2_isSecured 9 = .ok (.aload_n 0, 1) := by decide +kernel
theorem dX2_isSecured_10 : decode cX2_isSecured 10 = .ok (.getfield 9, 3) := by decide +kernel
theorem dX2_isSecured_13 : decode cX2_isSecured 13 = .ok (.iconst 2, 1) := by decide +kernel
theorem dX2_isSecured_14 : decode cX2_isSecured 14 = .ok (.iaload, 1) := by decide +kernel
theorem dX2_isSecured_15 : decode cX2_isSecured 15 = .ok (.iconst 1, 1) := by decide +kernel
theorem dX2_isSecured_16 : decode cX2_isSecured 16 = .ok (.if_icmp .ne 7, 3) := by decide +kernel
theorem dX2_isSecured_19 : decode cX2_isSecured 19 = .ok (.iconst 1, 1) := by decide +kernel
theorem dX2_isSecured_20 : decode cX2_isSecured 20 = .ok (.goto 4, 3) := by decide +kernel
theorem dX2_isSecured_23 : decode cX2_isSecured 23 = .ok (.iconst 0, 1) := by decide +kernel
theorem dX2_isSecured_24 : decode cX2_isSecured 24 = .ok (.ireturn, 1) := by decide +kernel
theorem dX2_copyFrom_0 : decode cX2_copyFrom 0 = .ok (.aload_n 0, 1) := by decide +kernel
theorem dX2_copyFrom_1 : decode cX2_copyFrom 1 = .ok (.aload_n 1, 1) := by decide +kernel
theorem dX2_copyFrom_2 : decode cX2_copyFrom 2 = .ok (.getfield 15, 3) := by decide +kernel
theorem dX2_copyFrom_5 : decode cX2_copyFrom 5 = .ok (.putfield 15, 3) := by decide +kernel
theorem dX2_copyFrom_8 : decode cX2_copyFrom 8 = .ok (.aload_n 0, 1) := by decide +kernel
theorem dX2_copyFrom_9 : decode cX2_copyFrom 9 = .ok (.aload_n 1, 1) := by decide +kernel
theorem dX2_copyFrom_10 : decode cX2_copyFrom 10 = .ok (.getfield 19, 3) := by decide +kernel
theorem dX2_copyFrom_13 : decode cX2_copyFrom 13 = .ok (.putfield 19, 3) := by decide +kernel
theorem dX2_copyFrom_16 : decode cX2_copyFrom 16 = .ok (.aload_n 1, 1) := by decide +kernel
theorem dX2_copyFrom_17 : decode cX2_copyFrom 17 = .ok (.getfield 9, 3) := by decide +kernel
theorem dX2_copyFrom_20 : decode cX2_copyFrom 20 = .ok (.iconst 0, 1) := by decide +kernel
theorem dX2_copyFrom_21 : decode cX2_copyFrom 21 = .ok (.aload_n 0, 1) := by decide +kernel
theorem dX2_copyFrom_22 : decode cX2_copyFrom 22 = .ok (.getfield 9, 3) := by decide +kernel
theorem dX2_copyFrom_25 : decode cX2_copyFrom 25 = .ok (.iconst 0, 1) := by decide +kernel
theorem dX2_copyFrom_26 : decode cX2_copyFrom 26 = .ok (.bipush 6, 2) := by decide +kernel
theorem dX2_copyFrom_28 : decode cX2_copyFrom 28 = .ok (.invokestatic 22, 3) := by decide +kernel
theorem dX2_copyFrom_31 : decode cX2_copyFrom 31 = .ok (.return_, 1) := by decide +kernel
theorem dX3_init_0 : decode cX3_init 0 = .ok (.aload_n 0, 1) := by decide +kernel
theorem dX3_init_1 : decode cX3_init 1 = .ok (.invokespecial 3, 3) := by decide +kernel
theorem dX3_init_4 : decode cX3_init 4 = .ok (.aload_n 0, 1) := by decide +kernel
theorem dX3_init_5 : decode cX3_init 5 = .ok (.bipush 10, 2) := by decide +kernel
theorem dX3_init_7 : decode cX3_init 7 = .ok (.newarray .int, 2) := by decide +kernel
theorem dX3_init_9 : decode cX3_init 9 = .ok (.putfield 9, 3) := by decide +kernel
theorem dX3_init_12 : decode cX3_init 12 = .ok (.aload_n 0, 1) := by decide +kernel
theorem dX3_init_13 : decode cX3_init 13 = .ok (.iconst 0, 1) := by decide +kernel
theorem dX3_init_14 : decode cX3_init 14 = .ok (.putfield 15, 3) := by decide +kernel
theorem dX3_init_17 : decode cX3_init 17 = .ok (.aload_n 0, 1) := by decide +kernel
theorem dX3_init_18 : decode cX3_init 18 = .ok (.iconst 0, 1) := by decide +kernel
theorem dX3_init_19 : decode cX3_init 19 = .ok (.putfield 19, 3) := by decide +kernel
theorem dX3_init_22 : decode cX3_init 22 = .ok (.return_, 1) := by decide +kernel
theorem dX3_has_0 : decode cX3_has 0 = .ok (.aload_n 0, 1) := by decide +kernel
theorem dX3_has_1 : decode cX3_has 1 = .ok (.getfield 19, 3) := by decide +kernel
theorem dX3_has_4 : decode cX3_has 4 = .ok (.iload_n 1, 1) := by decide +kernel
theorem dX3_has_5 : decode cX3_has 5 = .ok (.bipush 97, 2) := by decide +kernel
theorem dX3_has_7 : decode cX3_has 7 = .ok (.isub, 1) := by decide +kernel
theorem dX3_has_8 : decode cX3_has 8 = .ok (.ishr, 1) := by decide +kernel
theorem dX3_has_9 : decode cX3_has 9 = .ok (.iconst 1, 1) := by decide +kernel
theorem dX3_has_10 : decode cX3_has 10 = .ok (.iand, 1) := by decide +kernel
theorem dX3_has_11 : decode cX3_has 11 = .ok (.ifCond .eq 7, 3) := by decide +kernel
theorem dX3_has_14 : decode cX3_has 14 = .ok (.iconst 1, 1) := by decide +kernel
theorem dX3_has_15 : decode cX3_has 15 = .ok (.goto 4, 3) := by decide +kernel
theorem dX3_has_18 : decode cX3_has 18 = .ok (.iconst 0, 1) := by decide +kernel
theorem dX3_has_19 : decode cX3_has 19 = .ok (.ireturn, 1) := by decide +kernel
theorem dX3_read_0 : decode cX3_read 0 = .ok (.aload_n 0, 1) := by decide +kernel
theorem dX3_read_1 : decode cX3_read 1 = .ok (.iconst 0, 1) := by decide +kernel
theorem dX3_read_2 : decode cX3_read 2 = .ok (.putfield 15, 3) := by decide +kernel
theorem dX3_read_5 : decode cX3_read 5 = .ok (.aload_n 0, 1) := by decide +kernel
theorem dX3_read_6 : decode cX3_read 6 = .ok (.iconst 0, 1) := by decide +kernel
theorem dX3_read_7 : decode cX3_read 7 = .ok (.putfield 19, 3) := by decide +kernel
theorem dX3_read_10 : decode cX3_read 10 = .ok (.iconst 0, 1) := by decide +kernel
theorem dX3_read_11 : decode cX3_read 11 = .ok (.istore_n 2, 1) := by decide +kernel
theorem dX3_read_12 : decode cX3_read 12 = .ok (.iload_n 2, 1) := by decide +kernel
theorem dX3_read_13 : decode cX3_read 13 = .ok (.aload_n 1, 1) := by decide +kernel
theorem dX3_read_14 : decode cX3_read 14 = .ok (.getfield 22, 3) := by decide +kernel
theorem dX3_read_17 : decode cX3_read 17 = .ok (.if_icmp .ge 72, 3) := by decide +kernel
theorem dX3_read_20 : decode cX3_read 20 = .ok (.aload_n 0, 1) := by decide +kernel
theorem dX3_read_21 : decode cX3_read 21 = .ok (.getfield 15, 3) := by decide +kernel
theorem dX3_read_24 : decode cX3_read 24 = .ok (.bipush 10, 2) := by decide +kernel
theorem dX3_read_26 : decode cX3_read 26 = .ok (.if_icmp .ge 63, 3) := by decide +kernel
theorem dX3_read_29 : decode cX3_read 29 = .ok (.aload_n 1, 1) := by decide +kernel
theorem dX3_read_30 : decode cX3_read 30 = .ok (.getfield 25, 3) := by decide +kernel
theorem dX3_read_33 : decode cX3_read 33 = .ok (.iload_n 2, 1) := by decide +kernel
theorem dX3_read_34 : decode cX3_read 34 = .ok (.iaload, 1) := by decide +kernel
theorem dX3_read_35 : decode cX3_read 35 = .ok (.bipush 32, 2) := by decide +kernel
theorem dX3_read_37 : decode cX3_read 37 = .ok (.if_icmp .eq 46, 3) := by decide +kernel
theorem dX3_read_40 : decode cX3_read 40 = .ok (.aload_n 0, 1) := by decide +kernel
theorem dX3_read_41 : decode cX3_read 41 = .ok (.getfield 9, 3) := by decide +kernel
theorem dX3_read_44 : decode cX3_read 44 = .ok (.aload_n 0, 1) := by decide +kernel
theorem dX3_read_45 : decode cX3_read 45 = .ok (.getfield 15, 3) := by decide +kernel
theorem dX3_read_48 : decode cX3_read 48 = .ok (.aload_n 1, 1) := by decide +kernel
theorem dX3_read_49 : decode cX3_read 49 = .ok (.getfield 25, 3) := by decide +kernel
theorem dX3_read_52 : decode cX3_read 52 = .ok (.iload_n 2, 1) := by decide +kernel
theorem dX3_read_53 : decode cX3_read 53 = .ok (.iaload, 1) := by decide +kernel
theorem dX3_read_54 : decode cX3_read 54 = .ok (.iastore, 1) := by decide +kernel
theorem dX3_read_55 : decode cX3_read 55 = .ok (.aload_n 0, 1) := by decide +kernel
theorem dX3_read_56 : decode cX3_read 56 = .ok (.dup, 1) := by decide +kernel
theorem dX3_read_57 : decode cX3_read 57 = .ok (.getfield 15, 3) := by decide +kernel
theorem dX3_read_60 : decode cX3_read 60 = .ok (.iconst 1, 1) := by decide +kernel
theorem dX3_read_61 : decode cX3_read 61 = .ok (.iadd, 1) := by decide +kernel
theorem dX3_read_62 : decode cX3_read 62 = .ok (.putfield 15, 3) := by decide +kernel
theorem dX3_read_65 : decode cX3_read 65 = .ok (.aload_n 0, 1) := by decide +kernel
theorem dX3_read_66 : decode cX3_read 66 = .ok (.dup, 1) := by decide +kernel
theorem dX3_read_67 : decode cX3_read 67 = .ok (.getfield 19, 3) := by decide +kernel
theorem dX3_read_70 : decode cX3_read 70 = .ok (.aload_n 1, 1) := by decide +kernel
theorem dX3_read_71 : decode cX3_read 71 = .ok (.getfield 25, 3) := by decide +kernel
theorem dX3_read_74 : decode cX3_read 74 = .ok (.iload_n 2, 1) := by decide +kernel
theorem dX3_read_75 : decode cX3_read 75 = .ok (.iaload, 1) := by decide +kernel
theorem dX3_read_76 : decode cX3_read 76 = .ok (.invokestatic 28, 3) := by decide +kernel
theorem dX3_read_79 : decode cX3_read 79 = .ok (.ior, 1) := by decide +kernel
theorem dX3_read_80 : decode cX3_read 80 = .ok (.putfield 19, 3) := by decide +kernel
theorem dX3_read_83 : decode cX3_read 83 = .ok (.iinc 2 1, 3) := by decide +kernel
theorem dX3_read_86 : decode cX3_read 86 = .ok (.goto (-74), 3) := by decide +kernel
theorem dX3_read_89 : decode cX3_read 89 = .ok (.return_, 1) := by decide +kernel
theorem dX3_copyFrom_0 : decode cX3_copyFrom 0 = .ok (.aload_n 1, 1) := by decide +kernel
theorem dX3_copyFrom_1 : decode cX3_copyFrom 1 = .ok (.getfield 9, 3) := by decide +kernel
theorem dX3_copyFrom_4 : decode cX3_copyFrom 4 = .ok (.iconst 0, 1) := by decide +kernel
theorem dX3_copyFrom_5 : decode cX3_copyFrom 5 = .ok (.aload_n 0, 1) := by decide +kernel
theorem dX3_copyFrom_6 : decode cX3_copyFrom 6 = .ok (.getfield 9, 3) := by decide +kernel
theorem dX3_copyFrom_9 : decode cX3_copyFrom 9 = .ok (.iconst 0, 1) := by decide +kernel
theorem dX3_copyFrom_10 : decode cX3_copyFrom 10 = .ok (.bipush 10, 2) := by decide +kernel
theorem dX3_copyFrom_12 : decode cX3_copyFrom 12 = .ok (.invokestatic 32, 3) := by decide +kernel
theorem dX3_copyFrom_15 : decode cX3_copyFrom 15 = .ok (.aload_n 0, 1) := by decide +kernel
theorem dX3_copyFrom_16 : decode cX3_copyFrom 16 = .ok (.aload_n 1, 1) := by decide +kernel
theorem dX3_copyFrom_17 : decode cX3_copyFrom 17 = .ok (.getfield 15, 3) := by decide +kernel
theorem dX3_copyFrom_20 : decode cX3_copyFrom 20 = .ok (.putfield 15, 3) := by decide +kernel
theorem dX3_copyFrom_23 : decode cX3_copyFrom 23 = .ok (.aload_n 0, 1) := by decide +kernel
theorem dX3_copyFrom_24 : decode cX3_copyFrom 24 = .ok (.aload_n 1, 1) := by decide +kernel
theorem dX3_copyFrom_25 : decode cX3_copyFrom 25 = .ok (.getfield 19, 3) := by decide +kernel
theorem dX3_copyFrom_28 : decode cX3_copyFrom 28 = .ok (.putfield 19, 3) := by decide +kernel
theorem dX3_copyFrom_31 : decode cX3_copyFrom 31 = .ok (.return_, 1) := by decide +kernel
theorem dX3_bitOf_0 : decode cX3_bitOf 0 = .ok (.iconst 1, 1) := by decide +kernel
theorem dX3_bitOf_1 : decode cX3_bitOf 1 = .ok (.iload_n 0, 1) := by decide +kernel
theorem dX3_bitOf_2 : decode cX3_bitOf 2 = .ok (.bipush 97, 2) := by decide +kernel
theorem dX3_bitOf_4 : decode cX3_bitOf 4 = .ok (.isub, 1) := by decide +kernel
theorem dX3_bitOf_5 : decode cX3_bitOf 5 = .ok (.ishl, 1) := by decide +kernel
theorem dX3_bitOf_6 : decode cX3_bitOf 6 = .ok (.ireturn, 1) := by decide +kernel
theorem dX4_init_0 : decode cX4_init 0 = .ok (.aload_n 0, 1) := by decide +kernel
theorem dX4_init_1 : decode cX4_init 1 = .ok (.invokespecial 3, 3) := by decide +kernel
theorem dX4_init_4 : decode cX4_init 4 = .ok (.aload_n 0, 1) := by decide +kernel
theorem dX4_init_5 : decode cX4_init 5 = .ok (.iconst (-1), 1) := by decide +kernel
theorem dX4_init_6 : decode cX4_init 6 = .ok (.putfield 9, 3) := by decide +kernel
theorem dX4_init_9 : decode cX4_init 9 = .ok (.aload_n 0, 1) := by decide +kernel
theorem dX4_init_10 : decode cX4_init 10 = .ok (.iconst (-1), 1) := by decide +kernel
theorem dX4_init_11 : decode cX4_init 11 = .ok (.putfield 15, 3) := by decide +kernel
theorem dX4_init_14 : decode cX4_init 14 = .ok (.return_, 1) := by decide +kernel
theorem dX4_copyFrom_0 : decode cX4_copyFrom 0 = .ok (.aload_n 0, 1) := by decide +kernel
theorem dX4_copyFrom_1 : decode cX4_copyFrom 1 = .ok (.aload_n 1, 1) := by decide +kernel
theorem dX4_copyFrom_2 : decode cX4_copyFrom 2 = .ok (.getfield 18, 3) := by decide +kernel
theorem dX4_copyFrom_5 : decode cX4_copyFrom 5 = .ok (.putfield 18, 3) := by decide +kernel
theorem dX4_copyFrom_8 : decode cX4_copyFrom 8 = .ok (.aload_n 0, 1) := by decide +kernel
theorem dX4_copyFrom_9 : decode cX4_copyFrom 9 = .ok (.aload_n 1, 1) := by decide +kernel
theorem dX4_copyFrom_10 : decode cX4_copyFrom 10 = .ok (.getfield 21, 3) := by decide +kernel
theorem dX4_copyFrom_13 : decode cX4_copyFrom 13 = .ok (.putfield 21, 3) := by decide +kernel
theorem dX4_copyFrom_16 : decode cX4_copyFrom 16 = .ok (.aload_n 0, 1) := by decide +kernel
theorem dX4_copyFrom_17 : decode cX4_copyFrom 17 = .ok (.aload_n 1, 1) := by decide +kernel
theorem dX4_copyFrom_18 : decode cX4_copyFrom 18 = .ok (.getfield 9, 3) := by decide +kernel
theorem dX4_copyFrom_21 : decode cX4_copyFrom 21 = .ok (.putfield 9, 3) := by decide +kernel
theorem dX4_copyFrom_24 : decode cX4_copyFrom 24 = .ok (.aload_n 0, 1) := by decide +kernel
theorem dX4_copyFrom_25 : decode cX4_copyFrom 25 = .ok (.aload_n 1, 1) := by decide +kernel
theorem dX4_copyFrom_26 : decode cX4_copyFrom 26 = .ok (.getfield 15, 3) := by decide +kernel
theorem dX4_copyFrom_29 : decode cX4_copyFrom 29 = .ok (.putfield 15, 3) := by decide +kernel
theorem dX4_copyFrom_32 : decode cX4_copyFrom 32 = .ok (.return_, 1) := by decide +kernel
theorem dX5_init_0 : decode cX5_init 0 = .ok (.aload_n 0, 1) := by decide +kernel
theorem dX5_init_1 : decode cX5_init 1 = .ok (.invokespecial 3, 3) := by decide +kernel
theorem dX5_init_4 : decode cX5_init 4 = .ok (.aload_n 0, 1) := by decide +kernel
theorem dX5_init_5 : decode cX5_init 5 = .ok (.iconst 0, 1) := by decide +kernel
theorem dX5_init_6 : decode cX5_init 6 = .ok (.putfield 9, 3) := by decide +kernel
theorem dX5_init_9 : decode cX5_init 9 = .ok (.aload_n 0, 1) := by decide +kernel
theorem dX5_init_10 : decode cX5_init 10 = .ok (.iconst 0, 1) := by decide +kernel
theorem dX5_init_11 : decode cX5_init 11 = .ok (.putfield 15, 3) := by decide +kernel
theorem dX5_init_14 : decode cX5_init 14 = .ok (.aload_n 0, 1) := by decide +kernel
theorem dX5_init_15 : decode cX5_init 15 = .ok (.bipush 24, 2) := by decide +kernel
theorem dX5_init_17 : decode cX5_init 17 = .ok (.newarray .int, 2) := by decide +kernel
theorem dX5_init_19 : decode cX5_init 19 = .ok (.putfield 19, 3) := by decide +kernel
theorem dX5_init_22 : decode cX5_init 22 = .ok (.aload_n 0, 1) := by decide +kernel
theorem dX5_init_23 : decode cX5_init 23 = .ok (.iconst 0, 1) := by decide +kernel
theorem dX5_init_24 : decode cX5_init 24 = .ok (.putfield 23, 3) := by decide +kernel
theorem dX5_init_27 : decode cX5_init 27 = .ok (.return_, 1) := by decide +kernel
theorem dX5_begin_0 : decode cX5_begin 0 = .ok (.aload_n 0, 1) := by decide +kernel
theorem dX5_begin_1 : decode cX5_begin 1 = .ok (.iconst 1, 1) := by decide +kernel
theorem dX5_begin_2 : decode cX5_begin 2 = .ok (.putfield 9, 3) := by decide +kernel
theorem dX5_begin_5 : decode cX5_begin 5 = .ok (.aload_n 0, 1) := by decide +kernel
theorem dX5_begin_6 : decode cX5_begin 6 = .ok (.iload_n 1, 1) := by decide +kernel
theorem dX5_begin_7 : decode cX5_begin 7 = .ok (.putfield 23, 3) := by decide +kernel
theorem dX5_begin_10 : decode cX5_begin 10 = .ok (.aload_n 0, 1) := by decide +kernel
theorem dX5_begin_11 : decode cX5_begin 11 = .ok (.iload_n 2, 1) := by decide +kernel
theorem dX5_begin_12 : decode cX5_begin 12 = .ok (.putfield 15, 3) := by decide +kernel
theorem dX5_begin_15 : decode cX5_begin 15 = .ok (.aload_n 0, 1) := by decide +kernel
theorem dX5_begin_16 : decode cX5_begin 16 = .ok (.getfield 19, 3) := by decide +kernel
theorem dX5_begin_19 : decode cX5_begin 19 = .ok (.iconst 0, 1) := by decide +kernel
theorem dX5_begin_20 : decode cX5_begin 20 = .ok (.invokestatic 26, 3) := by decide +kernel
theorem dX5_begin_23 : decode cX5_begin 23 = .ok (.return_, 1) := by decide +kernel
theorem dX5_refusal_0 : decode cX5_refusal 0 = .ok (.aload_n 0, 1) := by decide +kernel
theorem dX5_refusal_1 : decode cX5_refusal 1 = .ok (.getfield 9, 3) := by decide +kernel
theorem dX5_refusal_4 : decode cX5_refusal 4 = .ok (.ifCond .ne 6, 3) := by decide +kernel
theorem dX5_refusal_7 : decode cX5_refusal 7 = .ok (.bipush (-11), 2) := by decide +kernel
theorem dX5_refusal_9 : decode cX5_refusal 9 = .ok (.ireturn, 1) := by decide +kernel
theorem dX5_refusal_10 : decode cX5_refusal 10 = .ok (.iload_n 1, 1) := by decide +kernel
theorem dX5_refusal_11 : decode cX5_refusal 11 = .ok (.aload_n 0, 1) := by decide +kernel
theorem dX5_refusal_12 : decode cX5_refusal 12 = .ok (.getfield 23, 3) := by decide +kernel
theorem dX5_refusal_15 : decode cX5_refusal 15 = .ok (.if_icmp .eq 6, 3) := by decide +kernel
theorem dX5_refusal_18 : decode cX5_refusal 18 = .ok (.bipush (-12), 2) := by decide +kernel
theorem dX5_refusal_20 : decode cX5_refusal 20 = .ok (.ireturn, 1) := by decide +kernel
theorem dX5_refusal_21 : decode cX5_refusal 21 = .ok (.iload_n 2, 1) := by decide +kernel
theorem dX5_refusal_22 : decode cX5_refusal 22 = .ok (.ifCond .lt 13, 3) := by decide +kernel
theorem dX5_refusal_25 : decode cX5_refusal 25 = .ok (.iload_n 2, 1) := by decide +kernel
theorem dX5_refusal_26 : decode cX5_refusal 26 = .ok (.aload_n 0, 1) := by decide +kernel
theorem dX5_refusal_27 : decode cX5_refusal 27 = .ok (.getfield 15, 3) := by decide +kernel
theorem dX5_refusal_30 : decode cX5_refusal 30 = .ok (.iload_n 3, 1) := by decide +kernel
theorem dX5_refusal_31 : decode cX5_refusal 31 = .ok (.isub, 1) := by decide +kernel
theorem dX5_refusal_32 : decode cX5_refusal 32 = .ok (.if_icmp .le 8, 3) := by decide +kernel
theorem dX5_refusal_35 : decode cX5_refusal 35 = .ok (.bipush (-13), 2) := by decide +kernel
theorem dX5_refusal_37 : decode cX5_refusal 37 = .ok (.goto 4, 3) := by decide +kernel
theorem dX5_refusal_40 : decode cX5_refusal 40 = .ok (.iconst 0, 1) := by decide +kernel
theorem dX5_refusal_41 : decode cX5_refusal 41 = .ok (.ireturn, 1) := by decide +kernel
theorem dX5_write_0 : decode cX5_write 0 = .ok (.aload_n 0, 1) := by decide +kernel
theorem dX5_write_1 : decode cX5_write 1 = .ok (.getfield 19, 3) := by decide +kernel
theorem dX5_write_4 : decode cX5_write 4 = .ok (.iload_n 1, 1) := by decide +kernel
theorem dX5_write_5 : decode cX5_write 5 = .ok (.aload_n 0, 1) := by decide +kernel
theorem dX5_write_6 : decode cX5_write 6 = .ok (.getfield 23, 3) := by decide +kernel
theorem dX5_write_9 : decode cX5_write 9 = .ok (.ifCond .ne 8, 3) := by decide +kernel
theorem dX5_write_12 : decode cX5_write 12 = .ok (.iload_n 2, 1) := by decide +kernel
theorem dX5_write_13 : decode cX5_write 13 = .ok (.i2b, 1) := by decide +kernel
theorem dX5_write_14 : decode cX5_write 14 = .ok (.goto 17, 3) := by decide +kernel
theorem dX5_write_17 : decode cX5_write 17 = .ok (.aload_n 0, 1) := by decide +kernel
theorem dX5_write_18 : decode cX5_write 18 = .ok (.getfield 23, 3) := by decide +kernel
theorem dX5_write_21 : decode cX5_write 21 = .ok (.iconst 1, 1) := by decide +kernel
theorem dX5_write_22 : decode cX5_write 22 = .ok (.if_icmp .ne 8, 3) := by decide +kernel
theorem dX5_write_25 : decode cX5_write 25 = .ok (.iload_n 2, 1) := by decide +kernel
theorem dX5_write_26 : decode cX5_write 26 = .ok (.i2s, 1) := by decide +kernel
theorem dX5_write_27 : decode cX5_write 27 = .ok (.goto 4, 3) := by decide +kernel
theorem dX5_write_30 : decode cX5_write 30 = .ok (.iload_n 2, 1) := by decide +kernel
theorem dX5_write_31 : decode cX5_write 31 = .ok (.iastore, 1) := by decide +kernel
theorem dX5_write_32 : decode cX5_write 32 = .ok (.return_, 1) := by decide +kernel
theorem dX6_init_0 : decode cX6_init 0 = .ok (.aload_n 0, 1) := by decide +kernel
theorem dX6_init_1 : decode cX6_init 1 = .ok (.invokespecial 3, 3) := by decide +kernel
theorem dX6_init_4 : decode cX6_init 4 = .ok (.aload_n 0, 1) := by decide +kernel
theorem dX6_init_5 : decode cX6_init 5 = .ok (.bipush 40, 2) := by decide +kernel
theorem dX6_init_7 : decode cX6_init 7 = .ok (.newarray .int, 2) := by decide +kernel
theorem dX6_init_9 : decode cX6_init 9 = .ok (.putfield 9, 3) := by decide +kernel
theorem dX6_init_12 : decode cX6_init 12 = .ok (.aload_n 0, 1) := by decide +kernel
theorem dX6_init_13 : decode cX6_init 13 = .ok (.iconst 0, 1) := by decide +kernel
theorem dX6_init_14 : decode cX6_init 14 = .ok (.putfield 15, 3) := by decide +kernel
theorem dX6_init_17 : decode cX6_init 17 = .ok (.return_, 1) := by decide +kernel
theorem dX6_append_0 : decode cX6_append 0 = .ok (.aload_n 0, 1) := by decide +kernel
theorem dX6_append_1 : decode cX6_append 1 = .ok (.getfield 15, 3) := by decide +kernel
theorem dX6_append_4 : decode cX6_append 4 = .ok (.bipush 40, 2) := by decide +kernel
theorem dX6_append_6 : decode cX6_append 6 = .ok (.if_icmp .ge 23, 3) := by decide +kernel
theorem dX6_append_9 : decode cX6_append 9 = .ok (.aload_n 0, 1) := by decide +kernel
theorem dX6_append_10 : decode cX6_append 10 = .ok (.getfield 9, 3) := by decide +kernel
theorem dX6_append_13 : decode cX6_append 13 = .ok (.aload_n 0, 1) := by decide +kernel
theorem dX6_append_14 : decode cX6_append 14 = .ok (.getfield 15, 3) := by decide +kernel
theorem dX6_append_17 : decode cX6_append 17 = .ok (.iload_n 1, 1) := by decide +kernel
theorem dX6_append_18 : decode cX6_append 18 = .ok (.iastore, 1) := by decide +kernel
theorem dX6_append_19 : decode cX6_append 19 = .ok (.aload_n 0, 1) := by decide +kernel
theorem dX6_append_20 : decode cX6_append 20 = .ok (.dup, 1) := by decide +kernel
theorem dX6_append_21 : decode cX6_append 21 = .ok (.getfield 15, 3) := by decide +kernel
theorem dX6_append_24 : decode cX6_append 24 = .ok (.iconst 1, 1) := by decide +kernel
theorem dX6_append_25 : decode cX6_append 25 = .ok (.iadd, 1) := by decide +kernel
theorem dX6_append_26 : decode cX6_append 26 = .ok (.putfield 15, 3) := by decide +kernel
theorem dX6_append_29 : decode cX6_append 29 = .ok (.return_, 1) := by decide +kernel
theorem dX6_fault_0 : decode cX6_fault 0 = .ok (.iconst 0, 1) := by decide +kernel
theorem dX6_fault_1 : decode cX6_fault 1 = .ok (.istore_n 1, 1) := by decide +kernel
theorem dX6_fault_2 : decode cX6_fault 2 = .ok (.iconst 0, 1) := by decide +kernel
theorem dX6_fault_3 : decode cX6_fault 3 = .ok (.istore_n 2, 1) := by decide +kernel
theorem dX6_fault_4 : decode cX6_fault 4 = .ok (.iload_n 2, 1) := by decide +kernel
theorem dX6_fault_5 : decode cX6_fault 5 = .ok (.aload_n 0, 1) := by decide +kernel
theorem dX6_fault_6 : decode cX6_fault 6 = .ok (.getfield 15, 3) := by decide +kernel
theorem dX6_fault_9 : decode cX6_fault 9 = .ok (.if_icmp .ge 53, 3) := by decide +kernel
theorem dX6_fault_12 : decode cX6_fault 12 = .ok (.aload_n 0, 1) := by decide +kernel
theorem dX6_fault_13 : decode cX6_fault 13 = .ok (.getfield 9, 3) := by decide +kernel
theorem dX6_fault_16 : decode cX6_fault 16 = .ok (.iload_n 2, 1) := by decide +kernel
theorem dX6_fault_17 : decode cX6_fault 17 = .ok (.iaload, 1) := by decide +kernel
theorem dX6_fault_18 : decode cX6_fault 18 = .ok (.istore_n 3, 1) := by decide +kernel
theorem dX6_fault_19 : decode cX6_fault 19 = .ok (.iload_n 3, 1) := by decide +kernel
theorem dX6_fault_20 : decode cX6_fault 20 = .ok (.bipush 32, 2) := by decide +kernel
theorem dX6_fault_22 : decode cX6_fault 22 = .ok (.if_icmp .eq 34, 3) := by decide +kernel
theorem dX6_fault_25 : decode cX6_fault 25 = .ok (.ldc 19, 2) := by decide +kernel
theorem dX6_fault_27 : decode cX6_fault 27 = .ok (.iload_n 3, 1) := by decide +kernel
theorem dX6_fault_28 : decode cX6_fault 28 = .ok (.i2c, 1) := by decide +kernel
theorem dX6_fault_29 : decode cX6_fault 29 = .ok (.invokevirtual 21, 3) := by decide +kernel
theorem dX6_fault_32 : decode cX6_fault 32 = .ok (.ifCond .lt 12, 3) := by decide +kernel
theorem dX6_fault_35 : decode cX6_fault 35 = .ok (.iload_n 1, 1) := by decide +kernel
theorem dX6_fault_36 : decode cX6_fault 36 = .ok (.iload_n 3, 1) := by decide +kernel
theorem dX6_fault_37 : decode cX6_fault 37 = .ok (.invokestatic 27, 3) := by decide +kernel
theorem dX6_fault_40 : decode cX6_fault 40 = .ok (.iand, 1) := by decide +kernel
theorem dX6_fault_41 : decode cX6_fault 41 = .ok (.ifCond .eq 8, 3) := by decide +kernel
theorem dX6_fault_44 : decode cX6_fault 44 = .ok (.bipush (-20), 2) := by decide +kernel
theorem dX6_fault_46 : decode cX6_fault 46 = .ok (.iload_n 2, 1) := by decide +kernel
theorem dX6_fault_47 : decode cX6_fault 47 = .ok (.isub, 1) := by decide +kernel
theorem dX6_fault_48 : decode cX6_fault 48 = .ok (.ireturn, 1) := by decide +kernel
theorem dX6_fault_49 : decode cX6_fault 49 = .ok (.iload_n 1, 1) := by decide +kernel
theorem dX6_fault_50 : decode cX6_fault 50 = .ok (.iload_n 3, 1) := by decide +kernel
theorem dX6_fault_51 : decode cX6_fault 51 = .ok (.invokestatic 27, 3) := by decide +kernel
theorem dX6_fault_54 : decode cX6_fault 54 = .ok (.ior, 1) := by decide +kernel
theorem dX6_fault_55 : decode cX6_fault 55 = .ok (.istore_n 1, 1) := by decide +kernel
theorem dX6_fault_56 : decode cX6_fault 56 = .ok (.iinc 2 1, 3) := by decide +kernel
theorem dX6_fault_59 : decode cX6_fault 59 = .ok (.goto (-55), 3) := by decide +kernel
theorem dX6_fault_62 : decode cX6_fault 62 = .ok (.iload_n 1, 1) := by decide +kernel
theorem dX6_fault_63 : decode cX6_fault 63 = .ok (.ifCond .ne 13, 3) := by decide +kernel
theorem dX6_fault_66 : decode cX6_fault 66 = .ok (.bipush (-20), 2) := by decide +kernel
theorem dX6_fault_68 : decode cX6_fault 68 = .ok (.aload_n 0, 1) := by decide +kernel
theorem dX6_fault_69 : decode cX6_fault 69 = .ok (.getfield 15, 3) := by decide +kernel
theorem dX6_fault_72 : decode cX6_fault 72 = .ok (.isub, 1) := by decide +kernel
theorem dX6_fault_73 : decode cX6_fault 73 = .ok (.goto 4, 3) := by decide +kernel
theorem dX6_fault_76 : decode cX6_fault 76 = .ok (.iconst 0, 1) := by decide +kernel
theorem dX6_fault_77 : decode cX6_fault 77 = .ok (.ireturn, 1) := by decide +kernel
theorem dX7_init_0 : decode cX7_init 0 = .ok (.aload_n 0, 1) := by decide +kernel
theorem dX7_init_1 : decode cX7_init 1 = .ok (.invokespecial 3, 3) := by decide +kernel
theorem dX7_init_4 : decode cX7_init 4 = .ok (.aload_n 0, 1) := by decide +kernel
theorem dX7_init_5 : decode cX7_init 5 = .ok (.iconst 3, 1) := by decide +kernel
theorem dX7_init_6 : decode cX7_init 6 = .ok (.newarray .int, 2) := by decide +kernel
theorem dX7_init_8 : decode cX7_init 8 = .ok (.putfield 9, 3) := by decide +kernel
theorem dX7_init_11 : decode cX7_init 11 = .ok (.aload_n 0, 1) := by decide +kernel
theorem dX7_init_12 : decode cX7_init 12 = .ok (.lconst 0, 1) := by decide +kernel
theorem dX7_init_13 : decode cX7_init 13 = .ok (.putfield 15, 3) := by decide +kernel
theorem dX7_init_16 : decode cX7_init 16 = .ok (.aload_n 0, 1) := by decide +kernel
theorem dX7_init_17 : decode cX7_init 17 = .ok (.iconst 0, 1) := by decide +kernel
theorem dX7_init_18 : decode cX7_init 18 = .ok (.putfield 19, 3) := by decide +kernel
theorem dX7_init_21 : decode cX7_init 21 = .ok (.aload_n 0, 1) := by decide +kernel
theorem dX7_init_22 : decode cX7_init 22 = .ok (.iconst 3, 1) := by decide +kernel
theorem dX7_init_23 : decode cX7_init 23 = .ok (.newarray .int, 2) := by decide +kernel
theorem dX7_init_25 : decode cX7_init 25 = .ok (.putfield 23, 3) := by decide +kernel
theorem dX7_init_28 : decode cX7_init 28 = .ok (.aload_n 0, 1) := by decide +kernel
theorem dX7_init_29 : decode cX7_init 29 = .ok (.iconst 4, 1) := by decide +kernel
theorem dX7_init_30 : decode cX7_init 30 = .ok (.anewarray 26, 3) := by decide +kernel
theorem dX7_init_33 : decode cX7_init 33 = .ok (.putfield 28, 3) := by decide +kernel
theorem dX7_init_36 : decode cX7_init 36 = .ok (.aload_n 0, 1) := by decide +kernel
theorem dX7_init_37 : decode cX7_init 37 = .ok (.iconst 0, 1) := by decide +kernel
theorem dX7_init_38 : decode cX7_init 38 = .ok (.putfield 32, 3) := by decide +kernel
theorem dX7_init_41 : decode cX7_init 41 = .ok (.aload_n 0, 1) := by decide +kernel
theorem dX7_init_42 : decode cX7_init 42 = .ok (.iconst 0, 1) := by decide +kernel
theorem dX7_init_43 : decode cX7_init 43 = .ok (.putfield 36, 3) := by decide +kernel
theorem dX7_init_46 : decode cX7_init 46 = .ok (.iconst 0, 1) := by decide +kernel
theorem dX7_init_47 : decode cX7_init 47 = .ok (.istore_n 1, 1) := by decide +kernel
theorem dX7_init_48 : decode cX7_init 48 = .ok (.iload_n 1, 1) := by decide +kernel
theorem dX7_init_49 : decode cX7_init 49 = .ok (.iconst 3, 1) := by decide +kernel
theorem dX7_init_50 : decode cX7_init 50 = .ok (.if_icmp .gt 22, 3) := by decide +kernel
theorem dX7_init_53 : decode cX7_init 53 = .ok (.aload_n 0, 1) := by decide +kernel
theorem dX7_init_54 : decode cX7_init 54 = .ok (.getfield 28, 3) := by decide +kernel
theorem dX7_init_57 : decode cX7_init 57 = .ok (.iload_n 1, 1) := by decide +kernel
theorem dX7_init_58 : decode cX7_init 58 = .ok (.new 26, 3) := by decide +kernel
theorem dX7_init_61 : decode cX7_init 61 = .ok (.dup, 1) := by decide +kernel
theorem dX7_init_62 : decode cX7_init 62 = .ok (.invokespecial 39, 3) := by decide +kernel
theorem dX7_init_65 : decode cX7_init 65 = .ok (.aastore, 1) := by decide +kernel
theorem dX7_init_66 : decode cX7_init 66 = .ok (.iinc 1 1, 3) := by decide +kernel
theorem dX7_init_69 : decode cX7_init 69 = .ok (.goto (-21), 3) := by decide +kernel
theorem dX7_init_72 : decode cX7_init 72 = .ok (.return_, 1) := by decide +kernel
theorem dX7_find_0 : decode cX7_find 0 = .ok (.aload_n 0, 1) := by decide +kernel
theorem dX7_find_1 : decode cX7_find 1 = .ok (.iload_n 3, 1) := by decide +kernel
theorem dX7_find_2 : decode cX7_find 2 = .ok (.putfield 32, 3) := by decide +kernel
theorem dX7_find_5 : decode cX7_find 5 = .ok (.aload_n 0, 1) := by decide +kernel
theorem dX7_find_6 : decode cX7_find 6 = .ok (.iload 4, 2) := by decide +kernel
theorem dX7_find_8 : decode cX7_find 8 = .ok (.putfield 36, 3) := by decide +kernel
theorem dX7_find_11 : decode cX7_find 11 = .ok (.aload_n 0, 1) := by decide +kernel
theorem dX7_find_12 : decode cX7_find 12 = .ok (.iconst 0, 1) := by decide +kernel
theorem dX7_find_13 : decode cX7_find 13 = .ok (.putfield 19, 3) := by decide +kernel
theorem dX7_find_16 : decode cX7_find 16 = .ok (.aload_n 0, 1) := by decide +kernel
theorem dX7_find_17 : decode cX7_find 17 = .ok (.getfield 23, 3) := by decide +kernel
theorem dX7_find_20 : decode cX7_find 20 = .ok (.iconst (-1), 1) := by decide +kernel
theorem dX7_find_21 : decode cX7_find 21 = .ok (.invokestatic 40, 3) := by decide +kernel
theorem dX7_find_24 : decode cX7_find 24 = .ok (.iconst 0, 1) := by decide +kernel
theorem dX7_find_25 : decode cX7_find 25 = .ok (.istore 5, 2) := by decide +kernel
theorem dX7_find_27 : decode cX7_find 27 = .ok (.iload 5, 2) := by decide +kernel
theorem dX7_find_29 : decode cX7_find 29 = .ok (.iconst 3, 1) := by decide +kernel
theorem dX7_find_30 : decode cX7_find 30 = .ok (.if_icmp .gt 21, 3) := by decide +kernel
theorem dX7_find_33 : decode cX7_find 33 = .ok (.aload_n 0, 1) := by decide +kernel
theorem dX7_find_34 : decode cX7_find 34 = .ok (.getfield 28, 3) := by decide +kernel
theorem dX7_find_37 : decode cX7_find 37 = .ok (.iload 5, 2) := by decide +kernel
theorem dX7_find_39 : decode cX7_find 39 = .ok (.aaload, 1) := by decide +kernel
theorem dX7_find_40 : decode cX7_find 40 = .ok (.aload_n 1, 1) := by decide +kernel
theorem dX7_find_41 : decode cX7_find 41 = .ok (.iload_n 2, 1) := by decide +kernel
theorem dX7_find_42 : decode cX7_find 42 = .ok (.invokevirtual 46, 3) := by decide +kernel
theorem dX7_find_45 : decode cX7_find 45 = .ok (.iinc 5 1, 3) := by decide +kernel
theorem dX7_find_48 : decode cX7_find 48 = .ok (.goto (-21), 3) := by decide +kernel
theorem dX7_find_51 : decode cX7_find 51 = .ok (.aload_n 0, 1) := by decide +kernel
theorem dX7_find_52 : decode cX7_find 52 = .ok (.iconst 0, 1) := by decide +kernel
theorem dX7_find_53 : decode cX7_find 53 = .ok (.invokevirtual 50, 3) := by decide +kernel
theorem dX7_find_56 : decode cX7_find 56 = .ok (.return_, 1) := by decide +kernel
theorem dX7_tryFrom_0 : decode cX7_tryFrom 0 = .ok (.aload_n 0, 1) := by decide +kernel
theorem dX7_tryFrom_1 : decode cX7_tryFrom 1 = .ok (.getfield 28, 3) := by decide +kernel
theorem dX7_tryFrom_4 : decode cX7_tryFrom 4 = .ok (.iload_n 1, 1) := by decide +kernel
theorem dX7_tryFrom_5 : decode cX7_tryFrom 5 = .ok (.aaload, 1) := by decide +kernel
theorem dX7_tryFrom_6 : decode cX7_tryFrom 6 = .ok (.astore_n 2, 1) := by decide +kernel
theorem dX7_tryFrom_7 : decode cX7_tryFrom 7 = .ok (.aload_n 2, 1) := by decide +kernel
theorem dX7_tryFrom_8 : decode cX7_tryFrom 8 = .ok (.aload_n 0, 1) := by decide +kernel
theorem dX7_tryFrom_9 : decode cX7_tryFrom 9 = .ok (.getfield 36, 3) := by decide +kernel
theorem dX7_tryFrom_12 : decode cX7_tryFrom 12 = .ok (.invokevirtual 54, 3) := by decide +kernel
theorem dX7_tryFrom_15 : decode cX7_tryFrom 15 = .ok (.istore_n 3, 1) := by decide +kernel
theorem dX7_tryFrom_16 : decode cX7_tryFrom 16 = .ok (.iconst 0, 1) := by decide +kernel
theorem dX7_tryFrom_17 : decode cX7_tryFrom 17 = .ok (.istore 4, 2) := by decide +kernel
theorem dX7_tryFrom_19 : decode cX7_tryFrom 19 = .ok (.iload 4, 2) := by decide +kernel
theorem dX7_tryFrom_21 : decode cX7_tryFrom 21 = .ok (.bipush 12, 2) := by decide +kernel
theorem dX7_tryFrom_23 : decode cX7_tryFrom 23 = .ok (.if_icmp .ge 31, 3) := by decide +kernel
theorem dX7_tryFrom_26 : decode cX7_tryFrom 26 = .ok (.iload_n 3, 1) := by decide +kernel
theorem dX7_tryFrom_27 : decode cX7_tryFrom 27 = .ok (.aload_n 0, 1) := by decide +kernel
theorem dX7_tryFrom_28 : decode cX7_tryFrom 28 = .ok (.getfield 32, 3) := by decide +kernel
theorem dX7_tryFrom_31 : decode cX7_tryFrom 31 = .ok (.if_icmp .lt 23, 3) := by decide +kernel
theorem dX7_tryFrom_34 : decode cX7_tryFrom 34 = .ok (.aload_n 2, 1) := by decide +kernel
theorem dX7_tryFrom_35 : decode cX7_tryFrom 35 = .ok (.iload_n 3, 1) := by decide +kernel
theorem dX7_tryFrom_36 : decode cX7_tryFrom 36 = .ok (.invokevirtual 58, 3) := by decide +kernel
theorem dX7_tryFrom_39 : decode cX7_tryFrom 39 = .ok (.aload_n 2, 1) := by decide +kernel
theorem dX7_tryFrom_40 : decode cX7_tryFrom 40 = .ok (.aload_n 0, 1) := by decide +kernel
theorem dX7_tryFrom_41 : decode cX7_tryFrom 41 = .ok (.getfield 36, 3) := by decide +kernel
theorem dX7_tryFrom_44 : decode cX7_tryFrom 44 = .ok (.invokevirtual 54, 3) := by decide +kernel
theorem dX7_tryFrom_47 : decode cX7_tryFrom 47 = .ok (.istore_n 3, 1) := by decide +kernel
theorem dX7_tryFrom_48 : decode cX7_tryFrom 48 = .ok (.iinc 4 1, 3) := by decide +kernel
theorem dX7_tryFrom_51 : decode cX7_tryFrom 51 = .ok (.goto (-32), 3) := by decide +kernel
theorem dX7_tryFrom_54 : decode cX7_tryFrom 54 = .ok (.iload_n 3, 1) := by decide +kernel
theorem dX7_tryFrom_55 : decode cX7_tryFrom 55 = .ok (.ifCond .lt 21, 3) := by decide +kernel
theorem dX7_tryFrom_58 : decode cX7_tryFrom 58 = .ok (.iload_n 3, 1) := by decide +kernel
theorem dX7_tryFrom_59 : decode cX7_tryFrom 59 = .ok (.aload_n 0, 1) := by decide +kernel
theorem dX7_tryFrom_60 : decode cX7_tryFrom 60 = .ok (.getfield 32, 3) := by decide +kernel
theorem dX7_tryFrom_63 : decode cX7_tryFrom 63 = .ok (.if_icmp .ge 13, 3) := by decide +kernel
theorem dX7_tryFrom_66 : decode cX7_tryFrom 66 = .ok (.iload_n 3, 1) := by decide +kernel
theorem dX7_tryFrom_67 : decode cX7_tryFrom 67 = .ok (.iconst 3, 1) := by decide +kernel
theorem dX7_tryFrom_68 : decode cX7_tryFrom 68 = .ok (.if_icmp .ge 8, 3) := by decide +kernel
theorem dX7_tryFrom_71 : decode cX7_tryFrom 71 = .ok (.iload_n 1, 1) := by decide +kernel
theorem dX7_tryFrom_72 : decode cX7_tryFrom 72 = .ok (.iconst 3, 1) := by decide +kernel
theorem dX7_tryFrom_73 : decode cX7_tryFrom 73 = .ok (.if_icmp .lt 20, 3) := by decide +kernel
theorem dX7_tryFrom_76 : decode cX7_tryFrom 76 = .ok (.aload_n 2, 1) := by decide +kernel
theorem dX7_tryFrom_77 : decode cX7_tryFrom 77 = .ok (.aload_n 0, 1) := by decide +kernel
theorem dX7_tryFrom_78 : decode cX7_tryFrom 78 = .ok (.getfield 36, 3) := by decide +kernel
theorem dX7_tryFrom_81 : decode cX7_tryFrom 81 = .ok (.invokevirtual 61, 3) := by decide +kernel
theorem dX7_tryFrom_84 : decode cX7_tryFrom 84 = .ok (.aload_n 0, 1) := by decide +kernel
theorem dX7_tryFrom_85 : decode cX7_tryFrom 85 = .ok (.aload_n 2, 1) := by decide +kernel
theorem dX7_tryFrom_86 : decode cX7_tryFrom 86 = .ok (.invokevirtual 64, 3) := by decide +kernel
theorem dX7_tryFrom_89 : decode cX7_tryFrom 89 = .ok (.invokevirtual 68, 3) := by decide +kernel
theorem dX7_tryFrom_92 : decode cX7_tryFrom 92 = .ok (.return_, 1) := by decide +kernel
theorem dX7_tryFrom_93 : decode cX7_tryFrom 93 = .ok (.aload_n 2, 1) := by decide +kernel
theorem dX7_tryFrom_94 : decode cX7_tryFrom 94 = .ok (.aload_n 2, 1) := by decide +kernel
theorem dX7_tryFrom_95 : decode cX7_tryFrom 95 = .ok (.getfield 72, 3) := by decide +kernel
theorem dX7_tryFrom_98 : decode cX7_tryFrom 98 = .ok (.getfield 76, 3) := by decide +kernel
theorem dX7_tryFrom_101 : decode cX7_tryFrom 101 = .ok (.iload_n 3, 1) := by decide +kernel
theorem dX7_tryFrom_102 : decode cX7_tryFrom 102 = .ok (.aaload, 1) := by decide +kernel
theorem dX7_tryFrom_103 : decode cX7_tryFrom 103 = .ok (.getfield 82, 3) := by decide +kernel
theorem dX7_tryFrom_106 : decode cX7_tryFrom 106 = .ok (.invokevirtual 61, 3) := by decide +kernel
theorem dX7_tryFrom_109 : decode cX7_tryFrom 109 = .ok (.aload_n 0, 1) := by decide +kernel
theorem dX7_tryFrom_110 : decode cX7_tryFrom 110 = .ok (.getfield 28, 3) := by decide +kernel
theorem dX7_tryFrom_113 : decode cX7_tryFrom 113 = .ok (.iload_n 1, 1) := by decide +kernel
theorem dX7_tryFrom_114 : decode cX7_tryFrom 114 = .ok (.iconst 1, 1) := by decide +kernel
theorem dX7_tryFrom_115 : decode cX7_tryFrom 115 = .ok (.iadd, 1) := by decide +kernel
theorem dX7_tryFrom_116 : decode cX7_tryFrom 116 = .ok (.aaload, 1) := by decide +kernel
theorem dX7_tryFrom_117 : decode cX7_tryFrom 117 = .ok (.astore 4, 2) := by decide +kernel
theorem dX7_tryFrom_119 : decode cX7_tryFrom 119 = .ok (.iconst (-1), 1) := by decide +kernel
theorem dX7_tryFrom_120 : decode cX7_tryFrom 120 = .ok (.istore 5, 2) := by decide +kernel
theorem dX7_tryFrom_122 : decode cX7_tryFrom 122 = .ok (.iload 5, 2) := by decide +kernel
theorem dX7_tryFrom_124 : decode cX7_tryFrom 124 = .ok (.aload_n 2, 1) := by decide +kernel
theorem dX7_tryFrom_125 : decode cX7_tryFrom 125 = .ok (.getfield 72, 3) := by decide +kernel
theorem dX7_tryFrom_128 : decode cX7_tryFrom 128 = .ok (.getfield 85, 3) := by decide +kernel
theorem dX7_tryFrom_131 : decode cX7_tryFrom 131 = .ok (.if_icmp .ge 66, 3) := by decide +kernel
theorem dX7_tryFrom_134 : decode cX7_tryFrom 134 = .ok (.iload 5, 2) := by decide +kernel
theorem dX7_tryFrom_136 : decode cX7_tryFrom 136 = .ok (.iconst (-1), 1) := by decide +kernel
theorem dX7_tryFrom_137 : decode cX7_tryFrom 137 = .ok (.if_icmp .eq 12, 3) := by decide +kernel
theorem dX7_tryFrom_140 : decode cX7_tryFrom 140 = .ok (.aload_n 2, 1) := by decide +kernel
theorem dX7_tryFrom_141 : decode cX7_tryFrom 141 = .ok (.iload 5, 2) := by decide +kernel
theorem dX7_tryFrom_143 : decode cX7_tryFrom 143 = .ok (.invokevirtual 88, 3) := by decide +kernel
theorem dX7_tryFrom_146 : decode cX7_tryFrom 146 = .ok (.ifCond .eq 45, 3) := by decide +kernel
theorem dX7_tryFrom_149 : decode cX7_tryFrom 149 = .ok (.aload_n 0, 1) := by decide +kernel
theorem dX7_tryFrom_150 : decode cX7_tryFrom 150 = .ok (.getfield 23, 3) := by decide +kernel
theorem dX7_tryFrom_153 : decode cX7_tryFrom 153 = .ok (.iload_n 3, 1) := by decide +kernel
theorem dX7_tryFrom_154 : decode cX7_tryFrom 154 = .ok (.iload 5, 2) := by decide +kernel
theorem dX7_tryFrom_156 : decode cX7_tryFrom 156 = .ok (.iastore, 1) := by decide +kernel
theorem dX7_tryFrom_157 : decode cX7_tryFrom 157 = .ok (.aload 4, 2) := by decide +kernel
theorem dX7_tryFrom_159 : decode cX7_tryFrom 159 = .ok (.aload_n 2, 1) := by decide +kernel
theorem dX7_tryFrom_160 : decode cX7_tryFrom 160 = .ok (.invokevirtual 92, 3) := by decide +kernel
theorem dX7_tryFrom_163 : decode cX7_tryFrom 163 = .ok (.aload 4, 2) := by decide +kernel
theorem dX7_tryFrom_165 : decode cX7_tryFrom 165 = .ok (.getfield 72, 3) := by decide +kernel
theorem dX7_tryFrom_168 : decode cX7_tryFrom 168 = .ok (.getfield 76, 3) := by decide +kernel
theorem dX7_tryFrom_171 : decode cX7_tryFrom 171 = .ok (.iload_n 3, 1) := by decide +kernel
theorem dX7_tryFrom_172 : decode cX7_tryFrom 172 = .ok (.aaload, 1) := by decide +kernel
theorem dX7_tryFrom_173 : decode cX7_tryFrom 173 = .ok (.iload 5, 2) := by decide +kernel
theorem dX7_tryFrom_175 : decode cX7_tryFrom 175 = .ok (.putfield 96, 3) := by decide +kernel
theorem dX7_tryFrom_178 : decode cX7_tryFrom 178 = .ok (.aload 4, 2) := by decide +kernel
theorem dX7_tryFrom_180 : decode cX7_tryFrom 180 = .ok (.iload_n 3, 1) := by decide +kernel
theorem dX7_tryFrom_181 : decode cX7_tryFrom 181 = .ok (.invokevirtual 58, 3) := by decide +kernel
theorem dX7_tryFrom_184 : decode cX7_tryFrom 184 = .ok (.aload_n 0, 1) := by decide +kernel
theorem dX7_tryFrom_185 : decode cX7_tryFrom 185 = .ok (.iload_n 1, 1) := by decide +kernel
theorem dX7_tryFrom_186 : decode cX7_tryFrom 186 = .ok (.iconst 1, 1) := by decide +kernel
theorem dX7_tryFrom_187 : decode cX7_tryFrom 187 = .ok (.iadd, 1) := by decide +kernel
theorem dX7_tryFrom_188 : decode cX7_tryFrom 188 = .ok (.invokevirtual 50, 3) := by decide +kernel
theorem dX7_tryFrom_191 : decode cX7_tryFrom 191 = .ok (.iinc 5 1, 3) := by decide +kernel
theorem dX7_tryFrom_194 : decode cX7_tryFrom 194 = .ok (.goto (-72), 3) := by decide +kernel
theorem dX7_tryFrom_197 : decode cX7_tryFrom 197 = .ok (.return_, 1) := by decide +kernel
theorem dX7_weigh_0 : decode cX7_weigh 0 = .ok (.aload_n 0, 1) := by decide +kernel
theorem dX7_weigh_1 : decode cX7_weigh 1 = .ok (.getfield 19, 3) := by decide +kernel
theorem dX7_weigh_4 : decode cX7_weigh 4 = .ok (.ifCond .eq 28, 3) := by decide +kernel
theorem dX7_weigh_7 : decode cX7_weigh 7 = .ok (.lload_n 1, 1) := by decide +kernel
theorem dX7_weigh_8 : decode cX7_weigh 8 = .ok (.aload_n 0, 1) := by decide +kernel
theorem dX7_weigh_9 : decode cX7_weigh 9 = .ok (.getfield 15, 3) := by decide +kernel
theorem dX7_weigh_12 : decode cX7_weigh 12 = .ok (.lcmp, 1) := by decide +kernel
theorem dX7_weigh_13 : decode cX7_weigh 13 = .ok (.ifCond .lt 19, 3) := by decide +kernel
theorem dX7_weigh_16 : decode cX7_weigh 16 = .ok (.lload_n 1, 1) := by decide +kernel
theorem dX7_weigh_17 : decode cX7_weigh 17 = .ok (.aload_n 0, 1) := by decide +kernel
theorem dX7_weigh_18 : decode cX7_weigh 18 = .ok (.getfield 15, 3) := by decide +kernel
theorem dX7_weigh_21 : decode cX7_weigh 21 = .ok (.lcmp, 1) := by decide +kernel
theorem dX7_weigh_22 : decode cX7_weigh 22 = .ok (.ifCond .ne 34, 3) := by decide +kernel
theorem dX7_weigh_25 : decode cX7_weigh 25 = .ok (.aload_n 0, 1) := by decide +kernel
theorem dX7_weigh_26 : decode cX7_weigh 26 = .ok (.invokevirtual 99, 3) := by decide +kernel
theorem dX7_weigh_29 : decode cX7_weigh 29 = .ok (.ifCond .eq 27, 3) := by decide +kernel
theorem dX7_weigh_32 : decode cX7_weigh 32 = .ok (.aload_n 0, 1) := by decide +kernel
theorem dX7_weigh_33 : decode cX7_weigh 33 = .ok (.iconst 1, 1) := by decide +kernel
theorem dX7_weigh_34 : decode cX7_weigh 34 = .ok (.putfield 19, 3) := by decide +kernel
theorem dX7_weigh_37 : decode cX7_weigh 37 = .ok (.aload_n 0, 1) := by decide +kernel
theorem dX7_weigh_38 : decode cX7_weigh 38 = .ok (.lload_n 1, 1) := by decide +kernel
theorem dX7_weigh_39 : decode cX7_weigh 39 = .ok (.putfield 15, 3) := by decide +kernel
theorem dX7_weigh_42 : decode cX7_weigh 42 = .ok (.aload_n 0, 1) := by decide +kernel
theorem dX7_weigh_43 : decode cX7_weigh 43 = .ok (.getfield 23, 3) := by decide +kernel
theorem dX7_weigh_46 : decode cX7_weigh 46 = .ok (.iconst 0, 1) := by decide +kernel
theorem dX7_weigh_47 : decode cX7_weigh 47 = .ok (.aload_n 0, 1) := by decide +kernel
theorem dX7_weigh_48 : decode cX7_weigh 48 = .ok (.getfield 9, 3) := by decide +kernel
theorem dX7_weigh_51 : decode cX7_weigh 51 = .ok (.iconst 0, 1) := by decide +kernel
theorem dX7_weigh_52 : decode cX7_weigh 52 = .ok (.iconst 3, 1) := by decide +kernel
theorem dX7_weigh_53 : decode cX7_weigh 53 = .ok (.invokestatic 103, 3) := by decide +kernel
theorem dX7_weigh_56 : decode cX7_weigh 56 = .ok (.return_, 1) := by decide +kernel
theorem dX7_isTriedAhead_0 : decode cX7_isTriedAhead 0 = .ok (.iconst 0, 1) := by decide +kernel
theorem dX7_isTriedAhead_1 : decode cX7_isTriedAhead 1 = .ok (.istore_n 1, 1) := by decide +kernel
theorem dX7_isTriedAhead_2 : decode cX7_isTriedAhead 2 = .ok (.iload_n 1, 1) := by decide +kernel
theorem dX7_isTriedAhead_3 : decode cX7_isTriedAhead 3 = .ok (.aload_n 0, 1) := by decide +kernel
theorem dX7_isTriedAhead_4 : decode cX7_isTriedAhead 4 = .ok (.getfield 32, 3) := by decide +kernel
theorem dX7_isTriedAhead_7 : decode cX7_isTriedAhead 7 = .ok (.if_icmp .ge 45, 3) := by decide +kernel
theorem dX7_isTriedAhead_10 : decode cX7_isTriedAhead 10 = .ok (.aload_n 0, 1) := by decide +kernel
theorem dX7_isTriedAhead_11 : decode cX7_isTriedAhead 11 = .ok (.getfield 23, 3) := by decide +kernel
theorem dX7_isTriedAhead_14 : decode cX7_isTriedAhead 14 = .ok (.iload_n 1, 1) := by decide +kernel
theorem dX7_isTriedAhead_15 : decode cX7_isTriedAhead 15 = .ok (.iaload, 1) := by decide +kernel
theorem dX7_isTriedAhead_16 : decode cX7_isTriedAhead 16 = .ok (.aload_n 0, 1) := by decide +kernel
theorem dX7_isTriedAhead_17 : decode cX7_isTriedAhead 17 = .ok (.getfield 9, 3) := by decide +kernel
theorem dX7_isTriedAhead_20 : decode cX7_isTriedAhead 20 = .ok (.iload_n 1, 1) := by decide +kernel
theorem dX7_isTriedAhead_21 : decode cX7_isTriedAhead 21 = .ok (.iaload, 1) := by decide +kernel
theorem dX7_isTriedAhead_22 : decode cX7_isTriedAhead 22 = .ok (.if_icmp .eq 24, 3) := by decide +kernel
theorem dX7_isTriedAhead_25 : decode cX7_isTriedAhead 25 = .ok (.aload_n 0, 1) := by decide +kernel
theorem dX7_isTriedAhead_26 : decode cX7_isTriedAhead 26 = .ok (.getfield 23, 3) := by decide +kernel
theorem dX7_isTriedAhead_29 : decode cX7_isTriedAhead 29 = .ok (.iload_n 1, 1) := by decide +kernel
theorem dX7_isTriedAhead_30 : decode cX7_isTriedAhead 30 = .ok (.iaload, 1) := by decide +kernel
theorem dX7_isTriedAhead_31 : decode cX7_isTriedAhead 31 = .ok (.aload_n 0, 1) := by decide +kernel
theorem dX7_isTriedAhead_32 : decode cX7_isTriedAhead 32 = .ok (.getfield 9, 3) := by decide +kernel
theorem dX7_isTriedAhead_35 : decode cX7_isTriedAhead 35 = .ok (.iload_n 1, 1) := by decide +kernel
theorem dX7_isTriedAhead_36 : decode cX7_isTriedAhead 36 = .ok (.iaload, 1) := by decide +kernel
theorem dX7_isTriedAhead_37 : decode cX7_isTriedAhead 37 = .ok (.if_icmp .ge 7, 3) := by decide +kernel
theorem dX7_isTriedAhead_40 : decode cX7_isTriedAhead 40 = .ok (.iconst 1, 1) := by decide +kernel
theorem dX7_isTriedAhead_41 : decode cX7_isTriedAhead 41 = .ok (.goto 4, 3) := by decide +kernel
theorem dX7_isTriedAhead_44 : decode cX7_isTriedAhead 44 = .ok (.iconst 0, 1) := by decide +kernel
theorem dX7_isTriedAhead_45 : decode cX7_isTriedAhead 45 = .ok (.ireturn, 1) := by decide +kernel
theorem dX7_isTriedAhead_46 : decode cX7_isTriedAhead 46 = .ok (.iinc 1 1, 3) := by decide +kernel
theorem dX7_isTriedAhead_49 : decode cX7_isTriedAhead 49 = .ok (.goto (-47), 3) := by decide +kernel
theorem dX7_isTriedAhead_52 : decode cX7_isTriedAhead 52 = .ok (.iconst 0, 1) := by decide +kernel
theorem dX7_isTriedAhead_53 : decode cX7_isTriedAhead 53 = .ok (.ireturn, 1) := by decide +kernel
theorem dX8_init_0 : decode cX8_init 0 = .ok (.aload_n 0, 1) := by decide +kernel
theorem dX8_init_1 : decode cX8_init 1 = .ok (.invokespecial 1, 3) := by decide +kernel
theorem dX8_init_4 : decode cX8_init 4 = .ok (.aload_n 0, 1) := by decide +kernel
theorem dX8_init_5 : decode cX8_init 5 = .ok (.new 7, 3) := by decide +kernel
theorem dX8_init_8 : decode cX8_init 8 = .ok (.dup, 1) := by decide +kernel
theorem dX8_init_9 : decode cX8_init 9 = .ok (.invokespecial 9, 3) := by decide +kernel
theorem dX8_init_12 : decode cX8_init 12 = .ok (.putfield 10, 3) := by decide +kernel
theorem dX8_init_15 : decode cX8_init 15 = .ok (.aload_n 0, 1) := by decide +kernel
theorem dX8_init_16 : decode cX8_init 16 = .ok (.new 7, 3) := by decide +kernel
theorem dX8_init_19 : decode cX8_init 19 = .ok (.dup, 1) := by decide +kernel
theorem dX8_init_20 : decode cX8_init 20 = .ok (.invokespecial 9, 3) := by decide +kernel
theorem dX8_init_23 : decode cX8_init 23 = .ok (.putfield 16, 3) := by decide +kernel
theorem dX8_init_26 : decode cX8_init 26 = .ok (.aload_n 0, 1) := by decide +kernel
theorem dX8_init_27 : decode cX8_init 27 = .ok (.iconst 0, 1) := by decide +kernel
theorem dX8_init_28 : decode cX8_init 28 = .ok (.putfield 19, 3) := by decide +kernel
theorem dX8_init_31 : decode cX8_init 31 = .ok (.aload_n 0, 1) := by decide +kernel
theorem dX8_init_32 : decode cX8_init 32 = .ok (.new 23, 3) := by decide +kernel
theorem dX8_init_35 : decode cX8_init 35 = .ok (.dup, 1) := by decide +kernel
theorem dX8_init_36 : decode cX8_init 36 = .ok (.invokespecial 25, 3) := by decide +kernel
theorem dX8_init_39 : decode cX8_init 39 = .ok (.putfield 26, 3) := by decide +kernel
theorem dX8_init_42 : decode cX8_init 42 = .ok (.aload_n 0, 1) := by decide +kernel
theorem dX8_init_43 : decode cX8_init 43 = .ok (.new 23, 3) := by decide +kernel
theorem dX8_init_46 : decode cX8_init 46 = .ok (.dup, 1) := by decide +kernel
theorem dX8_init_47 : decode cX8_init 47 = .ok (.invokespecial 25, 3) := by decide +kernel
theorem dX8_init_50 : decode cX8_init 50 = .ok (.putfield 30, 3) := by decide +kernel
theorem dX8_init_53 : decode cX8_init 53 = .ok (.aload_n 0, 1) := by decide +kernel
theorem dX8_init_54 : decode cX8_init 54 = .ok (.new 33, 3) := by decide +kernel
theorem dX8_init_57 : decode cX8_init 57 = .ok (.dup, 1) := by decide +kernel
theorem dX8_init_58 : decode cX8_init 58 = .ok (.invokespecial 35, 3) := by decide +kernel
theorem dX8_init_61 : decode cX8_init 61 = .ok (.putfield 36, 3) := by decide +kernel
theorem dX8_init_64 : decode cX8_init 64 = .ok (.aload_n 0, 1) := by decide +kernel
theorem dX8_init_65 : decode cX8_init 65 = .ok (.new 40, 3) := by decide +kernel
theorem dX8_init_68 : decode cX8_init 68 = .ok (.dup, 1) := by decide +kernel
theorem dX8_init_69 : decode cX8_init 69 = .ok (.invokespecial 42, 3) := by decide +kernel
theorem dX8_init_72 : decode cX8_init 72 = .ok (.putfield 43, 3) := by decide +kernel
theorem dX8_init_75 : decode cX8_init 75 = .ok (.aload_n 0, 1) := by decide +kernel
theorem dX8_init_76 : decode cX8_init 76 = .ok (.iconst 4, 1) := by decide +kernel
theorem dX8_init_77 : decode cX8_init 77 = .ok (.anewarray 47, 3) := by decide +kernel
theorem dX8_init_80 : decode cX8_init 80 = .ok (.putfield 49, 3) := by decide +kernel
theorem dX8_init_83 : decode cX8_init 83 = .ok (.iconst 0, 1) := by decide +kernel
theorem dX8_init_84 : decode cX8_init 84 = .ok (.istore_n 1, 1) := by decide +kernel
theorem dX8_init_85 : decode cX8_init 85 = .ok (.iload_n 1, 1) := by decide +kernel
theorem dX8_init_86 : decode cX8_init 86 = .ok (.iconst 4, 1) := by decide +kernel
theorem dX8_init_87 : decode cX8_init 87 = .ok (.if_icmp .ge 22, 3) := by decide +kernel
theorem dX8_init_90 : decode cX8_init 90 = .ok (.aload_n 0, 1) := by decide +kernel
theorem dX8_init_91 : decode cX8_init 91 = .ok (.getfield 49, 3) := by decide +kernel
theorem dX8_init_94 : decode cX8_init 94 = .ok (.iload_n 1, 1) := by decide +kernel
theorem dX8_init_95 : decode cX8_init 95 = .ok (.new 47, 3) := by decide +kernel
theorem dX8_init_98 : decode cX8_init 98 = .ok (.dup, 1) := by decide +kernel
theorem dX8_init_99 : decode cX8_init 99 = .ok (.invokespecial 53, 3) := by decide +kernel
theorem dX8_init_102 : decode cX8_init 102 = .ok (.aastore, 1) := by decide +kernel
theorem dX8_init_103 : decode cX8_init 103 = .ok (.iinc 1 1, 3) := by decide +kernel
theorem dX8_init_106 : decode cX8_init 106 = .ok (.goto (-21), 3) := by decide +kernel
theorem dX8_init_109 : decode cX8_init 109 = .ok (.return_, 1) := by decide +kernel
theorem dX8_debt_0 : decode cX8_debt 0 = .ok (.iload_n 1, 1) := by decide +kernel
theorem dX8_debt_1 : decode cX8_debt 1 = .ok (.iconst 1, 1) := by decide +kernel
theorem dX8_debt_2 : decode cX8_debt 2 = .ok (.sipush 9999, 3) := by decide +kernel
theorem dX8_debt_5 : decode cX8_debt 5 = .ok (.invokestatic 54, 3) := by decide +kernel
theorem dX8_debt_8 : decode cX8_debt 8 = .ok (.ifCond .eq 28, 3) := by decide +kernel
theorem dX8_debt_11 : decode cX8_debt 11 = .ok (.iload_n 2, 1) := by decide +kernel
theorem dX8_debt_12 : decode cX8_debt 12 = .ok (.invokestatic 58, 3) := by decide +kernel
theorem dX8_debt_15 : decode cX8_debt 15 = .ok (.ifCond .eq 21, 3) := by decide +kernel
theorem dX8_debt_18 : decode cX8_debt 18 = .ok (.iload_n 3, 1) := by decide +kernel
theorem dX8_debt_19 : decode cX8_debt 19 = .ok (.invokestatic 58, 3) := by decide +kernel
theorem dX8_debt_22 : decode cX8_debt 22 = .ok (.ifCond .eq 14, 3) := by decide +kernel
theorem dX8_debt_25 : decode cX8_debt 25 = .ok (.iload 4, 2) := by decide +kernel
theorem dX8_debt_27 : decode cX8_debt 27 = .ok (.iconst 0, 1) := by decide +kernel
theorem dX8_debt_28 : decode cX8_debt 28 = .ok (.bipush 99, 2) := by decide +kernel
theorem dX8_debt_30 : decode cX8_debt 30 = .ok (.invokestatic 54, 3) := by decide +kernel
theorem dX8_debt_33 : decode cX8_debt 33 = .ok (.ifCond .ne 5, 3) := by decide +kernel
theorem dX8_debt_36 : decode cX8_debt 36 = .ok (.iconst (-1), 1) := by decide +kernel
theorem dX8_debt_37 : decode cX8_debt 37 = .ok (.ireturn, 1) := by decide +kernel
theorem dX8_debt_38 : decode cX8_debt 38 = .ok (.aload_n 0, 1) := by decide +kernel
theorem dX8_debt_39 : decode cX8_debt 39 = .ok (.getfield 10, 3) := by decide +kernel
theorem dX8_debt_42 : decode cX8_debt 42 = .ok (.getfield 62, 3) := by decide +kernel
theorem dX8_debt_45 : decode cX8_debt 45 = .ok (.bipush 8, 2) := by decide +kernel
theorem dX8_debt_47 : decode cX8_debt 47 = .ok (.if_icmp .lt 6, 3) := by decide +kernel
theorem dX8_debt_50 : decode cX8_debt 50 = .ok (.bipush (-3), 2) := by decide +kernel
theorem dX8_debt_52 : decode cX8_debt 52 = .ok (.ireturn, 1) := by decide +kernel
theorem dX8_debt_53 : decode cX8_debt 53 = .ok (.aload_n 0, 1) := by decide +kernel
theorem dX8_debt_54 : decode cX8_debt 54 = .ok (.getfield 10, 3) := by decide +kernel
theorem dX8_debt_57 : decode cX8_debt 57 = .ok (.getfield 66, 3) := by decide +kernel
theorem dX8_debt_60 : decode cX8_debt 60 = .ok (.aload_n 0, 1) := by decide +kernel
theorem dX8_debt_61 : decode cX8_debt 61 = .ok (.getfield 10, 3) := by decide +kernel
theorem dX8_debt_64 : decode cX8_debt 64 = .ok (.getfield 62, 3) := by decide +kernel
theorem dX8_debt_67 : decode cX8_debt 67 = .ok (.aaload, 1) := by decide +kernel
theorem dX8_debt_68 : decode cX8_debt 68 = .ok (.iload_n 1, 1) := by decide +kernel
theorem dX8_debt_69 : decode cX8_debt 69 = .ok (.iload_n 2, 1) := by decide +kernel
theorem dX8_debt_70 : decode cX8_debt 70 = .ok (.iload_n 3, 1) := by decide +kernel
theorem dX8_debt_71 : decode cX8_debt 71 = .ok (.iload 4, 2) := by decide +kernel
theorem dX8_debt_73 : decode cX8_debt 73 = .ok (.invokevirtual 70, 3) := by decide +kernel
theorem dX8_debt_76 : decode cX8_debt 76 = .ok (.aload_n 0, 1) := by decide +kernel
theorem dX8_debt_77 : decode cX8_debt 77 = .ok (.getfield 10, 3) := by decide +kernel
theorem dX8_debt_80 : decode cX8_debt 80 = .ok (.dup, 1) := by decide +kernel
theorem dX8_debt_81 : decode cX8_debt 81 = .ok (.getfield 62, 3) := by decide +kernel
theorem dX8_debt_84 : decode cX8_debt 84 = .ok (.iconst 1, 1) := by decide +kernel
theorem dX8_debt_85 : decode cX8_debt 85 = .ok (.iadd, 1) := by decide +kernel
theorem dX8_debt_86 : decode cX8_debt 86 = .ok (.putfield 62, 3) := by decide +kernel
theorem dX8_debt_89 : decode cX8_debt 89 = .ok (.aload_n 0, 1) := by decide +kernel
theorem dX8_debt_90 : decode cX8_debt 90 = .ok (.getfield 10, 3) := by decide +kernel
theorem dX8_debt_93 : decode cX8_debt 93 = .ok (.getfield 62, 3) := by decide +kernel
theorem dX8_debt_96 : decode cX8_debt 96 = .ok (.iconst 1, 1) := by decide +kernel
theorem dX8_debt_97 : decode cX8_debt 97 = .ok (.isub, 1) := by decide +kernel
theorem dX8_debt_98 : decode cX8_debt 98 = .ok (.ireturn, 1) := by decide +kernel
theorem dX8_set_0 : decode cX8_set 0 = .ok (.aload_n 0, 1) := by decide +kernel
theorem dX8_set_1 : decode cX8_set 1 = .ok (.iload_n 1, 1) := by decide +kernel
theorem dX8_set_2 : decode cX8_set 2 = .ok (.invokevirtual 76, 3) := by decide +kernel
theorem dX8_set_5 : decode cX8_set 5 = .ok (.ifCond .eq 29, 3) := by decide +kernel
theorem dX8_set_8 : decode cX8_set 8 = .ok (.iload_n 2, 1) := by decide +kernel
theorem dX8_set_9 : decode cX8_set 9 = .ok (.iconst 0, 1) := by decide +kernel
theorem dX8_set_10 : decode cX8_set 10 = .ok (.iconst 5, 1) := by decide +kernel
theorem dX8_set_11 : decode cX8_set 11 = .ok (.invokestatic 54, 3) := by decide +kernel
theorem dX8_set_14 : decode cX8_set 14 = .ok (.ifCond .eq 20, 3) := by decide +kernel
theorem dX8_set_17 : decode cX8_set 17 = .ok (.iload_n 3, 1) := by decide +kernel
theorem dX8_set_18 : decode cX8_set 18 = .ok (.getstatic 79, 3) := by decide +kernel
theorem dX8_set_21 : decode cX8_set 21 = .ok (.iload_n 2, 1) := by decide +kernel
theorem dX8_set_22 : decode cX8_set 22 = .ok (.iaload, 1) := by decide +kernel
theorem dX8_set_23 : decode cX8_set 23 = .ok (.getstatic 83, 3) := by decide +kernel
theorem dX8_set_26 : decode cX8_set 26 = .ok (.iload_n 2, 1) := by decide +kernel
theorem dX8_set_27 : decode cX8_set 27 = .ok (.iaload, 1) := by decide +kernel
theorem dX8_set_28 : decode cX8_set 28 = .ok (.invokestatic 54, 3) := by decide +kernel
theorem dX8_set_31 : decode cX8_set 31 = .ok (.ifCond .ne 5, 3) := by decide +kernel
theorem dX8_set_34 : decode cX8_set 34 = .ok (.iconst (-1), 1) := by decide +kernel
theorem dX8_set_35 : decode cX8_set 35 = .ok (.ireturn, 1) := by decide +kernel
theorem dX8_set_36 : decode cX8_set 36 = .ok (.aload_n 0, 1) := by decide +kernel
theorem dX8_set_37 : decode cX8_set 37 = .ok (.getfield 10, 3) := by decide +kernel
theorem dX8_set_40 : decode cX8_set 40 = .ok (.getfield 66, 3) := by decide +kernel
theorem dX8_set_43 : decode cX8_set 43 = .ok (.iload_n 1, 1) := by decide +kernel
theorem dX8_set_44 : decode cX8_set 44 = .ok (.aaload, 1) := by decide +kernel
theorem dX8_set_45 : decode cX8_set 45 = .ok (.getfield 86, 3) := by decide +kernel
theorem dX8_set_48 : decode cX8_set 48 = .ok (.astore 4, 2) := by decide +kernel
theorem dX8_set_50 : decode cX8_set 50 = .ok (.aload 4, 2) := by decide +kernel
theorem dX8_set_52 : decode cX8_set 52 = .ok (.iload_n 2, 1) := by decide +kernel
theorem dX8_set_53 : decode cX8_set 53 = .ok (.iaload, 1) := by decide +kernel
theorem dX8_set_54 : decode cX8_set 54 = .ok (.istore 5, 2) := by decide +kernel
theorem dX8_set_56 : decode cX8_set 56 = .ok (.aload 4, 2) := by decide +kernel
theorem dX8_set_58 : decode cX8_set 58 = .ok (.iload_n 2, 1) := by decide +kernel
theorem dX8_set_59 : decode cX8_set 59 = .ok (.iload_n 3, 1) := by decide +kernel
theorem dX8_set_60 : decode cX8_set 60 = .ok (.iastore, 1) := by decide +kernel
theorem dX8_set_61 : decode cX8_set 61 = .ok (.iload 5, 2) := by decide +kernel
theorem dX8_set_63 : decode cX8_set 63 = .ok (.ireturn, 1) := by decide +kernel
theorem dX8_pay_0 : decode cX8_pay 0 = .ok (.iload_n 1, 1) := by decide +kernel
theorem dX8_pay_1 : decode cX8_pay 1 = .ok (.iload_n 2, 1) := by decide +kernel
theorem dX8_pay_2 : decode cX8_pay 2 = .ok (.invokestatic 89, 3) := by decide +kernel
theorem dX8_pay_5 : decode cX8_pay 5 = .ok (.ifCond .ne 5, 3) := by decide +kernel
theorem dX8_pay_8 : decode cX8_pay 8 = .ok (.iconst (-1), 1) := by decide +kernel
theorem dX8_pay_9 : decode cX8_pay 9 = .ok (.ireturn, 1) := by decide +kernel
theorem dX8_pay_10 : decode cX8_pay 10 = .ok (.aload_n 0, 1) := by decide +kernel
theorem dX8_pay_11 : decode cX8_pay 11 = .ok (.getfield 10, 3) := by decide +kernel
theorem dX8_pay_14 : decode cX8_pay 14 = .ok (.getfield 93, 3) := by decide +kernel
theorem dX8_pay_17 : decode cX8_pay 17 = .ok (.bipush 12, 2) := by decide +kernel
end
section
theorem dX8_pay_19 : decode cX8_pay 19 = .ok (.if_icmp .lt 6, 3) := by decide +kernel
theorem dX8_pay_22 : decode cX8_pay 22 = .ok (.bipush (-3), 2) := by decide +kernel
theorem dX8_pay_24 : decode cX8_pay 24 = .ok (.ireturn, 1) := by decide +kernel
theorem dX8_pay_25 : decode cX8_pay 25 = .ok (.aload_n 0, 1) := by decide +kernel
theorem dX8_pay_26 : decode cX8_pay 26 = .ok (.getfield 10, 3) := by decide +kernel
theorem dX8_pay_29 : decode cX8_pay 29 = .ok (.iload_n 1, 1) := by decide +kernel
theorem dX8_pay_30 : decode cX8_pay 30 = .ok (.iload_n 2, 1) := by decide +kernel
theorem dX8_pay_31 : decode cX8_pay 31 = .ok (.invokevirtual 96, 3) := by decide +kernel
theorem dX8_pay_34 : decode cX8_pay 34 = .ok (.aload_n 0, 1) := by decide +kernel
theorem dX8_pay_35 : decode cX8_pay 35 = .ok (.getfield 10, 3) := by decide +kernel
theorem dX8_pay_38 : decode cX8_pay 38 = .ok (.getfield 93, 3) := by decide +kernel
theorem dX8_pay_41 : decode cX8_pay 41 = .ok (.iconst 1, 1) := by decide +kernel
theorem dX8_pay_42 : decode cX8_pay 42 = .ok (.isub, 1) := by decide +kernel
theorem dX8_pay_43 : decode cX8_pay 43 = .ok (.ireturn, 1) := by decide +kernel
theorem dX8_pays_0 : decode cX8_pays 0 = .ok (.iload_n 1, 1) := by decide +kernel
theorem dX8_pays_1 : decode cX8_pays 1 = .ok (.invokestatic 100, 3) := by decide +kernel
theorem dX8_pays_4 : decode cX8_pays 4 = .ok (.ifCond .eq 21, 3) := by decide +kernel
theorem dX8_pays_7 : decode cX8_pays 7 = .ok (.iload_n 2, 1) := by decide +kernel
theorem dX8_pays_8 : decode cX8_pays 8 = .ok (.invokestatic 103, 3) := by decide +kernel
theorem dX8_pays_11 : decode cX8_pays 11 = .ok (.ifCond .eq 14, 3) := by decide +kernel
theorem dX8_pays_14 : decode cX8_pays 14 = .ok (.iload 4, 2) := by decide +kernel
theorem dX8_pays_16 : decode cX8_pays 16 = .ok (.iconst 0, 1) := by decide +kernel
theorem dX8_pays_17 : decode cX8_pays 17 = .ok (.bipush 12, 2) := by decide +kernel
theorem dX8_pays_19 : decode cX8_pays 19 = .ok (.invokestatic 54, 3) := by decide +kernel
theorem dX8_pays_22 : decode cX8_pays 22 = .ok (.ifCond .ne 5, 3) := by decide +kernel
theorem dX8_pays_25 : decode cX8_pays 25 = .ok (.iconst (-1), 1) := by decide +kernel
theorem dX8_pays_26 : decode cX8_pays 26 = .ok (.ireturn, 1) := by decide +kernel
theorem dX8_pays_27 : decode cX8_pays 27 = .ok (.aload_n 0, 1) := by decide +kernel
theorem dX8_pays_28 : decode cX8_pays 28 = .ok (.getfield 49, 3) := by decide +kernel
theorem dX8_pays_31 : decode cX8_pays 31 = .ok (.iload_n 1, 1) := by decide +kernel
theorem dX8_pays_32 : decode cX8_pays 32 = .ok (.aaload, 1) := by decide +kernel
theorem dX8_pays_33 : decode cX8_pays 33 = .ok (.iload_n 2, 1) := by decide +kernel
theorem dX8_pays_34 : decode cX8_pays 34 = .ok (.iload_n 3, 1) := by decide +kernel
theorem dX8_pays_35 : decode cX8_pays 35 = .ok (.iconst 2, 1) := by decide +kernel
theorem dX8_pays_36 : decode cX8_pays 36 = .ok (.iload 4, 2) := by decide +kernel
theorem dX8_pays_38 : decode cX8_pays 38 = .ok (.imul, 1) := by decide +kernel
theorem dX8_pays_39 : decode cX8_pays 39 = .ok (.invokevirtual 106, 3) := by decide +kernel
theorem dX8_pays_42 : decode cX8_pays 42 = .ok (.istore 5, 2) := by decide +kernel
theorem dX8_pays_44 : decode cX8_pays 44 = .ok (.iload 5, 2) := by decide +kernel
theorem dX8_pays_46 : decode cX8_pays 46 = .ok (.ifCond .eq 6, 3) := by decide +kernel
theorem dX8_pays_49 : decode cX8_pays 49 = .ok (.iload 5, 2) := by decide +kernel
theorem dX8_pays_51 : decode cX8_pays 51 = .ok (.ireturn, 1) := by decide +kernel
theorem dX8_pays_52 : decode cX8_pays 52 = .ok (.aload_n 0, 1) := by decide +kernel
theorem dX8_pays_53 : decode cX8_pays 53 = .ok (.getfield 49, 3) := by decide +kernel
theorem dX8_pays_56 : decode cX8_pays 56 = .ok (.iload_n 1, 1) := by decide +kernel
theorem dX8_pays_57 : decode cX8_pays 57 = .ok (.aaload, 1) := by decide +kernel
theorem dX8_pays_58 : decode cX8_pays 58 = .ok (.getfield 110, 3) := by decide +kernel
theorem dX8_pays_61 : decode cX8_pays 61 = .ok (.astore 6, 2) := by decide +kernel
theorem dX8_pays_63 : decode cX8_pays 63 = .ok (.iconst 0, 1) := by decide +kernel
theorem dX8_pays_64 : decode cX8_pays 64 = .ok (.istore 7, 2) := by decide +kernel
theorem dX8_pays_66 : decode cX8_pays 66 = .ok (.iload 7, 2) := by decide +kernel
theorem dX8_pays_68 : decode cX8_pays 68 = .ok (.iload 4, 2) := by decide +kernel
theorem dX8_pays_70 : decode cX8_pays 70 = .ok (.if_icmp .ge 38, 3) := by decide +kernel
theorem dX8_pays_73 : decode cX8_pays 73 = .ok (.aload 6, 2) := by decide +kernel
theorem dX8_pays_75 : decode cX8_pays 75 = .ok (.iload_n 3, 1) := by decide +kernel
theorem dX8_pays_76 : decode cX8_pays 76 = .ok (.iconst 2, 1) := by decide +kernel
theorem dX8_pays_77 : decode cX8_pays 77 = .ok (.iload 7, 2) := by decide +kernel
theorem dX8_pays_79 : decode cX8_pays 79 = .ok (.imul, 1) := by decide +kernel
theorem dX8_pays_80 : decode cX8_pays 80 = .ok (.iadd, 1) := by decide +kernel
theorem dX8_pays_81 : decode cX8_pays 81 = .ok (.iaload, 1) := by decide +kernel
theorem dX8_pays_82 : decode cX8_pays 82 = .ok (.aload 6, 2) := by decide +kernel
theorem dX8_pays_84 : decode cX8_pays 84 = .ok (.iload_n 3, 1) := by decide +kernel
theorem dX8_pays_85 : decode cX8_pays 85 = .ok (.iconst 2, 1) := by decide +kernel
theorem dX8_pays_86 : decode cX8_pays 86 = .ok (.iload 7, 2) := by decide +kernel
theorem dX8_pays_88 : decode cX8_pays 88 = .ok (.imul, 1) := by decide +kernel
theorem dX8_pays_89 : decode cX8_pays 89 = .ok (.iadd, 1) := by decide +kernel
theorem dX8_pays_90 : decode cX8_pays 90 = .ok (.iconst 1, 1) := by decide +kernel
theorem dX8_pays_91 : decode cX8_pays 91 = .ok (.iadd, 1) := by decide +kernel
theorem dX8_pays_92 : decode cX8_pays 92 = .ok (.iaload, 1) := by decide +kernel
theorem dX8_pays_93 : decode cX8_pays 93 = .ok (.invokestatic 89, 3) := by decide +kernel
theorem dX8_pays_96 : decode cX8_pays 96 = .ok (.ifCond .ne 6, 3) := by decide +kernel
theorem dX8_pays_99 : decode cX8_pays 99 = .ok (.bipush (-2), 2) := by decide +kernel
theorem dX8_pays_101 : decode cX8_pays 101 = .ok (.ireturn, 1) := by decide +kernel
theorem dX8_pays_102 : decode cX8_pays 102 = .ok (.iinc 7 1, 3) := by decide +kernel
theorem dX8_pays_105 : decode cX8_pays 105 = .ok (.goto (-39), 3) := by decide +kernel
theorem dX8_pays_108 : decode cX8_pays 108 = .ok (.iload 4, 2) := by decide +kernel
theorem dX8_pays_110 : decode cX8_pays 110 = .ok (.bipush 12, 2) := by decide +kernel
theorem dX8_pays_112 : decode cX8_pays 112 = .ok (.aload_n 0, 1) := by decide +kernel
theorem dX8_pays_113 : decode cX8_pays 113 = .ok (.getfield 10, 3) := by decide +kernel
theorem dX8_pays_116 : decode cX8_pays 116 = .ok (.getfield 93, 3) := by decide +kernel
theorem dX8_pays_119 : decode cX8_pays 119 = .ok (.isub, 1) := by decide +kernel
theorem dX8_pays_120 : decode cX8_pays 120 = .ok (.if_icmp .le 6, 3) := by decide +kernel
theorem dX8_pays_123 : decode cX8_pays 123 = .ok (.bipush (-3), 2) := by decide +kernel
theorem dX8_pays_125 : decode cX8_pays 125 = .ok (.ireturn, 1) := by decide +kernel
theorem dX8_pays_126 : decode cX8_pays 126 = .ok (.iconst 0, 1) := by decide +kernel
theorem dX8_pays_127 : decode cX8_pays 127 = .ok (.istore 7, 2) := by decide +kernel
theorem dX8_pays_129 : decode cX8_pays 129 = .ok (.iload 7, 2) := by decide +kernel
theorem dX8_pays_131 : decode cX8_pays 131 = .ok (.iload 4, 2) := by decide +kernel
theorem dX8_pays_133 : decode cX8_pays 133 = .ok (.if_icmp .ge 36, 3) := by decide +kernel
theorem dX8_pays_136 : decode cX8_pays 136 = .ok (.aload_n 0, 1) := by decide +kernel
theorem dX8_pays_137 : decode cX8_pays 137 = .ok (.getfield 10, 3) := by decide +kernel
theorem dX8_pays_140 : decode cX8_pays 140 = .ok (.aload 6, 2) := by decide +kernel
theorem dX8_pays_142 : decode cX8_pays 142 = .ok (.iload_n 3, 1) := by decide +kernel
theorem dX8_pays_143 : decode cX8_pays 143 = .ok (.iconst 2, 1) := by decide +kernel
theorem dX8_pays_144 : decode cX8_pays 144 = .ok (.iload 7, 2) := by decide +kernel
theorem dX8_pays_146 : decode cX8_pays 146 = .ok (.imul, 1) := by decide +kernel
theorem dX8_pays_147 : decode cX8_pays 147 = .ok (.iadd, 1) := by decide +kernel
theorem dX8_pays_148 : decode cX8_pays 148 = .ok (.iaload, 1) := by decide +kernel
theorem dX8_pays_149 : decode cX8_pays 149 = .ok (.aload 6, 2) := by decide +kernel
theorem dX8_pays_151 : decode cX8_pays 151 = .ok (.iload_n 3, 1) := by decide +kernel
theorem dX8_pays_152 : decode cX8_pays 152 = .ok (.iconst 2, 1) := by decide +kernel
theorem dX8_pays_153 : decode cX8_pays 153 = .ok (.iload 7, 2) := by decide +kernel
theorem dX8_pays_155 : decode cX8_pays 155 = .ok (.imul, 1) := by decide +kernel
theorem dX8_pays_156 : decode cX8_pays 156 = .ok (.iadd, 1) := by decide +kernel
theorem dX8_pays_157 : decode cX8_pays 157 = .ok (.iconst 1, 1) := by decide +kernel
theorem dX8_pays_158 : decode cX8_pays 158 = .ok (.iadd, 1) := by decide +kernel
theorem dX8_pays_159 : decode cX8_pays 159 = .ok (.iaload, 1) := by decide +kernel
theorem dX8_pays_160 : decode cX8_pays 160 = .ok (.invokevirtual 96, 3) := by decide +kernel
theorem dX8_pays_163 : decode cX8_pays 163 = .ok (.iinc 7 1, 3) := by decide +kernel
theorem dX8_pays_166 : decode cX8_pays 166 = .ok (.goto (-37), 3) := by decide +kernel
theorem dX8_pays_169 : decode cX8_pays 169 = .ok (.iload 4, 2) := by decide +kernel
theorem dX8_pays_171 : decode cX8_pays 171 = .ok (.ireturn, 1) := by decide +kernel
theorem dX8_word_0 : decode cX8_word 0 = .ok (.aload_n 0, 1) := by decide +kernel
theorem dX8_word_1 : decode cX8_word 1 = .ok (.iload_n 1, 1) := by decide +kernel
theorem dX8_word_2 : decode cX8_word 2 = .ok (.invokevirtual 113, 3) := by decide +kernel
theorem dX8_word_5 : decode cX8_word 5 = .ok (.ifCond .eq 20, 3) := by decide +kernel
theorem dX8_word_8 : decode cX8_word 8 = .ok (.iload_n 2, 1) := by decide +kernel
theorem dX8_word_9 : decode cX8_word 9 = .ok (.iconst 0, 1) := by decide +kernel
theorem dX8_word_10 : decode cX8_word 10 = .ok (.iconst 1, 1) := by decide +kernel
theorem dX8_word_11 : decode cX8_word 11 = .ok (.invokestatic 54, 3) := by decide +kernel
theorem dX8_word_14 : decode cX8_word 14 = .ok (.ifCond .eq 11, 3) := by decide +kernel
theorem dX8_word_17 : decode cX8_word 17 = .ok (.aload_n 0, 1) := by decide +kernel
theorem dX8_word_18 : decode cX8_word 18 = .ok (.iload_n 3, 1) := by decide +kernel
theorem dX8_word_19 : decode cX8_word 19 = .ok (.invokevirtual 116, 3) := by decide +kernel
theorem dX8_word_22 : decode cX8_word 22 = .ok (.ifCond .ne 6, 3) := by decide +kernel
theorem dX8_word_25 : decode cX8_word 25 = .ok (.bipush (-101), 2) := by decide +kernel
theorem dX8_word_27 : decode cX8_word 27 = .ok (.ireturn, 1) := by decide +kernel
theorem dX8_word_28 : decode cX8_word 28 = .ok (.aload_n 0, 1) := by decide +kernel
theorem dX8_word_29 : decode cX8_word 29 = .ok (.getfield 10, 3) := by decide +kernel
theorem dX8_word_32 : decode cX8_word 32 = .ok (.getfield 119, 3) := by decide +kernel
theorem dX8_word_35 : decode cX8_word 35 = .ok (.iload_n 1, 1) := by decide +kernel
theorem dX8_word_36 : decode cX8_word 36 = .ok (.aaload, 1) := by decide +kernel
theorem dX8_word_37 : decode cX8_word 37 = .ok (.astore 4, 2) := by decide +kernel
theorem dX8_word_39 : decode cX8_word 39 = .ok (.iload_n 2, 1) := by decide +kernel
theorem dX8_word_40 : decode cX8_word 40 = .ok (.ifCond .ne 11, 3) := by decide +kernel
theorem dX8_word_43 : decode cX8_word 43 = .ok (.aload 4, 2) := by decide +kernel
theorem dX8_word_45 : decode cX8_word 45 = .ok (.getfield 123, 3) := by decide +kernel
theorem dX8_word_48 : decode cX8_word 48 = .ok (.goto 8, 3) := by decide +kernel
theorem dX8_word_51 : decode cX8_word 51 = .ok (.aload 4, 2) := by decide +kernel
theorem dX8_word_53 : decode cX8_word 53 = .ok (.getfield 128, 3) := by decide +kernel
theorem dX8_word_56 : decode cX8_word 56 = .ok (.istore 5, 2) := by decide +kernel
theorem dX8_word_58 : decode cX8_word 58 = .ok (.iload_n 2, 1) := by decide +kernel
theorem dX8_word_59 : decode cX8_word 59 = .ok (.ifCond .ne 12, 3) := by decide +kernel
theorem dX8_word_62 : decode cX8_word 62 = .ok (.aload 4, 2) := by decide +kernel
theorem dX8_word_64 : decode cX8_word 64 = .ok (.iload_n 3, 1) := by decide +kernel
theorem dX8_word_65 : decode cX8_word 65 = .ok (.putfield 123, 3) := by decide +kernel
theorem dX8_word_68 : decode cX8_word 68 = .ok (.goto 9, 3) := by decide +kernel
theorem dX8_word_71 : decode cX8_word 71 = .ok (.aload 4, 2) := by decide +kernel
theorem dX8_word_73 : decode cX8_word 73 = .ok (.iload_n 3, 1) := by decide +kernel
theorem dX8_word_74 : decode cX8_word 74 = .ok (.putfield 128, 3) := by decide +kernel
theorem dX8_word_77 : decode cX8_word 77 = .ok (.iload 5, 2) := by decide +kernel
theorem dX8_word_79 : decode cX8_word 79 = .ok (.ireturn, 1) := by decide +kernel
theorem dX8_move_0 : decode cX8_move 0 = .ok (.aload_n 0, 1) := by decide +kernel
theorem dX8_move_1 : decode cX8_move 1 = .ok (.iload_n 1, 1) := by decide +kernel
theorem dX8_move_2 : decode cX8_move 2 = .ok (.invokevirtual 113, 3) := by decide +kernel
theorem dX8_move_5 : decode cX8_move 5 = .ok (.ifCond .eq 10, 3) := by decide +kernel
theorem dX8_move_8 : decode cX8_move 8 = .ok (.iload_n 2, 1) := by decide +kernel
theorem dX8_move_9 : decode cX8_move 9 = .ok (.invokestatic 58, 3) := by decide +kernel
theorem dX8_move_12 : decode cX8_move 12 = .ok (.ifCond .ne 5, 3) := by decide +kernel
theorem dX8_move_15 : decode cX8_move 15 = .ok (.iconst (-1), 1) := by decide +kernel
theorem dX8_move_16 : decode cX8_move 16 = .ok (.ireturn, 1) := by decide +kernel
theorem dX8_move_17 : decode cX8_move 17 = .ok (.aload_n 0, 1) := by decide +kernel
theorem dX8_move_18 : decode cX8_move 18 = .ok (.getfield 10, 3) := by decide +kernel
theorem dX8_move_21 : decode cX8_move 21 = .ok (.getfield 119, 3) := by decide +kernel
theorem dX8_move_24 : decode cX8_move 24 = .ok (.iload_n 1, 1) := by decide +kernel
theorem dX8_move_25 : decode cX8_move 25 = .ok (.aaload, 1) := by decide +kernel
theorem dX8_move_26 : decode cX8_move 26 = .ok (.getfield 131, 3) := by decide +kernel
theorem dX8_move_29 : decode cX8_move 29 = .ok (.istore_n 3, 1) := by decide +kernel
theorem dX8_move_30 : decode cX8_move 30 = .ok (.aload_n 0, 1) := by decide +kernel
theorem dX8_move_31 : decode cX8_move 31 = .ok (.getfield 10, 3) := by decide +kernel
theorem dX8_move_34 : decode cX8_move 34 = .ok (.getfield 119, 3) := by decide +kernel
theorem dX8_move_37 : decode cX8_move 37 = .ok (.iload_n 1, 1) := by decide +kernel
theorem dX8_move_38 : decode cX8_move 38 = .ok (.aaload, 1) := by decide +kernel
theorem dX8_move_39 : decode cX8_move 39 = .ok (.iload_n 2, 1) := by decide +kernel
theorem dX8_move_40 : decode cX8_move 40 = .ok (.putfield 131, 3) := by decide +kernel
theorem dX8_move_43 : decode cX8_move 43 = .ok (.iload_n 3, 1) := by decide +kernel
theorem dX8_move_44 : decode cX8_move 44 = .ok (.ireturn, 1) := by decide +kernel
theorem dX8_count_0 : decode cX8_count 0 = .ok (.iload_n 1, 1) := by decide +kernel
theorem dX8_count_1 : decode cX8_count 1 = .ok (.tableswitch 67 0 3 #[31, 39, 47, 57], 31) := by decide +kernel
theorem dX8_count_32 : decode cX8_count 32 = .ok (.aload_n 0, 1) := by decide +kernel
theorem dX8_count_33 : decode cX8_count 33 = .ok (.getfield 10, 3) := by decide +kernel
theorem dX8_count_36 : decode cX8_count 36 = .ok (.getfield 62, 3) := by decide +kernel
theorem dX8_count_39 : decode cX8_count 39 = .ok (.ireturn, 1) := by decide +kernel
theorem dX8_count_40 : decode cX8_count 40 = .ok (.aload_n 0, 1) := by decide +kernel
theorem dX8_count_41 : decode cX8_count 41 = .ok (.getfield 10, 3) := by decide +kernel
theorem dX8_count_44 : decode cX8_count 44 = .ok (.getfield 93, 3) := by decide +kernel
theorem dX8_count_47 : decode cX8_count 47 = .ok (.ireturn, 1) := by decide +kernel
theorem dX8_count_48 : decode cX8_count 48 = .ok (.aload_n 0, 1) := by decide +kernel
theorem dX8_count_49 : decode cX8_count 49 = .ok (.getfield 10, 3) := by decide +kernel
theorem dX8_count_52 : decode cX8_count 52 = .ok (.iconst 1, 1) := by decide +kernel
theorem dX8_count_53 : decode cX8_count 53 = .ok (.iconst 0, 1) := by decide +kernel
theorem dX8_count_54 : decode cX8_count 54 = .ok (.invokevirtual 134, 3) := by decide +kernel
theorem dX8_count_57 : decode cX8_count 57 = .ok (.ireturn, 1) := by decide +kernel
theorem dX8_count_58 : decode cX8_count 58 = .ok (.aload_n 0, 1) := by decide +kernel
theorem dX8_count_59 : decode cX8_count 59 = .ok (.getfield 10, 3) := by decide +kernel
theorem dX8_count_62 : decode cX8_count 62 = .ok (.iconst 2, 1) := by decide +kernel
theorem dX8_count_63 : decode cX8_count 63 = .ok (.iconst 1, 1) := by decide +kernel
theorem dX8_count_64 : decode cX8_count 64 = .ok (.invokevirtual 134, 3) := by decide +kernel
theorem dX8_count_67 : decode cX8_count 67 = .ok (.ireturn, 1) := by decide +kernel
theorem dX8_count_68 : decode cX8_count 68 = .ok (.iconst (-1), 1) := by decide +kernel
theorem dX8_count_69 : decode cX8_count 69 = .ok (.ireturn, 1) := by decide +kernel
theorem dX8_type_0 : decode cX8_type 0 = .ok (.iload_n 3, 1) := by decide +kernel
theorem dX8_type_1 : decode cX8_type 1 = .ok (.iconst 1, 1) := by decide +kernel
theorem dX8_type_2 : decode cX8_type 2 = .ok (.bipush 8, 2) := by decide +kernel
theorem dX8_type_4 : decode cX8_type 4 = .ok (.invokestatic 54, 3) := by decide +kernel
theorem dX8_type_7 : decode cX8_type 7 = .ok (.ifCond .eq 11, 3) := by decide +kernel
theorem dX8_type_10 : decode cX8_type 10 = .ok (.lload_n 1, 1) := by decide +kernel
theorem dX8_type_11 : decode cX8_type 11 = .ok (.iload_n 3, 1) := by decide +kernel
theorem dX8_type_12 : decode cX8_type 12 = .ok (.invokestatic 138, 3) := by decide +kernel
theorem dX8_type_15 : decode cX8_type 15 = .ok (.ifCond .ne 5, 3) := by decide +kernel
theorem dX8_type_18 : decode cX8_type 18 = .ok (.iconst (-1), 1) := by decide +kernel
theorem dX8_type_19 : decode cX8_type 19 = .ok (.ireturn, 1) := by decide +kernel
theorem dX8_type_20 : decode cX8_type 20 = .ok (.iload_n 3, 1) := by decide +kernel
theorem dX8_type_21 : decode cX8_type 21 = .ok (.bipush 40, 2) := by decide +kernel
theorem dX8_type_23 : decode cX8_type 23 = .ok (.aload_n 0, 1) := by decide +kernel
theorem dX8_type_24 : decode cX8_type 24 = .ok (.getfield 43, 3) := by decide +kernel
theorem dX8_type_27 : decode cX8_type 27 = .ok (.getfield 142, 3) := by decide +kernel
theorem dX8_type_30 : decode cX8_type 30 = .ok (.isub, 1) := by decide +kernel
theorem dX8_type_31 : decode cX8_type 31 = .ok (.if_icmp .le 6, 3) := by decide +kernel
theorem dX8_type_34 : decode cX8_type 34 = .ok (.bipush (-3), 2) := by decide +kernel
theorem dX8_type_36 : decode cX8_type 36 = .ok (.ireturn, 1) := by decide +kernel
theorem dX8_type_37 : decode cX8_type 37 = .ok (.iload_n 3, 1) := by decide +kernel
theorem dX8_type_38 : decode cX8_type 38 = .ok (.iconst 1, 1) := by decide +kernel
theorem dX8_type_39 : decode cX8_type 39 = .ok (.isub, 1) := by decide +kernel
theorem dX8_type_40 : decode cX8_type 40 = .ok (.istore 4, 2) := by decide +kernel
theorem dX8_type_42 : decode cX8_type 42 = .ok (.iload 4, 2) := by decide +kernel
theorem dX8_type_44 : decode cX8_type 44 = .ok (.ifCond .lt 22, 3) := by decide +kernel
theorem dX8_type_47 : decode cX8_type 47 = .ok (.aload_n 0, 1) := by decide +kernel
theorem dX8_type_48 : decode cX8_type 48 = .ok (.getfield 43, 3) := by decide +kernel
theorem dX8_type_51 : decode cX8_type 51 = .ok (.lload_n 1, 1) := by decide +kernel
theorem dX8_type_52 : decode cX8_type 52 = .ok (.iload 4, 2) := by decide +kernel
theorem dX8_type_54 : decode cX8_type 54 = .ok (.invokestatic 145, 3) := by decide +kernel
theorem dX8_type_57 : decode cX8_type 57 = .ok (.invokevirtual 149, 3) := by decide +kernel
theorem dX8_type_60 : decode cX8_type 60 = .ok (.iinc 4 (-1), 3) := by decide +kernel
theorem dX8_type_63 : decode cX8_type 63 = .ok (.goto (-21), 3) := by decide +kernel
theorem dX8_type_66 : decode cX8_type 66 = .ok (.aload_n 0, 1) := by decide +kernel
theorem dX8_type_67 : decode cX8_type 67 = .ok (.getfield 43, 3) := by decide +kernel
theorem dX8_type_70 : decode cX8_type 70 = .ok (.getfield 142, 3) := by decide +kernel
theorem dX8_type_73 : decode cX8_type 73 = .ok (.ireturn, 1) := by decide +kernel
theorem dX8_law_0 : decode cX8_law 0 = .ok (.iload_n 1, 1) := by decide +kernel
theorem dX8_law_1 : decode cX8_law 1 = .ok (.invokestatic 153, 3) := by decide +kernel
theorem dX8_law_4 : decode cX8_law 4 = .ok (.ifCond .ne 5, 3) := by decide +kernel
theorem dX8_law_7 : decode cX8_law 7 = .ok (.iconst (-1), 1) := by decide +kernel
theorem dX8_law_8 : decode cX8_law 8 = .ok (.ireturn, 1) := by decide +kernel
theorem dX8_law_9 : decode cX8_law 9 = .ok (.aload_n 0, 1) := by decide +kernel
theorem dX8_law_10 : decode cX8_law 10 = .ok (.getfield 43, 3) := by decide +kernel
theorem dX8_law_13 : decode cX8_law 13 = .ok (.invokevirtual 156, 3) := by decide +kernel
theorem dX8_law_16 : decode cX8_law 16 = .ok (.istore_n 2, 1) := by decide +kernel
theorem dX8_law_17 : decode cX8_law 17 = .ok (.iload_n 2, 1) := by decide +kernel
theorem dX8_law_18 : decode cX8_law 18 = .ok (.ifCond .ne 19, 3) := by decide +kernel
theorem dX8_law_21 : decode cX8_law 21 = .ok (.aload_n 0, 1) := by decide +kernel
theorem dX8_law_22 : decode cX8_law 22 = .ok (.getfield 10, 3) := by decide +kernel
theorem dX8_law_25 : decode cX8_law 25 = .ok (.getfield 160, 3) := by decide +kernel
theorem dX8_law_28 : decode cX8_law 28 = .ok (.iload_n 1, 1) := by decide +kernel
theorem dX8_law_29 : decode cX8_law 29 = .ok (.aaload, 1) := by decide +kernel
theorem dX8_law_30 : decode cX8_law 30 = .ok (.aload_n 0, 1) := by decide +kernel
theorem dX8_law_31 : decode cX8_law 31 = .ok (.getfield 43, 3) := by decide +kernel
theorem dX8_law_34 : decode cX8_law 34 = .ok (.invokevirtual 164, 3) := by decide +kernel
theorem dX8_law_37 : decode cX8_law 37 = .ok (.aload_n 0, 1) := by decide +kernel
theorem dX8_law_38 : decode cX8_law 38 = .ok (.getfield 43, 3) := by decide +kernel
theorem dX8_law_41 : decode cX8_law 41 = .ok (.iconst 0, 1) := by decide +kernel
theorem dX8_law_42 : decode cX8_law 42 = .ok (.putfield 142, 3) := by decide +kernel
theorem dX8_law_45 : decode cX8_law 45 = .ok (.iload_n 2, 1) := by decide +kernel
theorem dX8_law_46 : decode cX8_law 46 = .ok (.ifCond .ne 18, 3) := by decide +kernel
theorem dX8_law_49 : decode cX8_law 49 = .ok (.aload_n 0, 1) := by decide +kernel
theorem dX8_law_50 : decode cX8_law 50 = .ok (.getfield 10, 3) := by decide +kernel
theorem dX8_law_53 : decode cX8_law 53 = .ok (.getfield 160, 3) := by decide +kernel
theorem dX8_law_56 : decode cX8_law 56 = .ok (.iload_n 1, 1) := by decide +kernel
theorem dX8_law_57 : decode cX8_law 57 = .ok (.aaload, 1) := by decide +kernel
theorem dX8_law_58 : decode cX8_law 58 = .ok (.getfield 170, 3) := by decide +kernel
theorem dX8_law_61 : decode cX8_law 61 = .ok (.goto 4, 3) := by decide +kernel
theorem dX8_law_64 : decode cX8_law 64 = .ok (.iload_n 2, 1) := by decide +kernel
theorem dX8_law_65 : decode cX8_law 65 = .ok (.ireturn, 1) := by decide +kernel
theorem dX8_letter_0 : decode cX8_letter 0 = .ok (.iload_n 1, 1) := by decide +kernel
theorem dX8_letter_1 : decode cX8_letter 1 = .ok (.invokestatic 153, 3) := by decide +kernel
theorem dX8_letter_4 : decode cX8_letter 4 = .ok (.ifCond .eq 7, 3) := by decide +kernel
theorem dX8_letter_7 : decode cX8_letter 7 = .ok (.iload_n 2, 1) := by decide +kernel
theorem dX8_letter_8 : decode cX8_letter 8 = .ok (.ifCond .ge 5, 3) := by decide +kernel
theorem dX8_letter_11 : decode cX8_letter 11 = .ok (.iconst (-1), 1) := by decide +kernel
theorem dX8_letter_12 : decode cX8_letter 12 = .ok (.ireturn, 1) := by decide +kernel
theorem dX8_letter_13 : decode cX8_letter 13 = .ok (.aload_n 0, 1) := by decide +kernel
theorem dX8_letter_14 : decode cX8_letter 14 = .ok (.getfield 10, 3) := by decide +kernel
theorem dX8_letter_17 : decode cX8_letter 17 = .ok (.getfield 160, 3) := by decide +kernel
theorem dX8_letter_20 : decode cX8_letter 20 = .ok (.iload_n 1, 1) := by decide +kernel
theorem dX8_letter_21 : decode cX8_letter 21 = .ok (.aaload, 1) := by decide +kernel
theorem dX8_letter_22 : decode cX8_letter 22 = .ok (.astore_n 3, 1) := by decide +kernel
theorem dX8_letter_23 : decode cX8_letter 23 = .ok (.iload_n 2, 1) := by decide +kernel
theorem dX8_letter_24 : decode cX8_letter 24 = .ok (.aload_n 3, 1) := by decide +kernel
theorem dX8_letter_25 : decode cX8_letter 25 = .ok (.getfield 170, 3) := by decide +kernel
theorem dX8_letter_28 : decode cX8_letter 28 = .ok (.if_icmp .ge 18, 3) := by decide +kernel
theorem dX8_letter_31 : decode cX8_letter 31 = .ok (.iload_n 2, 1) := by decide +kernel
theorem dX8_letter_32 : decode cX8_letter 32 = .ok (.bipush 10, 2) := by decide +kernel
theorem dX8_letter_34 : decode cX8_letter 34 = .ok (.if_icmp .ge 12, 3) := by decide +kernel
theorem dX8_letter_37 : decode cX8_letter 37 = .ok (.aload_n 3, 1) := by decide +kernel
theorem dX8_letter_38 : decode cX8_letter 38 = .ok (.getfield 171, 3) := by decide +kernel
theorem dX8_letter_41 : decode cX8_letter 41 = .ok (.iload_n 2, 1) := by decide +kernel
theorem dX8_letter_42 : decode cX8_letter 42 = .ok (.iaload, 1) := by decide +kernel
theorem dX8_letter_43 : decode cX8_letter 43 = .ok (.goto 5, 3) := by decide +kernel
theorem dX8_letter_46 : decode cX8_letter 46 = .ok (.bipush (-4), 2) := by decide +kernel
theorem dX8_letter_48 : decode cX8_letter 48 = .ok (.ireturn, 1) := by decide +kernel
theorem dX8_left_0 : decode cX8_left 0 = .ok (.iload_n 1, 1) := by decide +kernel
theorem dX8_left_1 : decode cX8_left 1 = .ok (.invokestatic 153, 3) := by decide +kernel
theorem dX8_left_4 : decode cX8_left 4 = .ok (.ifCond .eq 28, 3) := by decide +kernel
theorem dX8_left_7 : decode cX8_left 7 = .ok (.aload_n 0, 1) := by decide +kernel
theorem dX8_left_8 : decode cX8_left 8 = .ok (.iload_n 2, 1) := by decide +kernel
theorem dX8_left_9 : decode cX8_left 9 = .ok (.invokevirtual 76, 3) := by decide +kernel
theorem dX8_left_12 : decode cX8_left 12 = .ok (.ifCond .eq 20, 3) := by decide +kernel
theorem dX8_left_15 : decode cX8_left 15 = .ok (.iload_n 3, 1) := by decide +kernel
theorem dX8_left_16 : decode cX8_left 16 = .ok (.invokestatic 58, 3) := by decide +kernel
theorem dX8_left_19 : decode cX8_left 19 = .ok (.ifCond .eq 13, 3) := by decide +kernel
theorem dX8_left_22 : decode cX8_left 22 = .ok (.iload 4, 2) := by decide +kernel
theorem dX8_left_24 : decode cX8_left 24 = .ok (.iconst 0, 1) := by decide +kernel
theorem dX8_left_25 : decode cX8_left 25 = .ok (.iconst 2, 1) := by decide +kernel
theorem dX8_left_26 : decode cX8_left 26 = .ok (.invokestatic 54, 3) := by decide +kernel
theorem dX8_left_29 : decode cX8_left 29 = .ok (.ifCond .ne 7, 3) := by decide +kernel
theorem dX8_left_32 : decode cX8_left 32 = .ok (.ldc2_w 174, 3) := by decide +kernel
theorem dX8_left_35 : decode cX8_left 35 = .ok (.lreturn, 1) := by decide +kernel
theorem dX8_left_36 : decode cX8_left 36 = .ok (.aload_n 0, 1) := by decide +kernel
theorem dX8_left_37 : decode cX8_left 37 = .ok (.iload_n 1, 1) := by decide +kernel
theorem dX8_left_38 : decode cX8_left 38 = .ok (.iload_n 3, 1) := by decide +kernel
theorem dX8_left_39 : decode cX8_left 39 = .ok (.invokevirtual 176, 3) := by decide +kernel
theorem dX8_left_42 : decode cX8_left 42 = .ok (.iload 4, 2) := by decide +kernel
theorem dX8_left_44 : decode cX8_left 44 = .ok (.ifCond .ne 14, 3) := by decide +kernel
theorem dX8_left_47 : decode cX8_left 47 = .ok (.aload_n 0, 1) := by decide +kernel
theorem dX8_left_48 : decode cX8_left 48 = .ok (.getfield 26, 3) := by decide +kernel
theorem dX8_left_51 : decode cX8_left 51 = .ok (.iload_n 2, 1) := by decide +kernel
theorem dX8_left_52 : decode cX8_left 52 = .ok (.invokevirtual 179, 3) := by decide +kernel
theorem dX8_left_55 : decode cX8_left 55 = .ok (.goto 28, 3) := by decide +kernel
theorem dX8_left_58 : decode cX8_left 58 = .ok (.iload 4, 2) := by decide +kernel
theorem dX8_left_60 : decode cX8_left 60 = .ok (.iconst 1, 1) := by decide +kernel
theorem dX8_left_61 : decode cX8_left 61 = .ok (.if_icmp .ne 14, 3) := by decide +kernel
theorem dX8_left_64 : decode cX8_left 64 = .ok (.aload_n 0, 1) := by decide +kernel
theorem dX8_left_65 : decode cX8_left 65 = .ok (.getfield 26, 3) := by decide +kernel
theorem dX8_left_68 : decode cX8_left 68 = .ok (.iload_n 2, 1) := by decide +kernel
theorem dX8_left_69 : decode cX8_left 69 = .ok (.invokevirtual 183, 3) := by decide +kernel
theorem dX8_left_72 : decode cX8_left 72 = .ok (.goto 11, 3) := by decide +kernel
theorem dX8_left_75 : decode cX8_left 75 = .ok (.aload_n 0, 1) := by decide +kernel
theorem dX8_left_76 : decode cX8_left 76 = .ok (.getfield 26, 3) := by decide +kernel
theorem dX8_left_79 : decode cX8_left 79 = .ok (.iload_n 2, 1) := by decide +kernel
theorem dX8_left_80 : decode cX8_left 80 = .ok (.invokevirtual 186, 3) := by decide +kernel
theorem dX8_left_83 : decode cX8_left 83 = .ok (.lreturn, 1) := by decide +kernel
theorem dX8_owed_0 : decode cX8_owed 0 = .ok (.iload_n 1, 1) := by decide +kernel
theorem dX8_owed_1 : decode cX8_owed 1 = .ok (.invokestatic 153, 3) := by decide +kernel
theorem dX8_owed_4 : decode cX8_owed 4 = .ok (.ifCond .eq 10, 3) := by decide +kernel
theorem dX8_owed_7 : decode cX8_owed 7 = .ok (.iload_n 2, 1) := by decide +kernel
theorem dX8_owed_8 : decode cX8_owed 8 = .ok (.invokestatic 58, 3) := by decide +kernel
theorem dX8_owed_11 : decode cX8_owed 11 = .ok (.ifCond .ne 7, 3) := by decide +kernel
theorem dX8_owed_14 : decode cX8_owed 14 = .ok (.ldc2_w 174, 3) := by decide +kernel
theorem dX8_owed_17 : decode cX8_owed 17 = .ok (.lreturn, 1) := by decide +kernel
theorem dX8_owed_18 : decode cX8_owed 18 = .ok (.aload_n 0, 1) := by decide +kernel
theorem dX8_owed_19 : decode cX8_owed 19 = .ok (.iload_n 1, 1) := by decide +kernel
theorem dX8_owed_20 : decode cX8_owed 20 = .ok (.iload_n 2, 1) := by decide +kernel
theorem dX8_owed_21 : decode cX8_owed 21 = .ok (.invokevirtual 176, 3) := by decide +kernel
theorem dX8_owed_24 : decode cX8_owed 24 = .ok (.aload_n 0, 1) := by decide +kernel
theorem dX8_owed_25 : decode cX8_owed 25 = .ok (.getfield 26, 3) := by decide +kernel
theorem dX8_owed_28 : decode cX8_owed 28 = .ok (.invokevirtual 189, 3) := by decide +kernel
theorem dX8_owed_31 : decode cX8_owed 31 = .ok (.lreturn, 1) := by decide +kernel
theorem dX8_put_0 : decode cX8_put 0 = .ok (.iload_n 1, 1) := by decide +kernel
theorem dX8_put_1 : decode cX8_put 1 = .ok (.invokestatic 153, 3) := by decide +kernel
theorem dX8_put_4 : decode cX8_put 4 = .ok (.ifCond .eq 29, 3) := by decide +kernel
theorem dX8_put_7 : decode cX8_put 7 = .ok (.aload_n 0, 1) := by decide +kernel
theorem dX8_put_8 : decode cX8_put 8 = .ok (.iload_n 2, 1) := by decide +kernel
theorem dX8_put_9 : decode cX8_put 9 = .ok (.invokevirtual 113, 3) := by decide +kernel
theorem dX8_put_12 : decode cX8_put 12 = .ok (.ifCond .eq 21, 3) := by decide +kernel
theorem dX8_put_15 : decode cX8_put 15 = .ok (.aload_n 0, 1) := by decide +kernel
theorem dX8_put_16 : decode cX8_put 16 = .ok (.iload_n 3, 1) := by decide +kernel
theorem dX8_put_17 : decode cX8_put 17 = .ok (.invokevirtual 116, 3) := by decide +kernel
theorem dX8_put_20 : decode cX8_put 20 = .ok (.ifCond .eq 13, 3) := by decide +kernel
theorem dX8_put_23 : decode cX8_put 23 = .ok (.iload 4, 2) := by decide +kernel
theorem dX8_put_25 : decode cX8_put 25 = .ok (.iconst 0, 1) := by decide +kernel
theorem dX8_put_26 : decode cX8_put 26 = .ok (.iconst 1, 1) := by decide +kernel
theorem dX8_put_27 : decode cX8_put 27 = .ok (.invokestatic 54, 3) := by decide +kernel
theorem dX8_put_30 : decode cX8_put 30 = .ok (.ifCond .ne 7, 3) := by decide +kernel
theorem dX8_put_33 : decode cX8_put 33 = .ok (.ldc2_w 174, 3) := by decide +kernel
theorem dX8_put_36 : decode cX8_put 36 = .ok (.lreturn, 1) := by decide +kernel
theorem dX8_put_37 : decode cX8_put 37 = .ok (.aload_n 0, 1) := by decide +kernel
theorem dX8_put_38 : decode cX8_put 38 = .ok (.getfield 26, 3) := by decide +kernel
theorem dX8_put_41 : decode cX8_put 41 = .ok (.aload_n 0, 1) := by decide +kernel
theorem dX8_put_42 : decode cX8_put 42 = .ok (.getfield 10, 3) := by decide +kernel
theorem dX8_put_45 : decode cX8_put 45 = .ok (.iload_n 1, 1) := by decide +kernel
theorem dX8_put_46 : decode cX8_put 46 = .ok (.invokevirtual 193, 3) := by decide +kernel
theorem dX8_put_49 : decode cX8_put 49 = .ok (.aload_n 0, 1) := by decide +kernel
theorem dX8_put_50 : decode cX8_put 50 = .ok (.getfield 26, 3) := by decide +kernel
theorem dX8_put_53 : decode cX8_put 53 = .ok (.iload_n 2, 1) := by decide +kernel
theorem dX8_put_54 : decode cX8_put 54 = .ok (.invokevirtual 197, 3) := by decide +kernel
theorem dX8_put_57 : decode cX8_put 57 = .ok (.iload_n 3, 1) := by decide +kernel
theorem dX8_put_58 : decode cX8_put 58 = .ok (.iconst (-1), 1) := by decide +kernel
theorem dX8_put_59 : decode cX8_put 59 = .ok (.if_icmp .ne 11, 3) := by decide +kernel
theorem dX8_put_62 : decode cX8_put 62 = .ok (.aload_n 0, 1) := by decide +kernel
theorem dX8_put_63 : decode cX8_put 63 = .ok (.getfield 26, 3) := by decide +kernel
theorem dX8_put_66 : decode cX8_put 66 = .ok (.getfield 200, 3) := by decide +kernel
theorem dX8_put_69 : decode cX8_put 69 = .ok (.lreturn, 1) := by decide +kernel
theorem dX8_put_70 : decode cX8_put 70 = .ok (.iload 4, 2) := by decide +kernel
theorem dX8_put_72 : decode cX8_put 72 = .ok (.ifCond .ne 15, 3) := by decide +kernel
theorem dX8_put_75 : decode cX8_put 75 = .ok (.aload_n 0, 1) := by decide +kernel
theorem dX8_put_76 : decode cX8_put 76 = .ok (.getfield 26, 3) := by decide +kernel
theorem dX8_put_79 : decode cX8_put 79 = .ok (.getfield 204, 3) := by decide +kernel
theorem dX8_put_82 : decode cX8_put 82 = .ok (.iload_n 3, 1) := by decide +kernel
theorem dX8_put_83 : decode cX8_put 83 = .ok (.laload, 1) := by decide +kernel
theorem dX8_put_84 : decode cX8_put 84 = .ok (.goto 12, 3) := by decide +kernel
theorem dX8_put_87 : decode cX8_put 87 = .ok (.aload_n 0, 1) := by decide +kernel
theorem dX8_put_88 : decode cX8_put 88 = .ok (.getfield 26, 3) := by decide +kernel
theorem dX8_put_91 : decode cX8_put 91 = .ok (.getfield 208, 3) := by decide +kernel
theorem dX8_put_94 : decode cX8_put 94 = .ok (.iload_n 3, 1) := by decide +kernel
theorem dX8_put_95 : decode cX8_put 95 = .ok (.laload, 1) := by decide +kernel
theorem dX8_put_96 : decode cX8_put 96 = .ok (.lreturn, 1) := by decide +kernel
theorem dX8_paid_0 : decode cX8_paid 0 = .ok (.iload_n 1, 1) := by decide +kernel
theorem dX8_paid_1 : decode cX8_paid 1 = .ok (.invokestatic 153, 3) := by decide +kernel
theorem dX8_paid_4 : decode cX8_paid 4 = .ok (.ifCond .eq 11, 3) := by decide +kernel
theorem dX8_paid_7 : decode cX8_paid 7 = .ok (.aload_n 0, 1) := by decide +kernel
theorem dX8_paid_8 : decode cX8_paid 8 = .ok (.iload_n 2, 1) := by decide +kernel
theorem dX8_paid_9 : decode cX8_paid 9 = .ok (.invokevirtual 76, 3) := by decide +kernel
theorem dX8_paid_12 : decode cX8_paid 12 = .ok (.ifCond .ne 5, 3) := by decide +kernel
theorem dX8_paid_15 : decode cX8_paid 15 = .ok (.iconst (-1), 1) := by decide +kernel
theorem dX8_paid_16 : decode cX8_paid 16 = .ok (.ireturn, 1) := by decide +kernel
theorem dX8_paid_17 : decode cX8_paid 17 = .ok (.aload_n 0, 1) := by decide +kernel
theorem dX8_paid_18 : decode cX8_paid 18 = .ok (.iload_n 1, 1) := by decide +kernel
theorem dX8_paid_19 : decode cX8_paid 19 = .ok (.sipush 299, 3) := by decide +kernel
theorem dX8_paid_22 : decode cX8_paid 22 = .ok (.invokevirtual 176, 3) := by decide +kernel
theorem dX8_paid_25 : decode cX8_paid 25 = .ok (.aload_n 0, 1) := by decide +kernel
theorem dX8_paid_26 : decode cX8_paid 26 = .ok (.getfield 26, 3) := by decide +kernel
theorem dX8_paid_29 : decode cX8_paid 29 = .ok (.getfield 211, 3) := by decide +kernel
theorem dX8_paid_32 : decode cX8_paid 32 = .ok (.iload_n 2, 1) := by decide +kernel
theorem dX8_paid_33 : decode cX8_paid 33 = .ok (.iaload, 1) := by decide +kernel
theorem dX8_paid_34 : decode cX8_paid 34 = .ok (.invokestatic 214, 3) := by decide +kernel
theorem dX8_paid_37 : decode cX8_paid 37 = .ok (.ireturn, 1) := by decide +kernel
theorem dX8_dead_0 : decode cX8_dead 0 = .ok (.iload_n 1, 1) := by decide +kernel
theorem dX8_dead_1 : decode cX8_dead 1 = .ok (.invokestatic 153, 3) := by decide +kernel
theorem dX8_dead_4 : decode cX8_dead 4 = .ok (.ifCond .eq 18, 3) := by decide +kernel
theorem dX8_dead_7 : decode cX8_dead 7 = .ok (.aload_n 0, 1) := by decide +kernel
theorem dX8_dead_8 : decode cX8_dead 8 = .ok (.iload_n 2, 1) := by decide +kernel
theorem dX8_dead_9 : decode cX8_dead 9 = .ok (.invokevirtual 76, 3) := by decide +kernel
theorem dX8_dead_12 : decode cX8_dead 12 = .ok (.ifCond .eq 10, 3) := by decide +kernel
theorem dX8_dead_15 : decode cX8_dead 15 = .ok (.iload_n 3, 1) := by decide +kernel
theorem dX8_dead_16 : decode cX8_dead 16 = .ok (.invokestatic 58, 3) := by decide +kernel
theorem dX8_dead_19 : decode cX8_dead 19 = .ok (.ifCond .ne 5, 3) := by decide +kernel
theorem dX8_dead_22 : decode cX8_dead 22 = .ok (.iconst (-1), 1) := by decide +kernel
theorem dX8_dead_23 : decode cX8_dead 23 = .ok (.ireturn, 1) := by decide +kernel
theorem dX8_dead_24 : decode cX8_dead 24 = .ok (.aload_n 0, 1) := by decide +kernel
theorem dX8_dead_25 : decode cX8_dead 25 = .ok (.getfield 26, 3) := by decide +kernel
theorem dX8_dead_28 : decode cX8_dead 28 = .ok (.aload_n 0, 1) := by decide +kernel
theorem dX8_dead_29 : decode cX8_dead 29 = .ok (.getfield 10, 3) := by decide +kernel
theorem dX8_dead_32 : decode cX8_dead 32 = .ok (.iload_n 1, 1) := by decide +kernel
theorem dX8_dead_33 : decode cX8_dead 33 = .ok (.invokevirtual 193, 3) := by decide +kernel
theorem dX8_dead_36 : decode cX8_dead 36 = .ok (.aload_n 0, 1) := by decide +kernel
theorem dX8_dead_37 : decode cX8_dead 37 = .ok (.getfield 26, 3) := by decide +kernel
theorem dX8_dead_40 : decode cX8_dead 40 = .ok (.iload_n 3, 1) := by decide +kernel
theorem dX8_dead_41 : decode cX8_dead 41 = .ok (.invokevirtual 218, 3) := by decide +kernel
theorem dX8_dead_44 : decode cX8_dead 44 = .ok (.aload_n 0, 1) := by decide +kernel
theorem dX8_dead_45 : decode cX8_dead 45 = .ok (.getfield 26, 3) := by decide +kernel
theorem dX8_dead_48 : decode cX8_dead 48 = .ok (.invokevirtual 221, 3) := by decide +kernel
theorem dX8_dead_51 : decode cX8_dead 51 = .ok (.aload_n 0, 1) := by decide +kernel
theorem dX8_dead_52 : decode cX8_dead 52 = .ok (.getfield 26, 3) := by decide +kernel
theorem dX8_dead_55 : decode cX8_dead 55 = .ok (.getfield 224, 3) := by decide +kernel
theorem dX8_dead_58 : decode cX8_dead 58 = .ok (.iload_n 2, 1) := by decide +kernel
theorem dX8_dead_59 : decode cX8_dead 59 = .ok (.baload, 1) := by decide +kernel
theorem dX8_dead_60 : decode cX8_dead 60 = .ok (.ifCond .eq 7, 3) := by decide +kernel
theorem dX8_dead_63 : decode cX8_dead 63 = .ok (.iconst 1, 1) := by decide +kernel
theorem dX8_dead_64 : decode cX8_dead 64 = .ok (.goto 4, 3) := by decide +kernel
theorem dX8_dead_67 : decode cX8_dead 67 = .ok (.iconst 0, 1) := by decide +kernel
theorem dX8_dead_68 : decode cX8_dead 68 = .ok (.ireturn, 1) := by decide +kernel
theorem dX8_wakes_0 : decode cX8_wakes 0 = .ok (.iload_n 1, 1) := by decide +kernel
theorem dX8_wakes_1 : decode cX8_wakes 1 = .ok (.invokestatic 153, 3) := by decide +kernel
theorem dX8_wakes_4 : decode cX8_wakes 4 = .ok (.ifCond .eq 11, 3) := by decide +kernel
theorem dX8_wakes_7 : decode cX8_wakes 7 = .ok (.aload_n 0, 1) := by decide +kernel
theorem dX8_wakes_8 : decode cX8_wakes 8 = .ok (.iload_n 2, 1) := by decide +kernel
theorem dX8_wakes_9 : decode cX8_wakes 9 = .ok (.invokevirtual 76, 3) := by decide +kernel
theorem dX8_wakes_12 : decode cX8_wakes 12 = .ok (.ifCond .ne 5, 3) := by decide +kernel
theorem dX8_wakes_15 : decode cX8_wakes 15 = .ok (.iconst (-1), 1) := by decide +kernel
theorem dX8_wakes_16 : decode cX8_wakes 16 = .ok (.ireturn, 1) := by decide +kernel
theorem dX8_wakes_17 : decode cX8_wakes 17 = .ok (.aload_n 0, 1) := by decide +kernel
theorem dX8_wakes_18 : decode cX8_wakes 18 = .ok (.iload_n 1, 1) := by decide +kernel
theorem dX8_wakes_19 : decode cX8_wakes 19 = .ok (.sipush 299, 3) := by decide +kernel
theorem dX8_wakes_22 : decode cX8_wakes 22 = .ok (.invokevirtual 176, 3) := by decide +kernel
theorem dX8_wakes_25 : decode cX8_wakes 25 = .ok (.aload_n 0, 1) := by decide +kernel
theorem dX8_wakes_26 : decode cX8_wakes 26 = .ok (.getfield 26, 3) := by decide +kernel
theorem dX8_wakes_29 : decode cX8_wakes 29 = .ok (.getfield 228, 3) := by decide +kernel
theorem dX8_wakes_32 : decode cX8_wakes 32 = .ok (.iload_n 2, 1) := by decide +kernel
theorem dX8_wakes_33 : decode cX8_wakes 33 = .ok (.iaload, 1) := by decide +kernel
theorem dX8_wakes_34 : decode cX8_wakes 34 = .ok (.invokestatic 214, 3) := by decide +kernel
theorem dX8_wakes_37 : decode cX8_wakes 37 = .ok (.ireturn, 1) := by decide +kernel
theorem dX8_free_0 : decode cX8_free 0 = .ok (.iload_n 1, 1) := by decide +kernel
theorem dX8_free_1 : decode cX8_free 1 = .ok (.invokestatic 153, 3) := by decide +kernel
theorem dX8_free_4 : decode cX8_free 4 = .ok (.ifCond .eq 12, 3) := by decide +kernel
theorem dX8_free_7 : decode cX8_free 7 = .ok (.iload_n 2, 1) := by decide +kernel
theorem dX8_free_8 : decode cX8_free 8 = .ok (.iconst 0, 1) := by decide +kernel
theorem dX8_free_9 : decode cX8_free 9 = .ok (.iconst 5, 1) := by decide +kernel
theorem dX8_free_10 : decode cX8_free 10 = .ok (.invokestatic 54, 3) := by decide +kernel
theorem dX8_free_13 : decode cX8_free 13 = .ok (.ifCond .ne 5, 3) := by decide +kernel
theorem dX8_free_16 : decode cX8_free 16 = .ok (.iconst (-1), 1) := by decide +kernel
theorem dX8_free_17 : decode cX8_free 17 = .ok (.ireturn, 1) := by decide +kernel
theorem dX8_free_18 : decode cX8_free 18 = .ok (.aload_n 0, 1) := by decide +kernel
theorem dX8_free_19 : decode cX8_free 19 = .ok (.iload_n 1, 1) := by decide +kernel
theorem dX8_free_20 : decode cX8_free 20 = .ok (.sipush 299, 3) := by decide +kernel
theorem dX8_free_23 : decode cX8_free 23 = .ok (.invokevirtual 176, 3) := by decide +kernel
theorem dX8_free_26 : decode cX8_free 26 = .ok (.bipush (-2), 2) := by decide +kernel
theorem dX8_free_28 : decode cX8_free 28 = .ok (.istore_n 3, 1) := by decide +kernel
theorem dX8_free_29 : decode cX8_free 29 = .ok (.iconst 0, 1) := by decide +kernel
theorem dX8_free_30 : decode cX8_free 30 = .ok (.istore 4, 2) := by decide +kernel
theorem dX8_free_32 : decode cX8_free 32 = .ok (.iload 4, 2) := by decide +kernel
theorem dX8_free_34 : decode cX8_free 34 = .ok (.aload_n 0, 1) := by decide +kernel
theorem dX8_free_35 : decode cX8_free 35 = .ok (.getfield 10, 3) := by decide +kernel
theorem dX8_free_38 : decode cX8_free 38 = .ok (.getfield 62, 3) := by decide +kernel
theorem dX8_free_41 : decode cX8_free 41 = .ok (.if_icmp .ge 60, 3) := by decide +kernel
theorem dX8_free_44 : decode cX8_free 44 = .ok (.aload_n 0, 1) := by decide +kernel
theorem dX8_free_45 : decode cX8_free 45 = .ok (.getfield 10, 3) := by decide +kernel
theorem dX8_free_48 : decode cX8_free 48 = .ok (.getfield 66, 3) := by decide +kernel
theorem dX8_free_51 : decode cX8_free 51 = .ok (.iload 4, 2) := by decide +kernel
theorem dX8_free_53 : decode cX8_free 53 = .ok (.aaload, 1) := by decide +kernel
theorem dX8_free_54 : decode cX8_free 54 = .ok (.getfield 86, 3) := by decide +kernel
theorem dX8_free_57 : decode cX8_free 57 = .ok (.iconst 1, 1) := by decide +kernel
theorem dX8_free_58 : decode cX8_free 58 = .ok (.iaload, 1) := by decide +kernel
theorem dX8_free_59 : decode cX8_free 59 = .ok (.iload_n 2, 1) := by decide +kernel
theorem dX8_free_60 : decode cX8_free 60 = .ok (.if_icmp .ne 35, 3) := by decide +kernel
theorem dX8_free_63 : decode cX8_free 63 = .ok (.aload_n 0, 1) := by decide +kernel
theorem dX8_free_64 : decode cX8_free 64 = .ok (.getfield 26, 3) := by decide +kernel
theorem dX8_free_67 : decode cX8_free 67 = .ok (.getfield 211, 3) := by decide +kernel
theorem dX8_free_70 : decode cX8_free 70 = .ok (.iload 4, 2) := by decide +kernel
theorem dX8_free_72 : decode cX8_free 72 = .ok (.iaload, 1) := by decide +kernel
theorem dX8_free_73 : decode cX8_free 73 = .ok (.iconst (-1), 1) := by decide +kernel
theorem dX8_free_74 : decode cX8_free 74 = .ok (.if_icmp .ne 6, 3) := by decide +kernel
theorem dX8_free_77 : decode cX8_free 77 = .ok (.bipush (-4), 2) := by decide +kernel
theorem dX8_free_79 : decode cX8_free 79 = .ok (.ireturn, 1) := by decide +kernel
theorem dX8_free_80 : decode cX8_free 80 = .ok (.iload_n 3, 1) := by decide +kernel
theorem dX8_free_81 : decode cX8_free 81 = .ok (.aload_n 0, 1) := by decide +kernel
theorem dX8_free_82 : decode cX8_free 82 = .ok (.getfield 26, 3) := by decide +kernel
theorem dX8_free_85 : decode cX8_free 85 = .ok (.getfield 211, 3) := by decide +kernel
theorem dX8_free_88 : decode cX8_free 88 = .ok (.iload 4, 2) := by decide +kernel
theorem dX8_free_90 : decode cX8_free 90 = .ok (.iaload, 1) := by decide +kernel
theorem dX8_free_91 : decode cX8_free 91 = .ok (.invokestatic 231, 3) := by decide +kernel
theorem dX8_free_94 : decode cX8_free 94 = .ok (.istore_n 3, 1) := by decide +kernel
theorem dX8_free_95 : decode cX8_free 95 = .ok (.iinc 4 1, 3) := by decide +kernel
theorem dX8_free_98 : decode cX8_free 98 = .ok (.goto (-66), 3) := by decide +kernel
theorem dX8_free_101 : decode cX8_free 101 = .ok (.iload_n 3, 1) := by decide +kernel
theorem dX8_free_102 : decode cX8_free 102 = .ok (.ireturn, 1) := by decide +kernel
theorem dX8_rank_0 : decode cX8_rank 0 = .ok (.iload_n 1, 1) := by decide +kernel
theorem dX8_rank_1 : decode cX8_rank 1 = .ok (.invokestatic 153, 3) := by decide +kernel
theorem dX8_rank_4 : decode cX8_rank 4 = .ok (.ifCond .eq 14, 3) := by decide +kernel
theorem dX8_rank_7 : decode cX8_rank 7 = .ok (.iload_n 2, 1) := by decide +kernel
theorem dX8_rank_8 : decode cX8_rank 8 = .ok (.invokestatic 58, 3) := by decide +kernel
theorem dX8_rank_11 : decode cX8_rank 11 = .ok (.ifCond .eq 7, 3) := by decide +kernel
theorem dX8_rank_14 : decode cX8_rank 14 = .ok (.iload_n 3, 1) := by decide +kernel
theorem dX8_rank_15 : decode cX8_rank 15 = .ok (.ifCond .ge 5, 3) := by decide +kernel
theorem dX8_rank_18 : decode cX8_rank 18 = .ok (.iconst (-1), 1) := by decide +kernel
theorem dX8_rank_19 : decode cX8_rank 19 = .ok (.ireturn, 1) := by decide +kernel
theorem dX8_rank_20 : decode cX8_rank 20 = .ok (.aload_n 0, 1) := by decide +kernel
theorem dX8_rank_21 : decode cX8_rank 21 = .ok (.iload_n 1, 1) := by decide +kernel
theorem dX8_rank_22 : decode cX8_rank 22 = .ok (.iload_n 2, 1) := by decide +kernel
theorem dX8_rank_23 : decode cX8_rank 23 = .ok (.invokevirtual 176, 3) := by decide +kernel
theorem dX8_rank_26 : decode cX8_rank 26 = .ok (.aload_n 0, 1) := by decide +kernel
theorem dX8_rank_27 : decode cX8_rank 27 = .ok (.getfield 26, 3) := by decide +kernel
theorem dX8_rank_30 : decode cX8_rank 30 = .ok (.invokevirtual 221, 3) := by decide +kernel
theorem dX8_rank_33 : decode cX8_rank 33 = .ok (.aload_n 0, 1) := by decide +kernel
theorem dX8_rank_34 : decode cX8_rank 34 = .ok (.getfield 26, 3) := by decide +kernel
theorem dX8_rank_37 : decode cX8_rank 37 = .ok (.invokevirtual 236, 3) := by decide +kernel
theorem dX8_rank_40 : decode cX8_rank 40 = .ok (.istore 4, 2) := by decide +kernel
theorem dX8_rank_42 : decode cX8_rank 42 = .ok (.iload_n 3, 1) := by decide +kernel
theorem dX8_rank_43 : decode cX8_rank 43 = .ok (.iload 4, 2) := by decide +kernel
theorem dX8_rank_45 : decode cX8_rank 45 = .ok (.if_icmp .ge 21, 3) := by decide +kernel
theorem dX8_rank_48 : decode cX8_rank 48 = .ok (.iload_n 3, 1) := by decide +kernel
theorem dX8_rank_49 : decode cX8_rank 49 = .ok (.bipush 8, 2) := by decide +kernel
theorem dX8_rank_51 : decode cX8_rank 51 = .ok (.if_icmp .ge 15, 3) := by decide +kernel
theorem dX8_rank_54 : decode cX8_rank 54 = .ok (.aload_n 0, 1) := by decide +kernel
theorem dX8_rank_55 : decode cX8_rank 55 = .ok (.getfield 26, 3) := by decide +kernel
theorem dX8_rank_58 : decode cX8_rank 58 = .ok (.getfield 239, 3) := by decide +kernel
theorem dX8_rank_61 : decode cX8_rank 61 = .ok (.iload_n 3, 1) := by decide +kernel
theorem dX8_rank_62 : decode cX8_rank 62 = .ok (.iaload, 1) := by decide +kernel
theorem dX8_rank_63 : decode cX8_rank 63 = .ok (.goto 5, 3) := by decide +kernel
theorem dX8_rank_66 : decode cX8_rank 66 = .ok (.bipush (-4), 2) := by decide +kernel
theorem dX8_rank_68 : decode cX8_rank 68 = .ok (.ireturn, 1) := by decide +kernel
theorem dX8_best_0 : decode cX8_best 0 = .ok (.iload_n 1, 1) := by decide +kernel
theorem dX8_best_1 : decode cX8_best 1 = .ok (.invokestatic 153, 3) := by decide +kernel
theorem dX8_best_4 : decode cX8_best 4 = .ok (.ifCond .eq 31, 3) := by decide +kernel
theorem dX8_best_7 : decode cX8_best 7 = .ok (.iload_n 2, 1) := by decide +kernel
theorem dX8_best_8 : decode cX8_best 8 = .ok (.iconst 1, 1) := by decide +kernel
theorem dX8_best_9 : decode cX8_best 9 = .ok (.iconst 3, 1) := by decide +kernel
theorem dX8_best_10 : decode cX8_best 10 = .ok (.invokestatic 54, 3) := by decide +kernel
theorem dX8_best_13 : decode cX8_best 13 = .ok (.ifCond .eq 22, 3) := by decide +kernel
theorem dX8_best_16 : decode cX8_best 16 = .ok (.iload_n 3, 1) := by decide +kernel
theorem dX8_best_17 : decode cX8_best 17 = .ok (.invokestatic 58, 3) := by decide +kernel
theorem dX8_best_20 : decode cX8_best 20 = .ok (.ifCond .eq 15, 3) := by decide +kernel
theorem dX8_best_23 : decode cX8_best 23 = .ok (.iload 4, 2) := by decide +kernel
theorem dX8_best_25 : decode cX8_best 25 = .ok (.iconst 0, 1) := by decide +kernel
theorem dX8_best_26 : decode cX8_best 26 = .ok (.iload_n 2, 1) := by decide +kernel
theorem dX8_best_27 : decode cX8_best 27 = .ok (.iconst 1, 1) := by decide +kernel
theorem dX8_best_28 : decode cX8_best 28 = .ok (.isub, 1) := by decide +kernel
theorem dX8_best_29 : decode cX8_best 29 = .ok (.invokestatic 54, 3) := by decide +kernel
theorem dX8_best_32 : decode cX8_best 32 = .ok (.ifCond .ne 6, 3) := by decide +kernel
theorem dX8_best_35 : decode cX8_best 35 = .ok (.bipush (-101), 2) := by decide +kernel
theorem dX8_best_37 : decode cX8_best 37 = .ok (.ireturn, 1) := by decide +kernel
theorem dX8_best_38 : decode cX8_best 38 = .ok (.iload_n 2, 1) := by decide +kernel
theorem dX8_best_39 : decode cX8_best 39 = .ok (.aload_n 0, 1) := by decide +kernel
theorem dX8_best_40 : decode cX8_best 40 = .ok (.getfield 10, 3) := by decide +kernel
theorem dX8_best_43 : decode cX8_best 43 = .ok (.getfield 93, 3) := by decide +kernel
theorem dX8_best_46 : decode cX8_best 46 = .ok (.if_icmp .le 6, 3) := by decide +kernel
theorem dX8_best_49 : decode cX8_best 49 = .ok (.bipush (-102), 2) := by decide +kernel
theorem dX8_best_51 : decode cX8_best 51 = .ok (.ireturn, 1) := by decide +kernel
theorem dX8_best_52 : decode cX8_best 52 = .ok (.aload_n 0, 1) := by decide +kernel
theorem dX8_best_53 : decode cX8_best 53 = .ok (.getfield 36, 3) := by decide +kernel
theorem dX8_best_56 : decode cX8_best 56 = .ok (.aload_n 0, 1) := by decide +kernel
theorem dX8_best_57 : decode cX8_best 57 = .ok (.getfield 10, 3) := by decide +kernel
theorem dX8_best_60 : decode cX8_best 60 = .ok (.iload_n 1, 1) := by decide +kernel
theorem dX8_best_61 : decode cX8_best 61 = .ok (.iload_n 2, 1) := by decide +kernel
theorem dX8_best_62 : decode cX8_best 62 = .ok (.iload_n 3, 1) := by decide +kernel
theorem dX8_best_63 : decode cX8_best 63 = .ok (.invokevirtual 242, 3) := by decide +kernel
theorem dX8_best_66 : decode cX8_best 66 = .ok (.aload_n 0, 1) := by decide +kernel
theorem dX8_best_67 : decode cX8_best 67 = .ok (.getfield 36, 3) := by decide +kernel
theorem dX8_best_70 : decode cX8_best 70 = .ok (.getfield 246, 3) := by decide +kernel
theorem dX8_best_73 : decode cX8_best 73 = .ok (.iload 4, 2) := by decide +kernel
theorem dX8_best_75 : decode cX8_best 75 = .ok (.iaload, 1) := by decide +kernel
theorem dX8_best_76 : decode cX8_best 76 = .ok (.ireturn, 1) := by decide +kernel
theorem dX8_least_0 : decode cX8_least 0 = .ok (.iload_n 1, 1) := by decide +kernel
theorem dX8_least_1 : decode cX8_least 1 = .ok (.invokestatic 153, 3) := by decide +kernel
theorem dX8_least_4 : decode cX8_least 4 = .ok (.ifCond .eq 19, 3) := by decide +kernel
theorem dX8_least_7 : decode cX8_least 7 = .ok (.iload_n 2, 1) := by decide +kernel
theorem dX8_least_8 : decode cX8_least 8 = .ok (.iconst 1, 1) := by decide +kernel
theorem dX8_least_9 : decode cX8_least 9 = .ok (.iconst 3, 1) := by decide +kernel
theorem dX8_least_10 : decode cX8_least 10 = .ok (.invokestatic 54, 3) := by decide +kernel
theorem dX8_least_13 : decode cX8_least 13 = .ok (.ifCond .eq 10, 3) := by decide +kernel
theorem dX8_least_16 : decode cX8_least 16 = .ok (.iload_n 3, 1) := by decide +kernel
theorem dX8_least_17 : decode cX8_least 17 = .ok (.invokestatic 58, 3) := by decide +kernel
theorem dX8_least_20 : decode cX8_least 20 = .ok (.ifCond .ne 7, 3) := by decide +kernel
theorem dX8_least_23 : decode cX8_least 23 = .ok (.ldc2_w 174, 3) := by decide +kernel
theorem dX8_least_26 : decode cX8_least 26 = .ok (.lreturn, 1) := by decide +kernel
theorem dX8_least_27 : decode cX8_least 27 = .ok (.iload_n 2, 1) := by decide +kernel
theorem dX8_least_28 : decode cX8_least 28 = .ok (.aload_n 0, 1) := by decide +kernel
theorem dX8_least_29 : decode cX8_least 29 = .ok (.getfield 10, 3) := by decide +kernel
theorem dX8_least_32 : decode cX8_least 32 = .ok (.getfield 93, 3) := by decide +kernel
theorem dX8_least_35 : decode cX8_least 35 = .ok (.if_icmp .le 7, 3) := by decide +kernel
theorem dX8_least_38 : decode cX8_least 38 = .ok (.ldc2_w 249, 3) := by decide +kernel
theorem dX8_least_41 : decode cX8_least 41 = .ok (.lreturn, 1) := by decide +kernel
theorem dX8_least_42 : decode cX8_least 42 = .ok (.aload_n 0, 1) := by decide +kernel
theorem dX8_least_43 : decode cX8_least 43 = .ok (.getfield 36, 3) := by decide +kernel
theorem dX8_least_46 : decode cX8_least 46 = .ok (.aload_n 0, 1) := by decide +kernel
theorem dX8_least_47 : decode cX8_least 47 = .ok (.getfield 10, 3) := by decide +kernel
theorem dX8_least_50 : decode cX8_least 50 = .ok (.iload_n 1, 1) := by decide +kernel
theorem dX8_least_51 : decode cX8_least 51 = .ok (.iload_n 2, 1) := by decide +kernel
theorem dX8_least_52 : decode cX8_least 52 = .ok (.iload_n 3, 1) := by decide +kernel
theorem dX8_least_53 : decode cX8_least 53 = .ok (.invokevirtual 242, 3) := by decide +kernel
theorem dX8_least_56 : decode cX8_least 56 = .ok (.aload_n 0, 1) := by decide +kernel
theorem dX8_least_57 : decode cX8_least 57 = .ok (.getfield 36, 3) := by decide +kernel
theorem dX8_least_60 : decode cX8_least 60 = .ok (.getfield 251, 3) := by decide +kernel
theorem dX8_least_63 : decode cX8_least 63 = .ok (.lreturn, 1) := by decide +kernel
theorem dX8_answer_0 : decode cX8_answer 0 = .ok (.iload_n 1, 1) := by decide +kernel
theorem dX8_answer_1 : decode cX8_answer 1 = .ok (.invokestatic 153, 3) := by decide +kernel
theorem dX8_answer_4 : decode cX8_answer 4 = .ok (.ifCond .eq 18, 3) := by decide +kernel
theorem dX8_answer_7 : decode cX8_answer 7 = .ok (.aload_n 0, 1) := by decide +kernel
theorem dX8_answer_8 : decode cX8_answer 8 = .ok (.iload_n 2, 1) := by decide +kernel
theorem dX8_answer_9 : decode cX8_answer 9 = .ok (.invokevirtual 113, 3) := by decide +kernel
theorem dX8_answer_12 : decode cX8_answer 12 = .ok (.ifCond .eq 10, 3) := by decide +kernel
theorem dX8_answer_15 : decode cX8_answer 15 = .ok (.iload_n 3, 1) := by decide +kernel
theorem dX8_answer_16 : decode cX8_answer 16 = .ok (.invokestatic 58, 3) := by decide +kernel
theorem dX8_answer_19 : decode cX8_answer 19 = .ok (.ifCond .ne 6, 3) := by decide +kernel
theorem dX8_answer_22 : decode cX8_answer 22 = .ok (.bipush (-101), 2) := by decide +kernel
theorem dX8_answer_24 : decode cX8_answer 24 = .ok (.ireturn, 1) := by decide +kernel
theorem dX8_answer_25 : decode cX8_answer 25 = .ok (.ldc2_w 174, 3) := by decide +kernel
theorem dX8_answer_28 : decode cX8_answer 28 = .ok (.lstore 4, 2) := by decide +kernel
theorem dX8_answer_30 : decode cX8_answer 30 = .ok (.iconst (-1), 1) := by decide +kernel
theorem dX8_answer_31 : decode cX8_answer 31 = .ok (.istore 6, 2) := by decide +kernel
theorem dX8_answer_33 : decode cX8_answer 33 = .ok (.iconst (-1), 1) := by decide +kernel
theorem dX8_answer_34 : decode cX8_answer 34 = .ok (.istore 7, 2) := by decide +kernel
theorem dX8_answer_36 : decode cX8_answer 36 = .ok (.iload 7, 2) := by decide +kernel
theorem dX8_answer_38 : decode cX8_answer 38 = .ok (.aload_n 0, 1) := by decide +kernel
theorem dX8_answer_39 : decode cX8_answer 39 = .ok (.getfield 10, 3) := by decide +kernel
theorem dX8_answer_42 : decode cX8_answer 42 = .ok (.getfield 62, 3) := by decide +kernel
theorem dX8_answer_45 : decode cX8_answer 45 = .ok (.if_icmp .ge 71, 3) := by decide +kernel
theorem dX8_answer_48 : decode cX8_answer 48 = .ok (.aload_n 0, 1) := by decide +kernel
theorem dX8_answer_49 : decode cX8_answer 49 = .ok (.getfield 26, 3) := by decide +kernel
theorem dX8_answer_52 : decode cX8_answer 52 = .ok (.aload_n 0, 1) := by decide +kernel
theorem dX8_answer_53 : decode cX8_answer 53 = .ok (.getfield 10, 3) := by decide +kernel
theorem dX8_answer_56 : decode cX8_answer 56 = .ok (.iload_n 1, 1) := by decide +kernel
theorem dX8_answer_57 : decode cX8_answer 57 = .ok (.invokevirtual 193, 3) := by decide +kernel
theorem dX8_answer_60 : decode cX8_answer 60 = .ok (.aload_n 0, 1) := by decide +kernel
theorem dX8_answer_61 : decode cX8_answer 61 = .ok (.getfield 26, 3) := by decide +kernel
theorem dX8_answer_64 : decode cX8_answer 64 = .ok (.getfield 254, 3) := by decide +kernel
theorem dX8_answer_67 : decode cX8_answer 67 = .ok (.getfield 119, 3) := by decide +kernel
theorem dX8_answer_70 : decode cX8_answer 70 = .ok (.iload_n 2, 1) := by decide +kernel
theorem dX8_answer_71 : decode cX8_answer 71 = .ok (.aaload, 1) := by decide +kernel
theorem dX8_answer_72 : decode cX8_answer 72 = .ok (.iload 7, 2) := by decide +kernel
theorem dX8_answer_74 : decode cX8_answer 74 = .ok (.putfield 128, 3) := by decide +kernel
theorem dX8_answer_77 : decode cX8_answer 77 = .ok (.aload_n 0, 1) := by decide +kernel
theorem dX8_answer_78 : decode cX8_answer 78 = .ok (.getfield 26, 3) := by decide +kernel
theorem dX8_answer_81 : decode cX8_answer 81 = .ok (.iload_n 3, 1) := by decide +kernel
theorem dX8_answer_82 : decode cX8_answer 82 = .ok (.invokevirtual 255, 3) := by decide +kernel
theorem dX8_answer_85 : decode cX8_answer 85 = .ok (.aload_n 0, 1) := by decide +kernel
theorem dX8_answer_86 : decode cX8_answer 86 = .ok (.getfield 26, 3) := by decide +kernel
theorem dX8_answer_89 : decode cX8_answer 89 = .ok (.invokevirtual 189, 3) := by decide +kernel
theorem dX8_answer_92 : decode cX8_answer 92 = .ok (.lstore 8, 2) := by decide +kernel
theorem dX8_answer_94 : decode cX8_answer 94 = .ok (.lload 8, 2) := by decide +kernel
theorem dX8_answer_96 : decode cX8_answer 96 = .ok (.lload 4, 2) := by decide +kernel
theorem dX8_answer_98 : decode cX8_answer 98 = .ok (.lcmp, 1) := by decide +kernel
theorem dX8_answer_99 : decode cX8_answer 99 = .ok (.ifCond .le 11, 3) := by decide +kernel
theorem dX8_answer_102 : decode cX8_answer 102 = .ok (.lload 8, 2) := by decide +kernel
theorem dX8_answer_104 : decode cX8_answer 104 = .ok (.lstore 4, 2) := by decide +kernel
theorem dX8_answer_106 : decode cX8_answer 106 = .ok (.iload 7, 2) := by decide +kernel
theorem dX8_answer_108 : decode cX8_answer 108 = .ok (.istore 6, 2) := by decide +kernel
theorem dX8_answer_110 : decode cX8_answer 110 = .ok (.iinc 7 1, 3) := by decide +kernel
theorem dX8_answer_113 : decode cX8_answer 113 = .ok (.goto (-77), 3) := by decide +kernel
theorem dX8_answer_116 : decode cX8_answer 116 = .ok (.iload 6, 2) := by decide +kernel
theorem dX8_answer_118 : decode cX8_answer 118 = .ok (.ireturn, 1) := by decide +kernel
theorem dX8_hangs_0 : decode cX8_hangs 0 = .ok (.iload_n 1, 1) := by decide +kernel
theorem dX8_hangs_1 : decode cX8_hangs 1 = .ok (.invokestatic 153, 3) := by decide +kernel
theorem dX8_hangs_4 : decode cX8_hangs 4 = .ok (.ifCond .eq 50, 3) := by decide +kernel
theorem dX8_hangs_7 : decode cX8_hangs 7 = .ok (.aload_n 0, 1) := by decide +kernel
theorem dX8_hangs_8 : decode cX8_hangs 8 = .ok (.iload_n 2, 1) := by decide +kernel
theorem dX8_hangs_9 : decode cX8_hangs 9 = .ok (.invokevirtual 113, 3) := by decide +kernel
theorem dX8_hangs_12 : decode cX8_hangs 12 = .ok (.ifCond .eq 42, 3) := by decide +kernel
theorem dX8_hangs_15 : decode cX8_hangs 15 = .ok (.iload_n 3, 1) := by decide +kernel
theorem dX8_hangs_16 : decode cX8_hangs 16 = .ok (.invokestatic 58, 3) := by decide +kernel
theorem dX8_hangs_19 : decode cX8_hangs 19 = .ok (.ifCond .eq 35, 3) := by decide +kernel
theorem dX8_hangs_22 : decode cX8_hangs 22 = .ok (.iload 4, 2) := by decide +kernel
theorem dX8_hangs_24 : decode cX8_hangs 24 = .ok (.invokestatic 58, 3) := by decide +kernel
theorem dX8_hangs_27 : decode cX8_hangs 27 = .ok (.ifCond .eq 27, 3) := by decide +kernel
theorem dX8_hangs_30 : decode cX8_hangs 30 = .ok (.iload 5, 2) := by decide +kernel
theorem dX8_hangs_32 : decode cX8_hangs 32 = .ok (.invokestatic 58, 3) := by decide +kernel
theorem dX8_hangs_35 : decode cX8_hangs 35 = .ok (.ifCond .eq 19, 3) := by decide +kernel
theorem dX8_hangs_38 : decode cX8_hangs 38 = .ok (.iload 6, 2) := by decide +kernel
theorem dX8_hangs_40 : decode cX8_hangs 40 = .ok (.iconst 0, 1) := by decide +kernel
theorem dX8_hangs_41 : decode cX8_hangs 41 = .ok (.iconst 1, 1) := by decide +kernel
theorem dX8_hangs_42 : decode cX8_hangs 42 = .ok (.invokestatic 54, 3) := by decide +kernel
theorem dX8_hangs_45 : decode cX8_hangs 45 = .ok (.ifCond .eq 9, 3) := by decide +kernel
theorem dX8_hangs_48 : decode cX8_hangs 48 = .ok (.iload_n 3, 1) := by decide +kernel
theorem dX8_hangs_49 : decode cX8_hangs 49 = .ok (.iload 4, 2) := by decide +kernel
theorem dX8_hangs_51 : decode cX8_hangs 51 = .ok (.if_icmp .le 7, 3) := by decide +kernel
theorem dX8_hangs_54 : decode cX8_hangs 54 = .ok (.ldc2_w 174, 3) := by decide +kernel
theorem dX8_hangs_57 : decode cX8_hangs 57 = .ok (.lreturn, 1) := by decide +kernel
theorem dX8_hangs_58 : decode cX8_hangs 58 = .ok (.iload 4, 2) := by decide +kernel
theorem dX8_hangs_60 : decode cX8_hangs 60 = .ok (.iload_n 3, 1) := by decide +kernel
theorem dX8_hangs_61 : decode cX8_hangs 61 = .ok (.iload 5, 2) := by decide +kernel
theorem dX8_hangs_63 : decode cX8_hangs 63 = .ok (.iconst 1, 1) := by decide +kernel
theorem dX8_hangs_64 : decode cX8_hangs 64 = .ok (.iadd, 1) := by decide +kernel
theorem dX8_hangs_65 : decode cX8_hangs 65 = .ok (.invokestatic 231, 3) := by decide +kernel
theorem dX8_hangs_68 : decode cX8_hangs 68 = .ok (.invokestatic 257, 3) := by decide +kernel
theorem dX8_hangs_71 : decode cX8_hangs 71 = .ok (.istore 7, 2) := by decide +kernel
theorem dX8_hangs_73 : decode cX8_hangs 73 = .ok (.lconst 0, 1) := by decide +kernel
theorem dX8_hangs_74 : decode cX8_hangs 74 = .ok (.lstore 8, 2) := by decide +kernel
theorem dX8_hangs_76 : decode cX8_hangs 76 = .ok (.iload_n 3, 1) := by decide +kernel
theorem dX8_hangs_77 : decode cX8_hangs 77 = .ok (.istore 10, 2) := by decide +kernel
theorem dX8_hangs_79 : decode cX8_hangs 79 = .ok (.iload 10, 2) := by decide +kernel
theorem dX8_hangs_81 : decode cX8_hangs 81 = .ok (.iload 7, 2) := by decide +kernel
theorem dX8_hangs_83 : decode cX8_hangs 83 = .ok (.if_icmp .gt 93, 3) := by decide +kernel
theorem dX8_hangs_86 : decode cX8_hangs 86 = .ok (.aload_n 0, 1) := by decide +kernel
theorem dX8_hangs_87 : decode cX8_hangs 87 = .ok (.getfield 26, 3) := by decide +kernel
theorem dX8_hangs_90 : decode cX8_hangs 90 = .ok (.aload_n 0, 1) := by decide +kernel
theorem dX8_hangs_91 : decode cX8_hangs 91 = .ok (.getfield 10, 3) := by decide +kernel
theorem dX8_hangs_94 : decode cX8_hangs 94 = .ok (.iload_n 1, 1) := by decide +kernel
theorem dX8_hangs_95 : decode cX8_hangs 95 = .ok (.invokevirtual 193, 3) := by decide +kernel
theorem dX8_hangs_98 : decode cX8_hangs 98 = .ok (.aload_n 0, 1) := by decide +kernel
theorem dX8_hangs_99 : decode cX8_hangs 99 = .ok (.getfield 26, 3) := by decide +kernel
theorem dX8_hangs_102 : decode cX8_hangs 102 = .ok (.getfield 254, 3) := by decide +kernel
theorem dX8_hangs_105 : decode cX8_hangs 105 = .ok (.getfield 119, 3) := by decide +kernel
theorem dX8_hangs_108 : decode cX8_hangs 108 = .ok (.iload_n 2, 1) := by decide +kernel
theorem dX8_hangs_109 : decode cX8_hangs 109 = .ok (.aaload, 1) := by decide +kernel
theorem dX8_hangs_110 : decode cX8_hangs 110 = .ok (.iload 10, 2) := by decide +kernel
theorem dX8_hangs_112 : decode cX8_hangs 112 = .ok (.putfield 131, 3) := by decide +kernel
theorem dX8_hangs_115 : decode cX8_hangs 115 = .ok (.aload_n 0, 1) := by decide +kernel
theorem dX8_hangs_116 : decode cX8_hangs 116 = .ok (.getfield 26, 3) := by decide +kernel
theorem dX8_hangs_119 : decode cX8_hangs 119 = .ok (.iload 5, 2) := by decide +kernel
theorem dX8_hangs_121 : decode cX8_hangs 121 = .ok (.invokevirtual 255, 3) := by decide +kernel
theorem dX8_hangs_124 : decode cX8_hangs 124 = .ok (.aload_n 0, 1) := by decide +kernel
theorem dX8_hangs_125 : decode cX8_hangs 125 = .ok (.getfield 26, 3) := by decide +kernel
theorem dX8_hangs_128 : decode cX8_hangs 128 = .ok (.invokevirtual 189, 3) := by decide +kernel
theorem dX8_hangs_131 : decode cX8_hangs 131 = .ok (.lstore 11, 2) := by decide +kernel
theorem dX8_hangs_133 : decode cX8_hangs 133 = .ok (.iload 10, 2) := by decide +kernel
theorem dX8_hangs_135 : decode cX8_hangs 135 = .ok (.iload_n 3, 1) := by decide +kernel
theorem dX8_hangs_136 : decode cX8_hangs 136 = .ok (.if_icmp .ne 10, 3) := by decide +kernel
theorem dX8_hangs_139 : decode cX8_hangs 139 = .ok (.lload 11, 2) := by decide +kernel
theorem dX8_hangs_141 : decode cX8_hangs 141 = .ok (.lstore 8, 2) := by decide +kernel
theorem dX8_hangs_143 : decode cX8_hangs 143 = .ok (.goto 27, 3) := by decide +kernel
theorem dX8_hangs_146 : decode cX8_hangs 146 = .ok (.iload 6, 2) := by decide +kernel
theorem dX8_hangs_148 : decode cX8_hangs 148 = .ok (.ifCond .ne 13, 3) := by decide +kernel
theorem dX8_hangs_151 : decode cX8_hangs 151 = .ok (.lload 8, 2) := by decide +kernel
theorem dX8_hangs_153 : decode cX8_hangs 153 = .ok (.lload 11, 2) := by decide +kernel
theorem dX8_hangs_155 : decode cX8_hangs 155 = .ok (.invokestatic 260, 3) := by decide +kernel
theorem dX8_hangs_158 : decode cX8_hangs 158 = .ok (.goto 10, 3) := by decide +kernel
theorem dX8_hangs_161 : decode cX8_hangs 161 = .ok (.lload 8, 2) := by decide +kernel
theorem dX8_hangs_163 : decode cX8_hangs 163 = .ok (.lload 11, 2) := by decide +kernel
theorem dX8_hangs_165 : decode cX8_hangs 165 = .ok (.invokestatic 263, 3) := by decide +kernel
theorem dX8_hangs_168 : decode cX8_hangs 168 = .ok (.lstore 8, 2) := by decide +kernel
theorem dX8_hangs_170 : decode cX8_hangs 170 = .ok (.iinc 10 1, 3) := by decide +kernel
theorem dX8_hangs_173 : decode cX8_hangs 173 = .ok (.goto (-94), 3) := by decide +kernel
theorem dX8_hangs_176 : decode cX8_hangs 176 = .ok (.lload 8, 2) := by decide +kernel
theorem dX8_hangs_178 : decode cX8_hangs 178 = .ok (.lreturn, 1) := by decide +kernel
theorem dX8_plan_0 : decode cX8_plan 0 = .ok (.iload_n 1, 1) := by decide +kernel
theorem dX8_plan_1 : decode cX8_plan 1 = .ok (.invokestatic 153, 3) := by decide +kernel
theorem dX8_plan_4 : decode cX8_plan 4 = .ok (.ifCond .eq 32, 3) := by decide +kernel
theorem dX8_plan_7 : decode cX8_plan 7 = .ok (.iload_n 3, 1) := by decide +kernel
theorem dX8_plan_8 : decode cX8_plan 8 = .ok (.iload_n 2, 1) := by decide +kernel
theorem dX8_plan_9 : decode cX8_plan 9 = .ok (.invokestatic 89, 3) := by decide +kernel
theorem dX8_plan_12 : decode cX8_plan 12 = .ok (.ifCond .eq 24, 3) := by decide +kernel
theorem dX8_plan_15 : decode cX8_plan 15 = .ok (.iload 4, 2) := by decide +kernel
theorem dX8_plan_17 : decode cX8_plan 17 = .ok (.iconst 1, 1) := by decide +kernel
theorem dX8_plan_18 : decode cX8_plan 18 = .ok (.bipush 60, 2) := by decide +kernel
theorem dX8_plan_20 : decode cX8_plan 20 = .ok (.invokestatic 54, 3) := by decide +kernel
theorem dX8_plan_23 : decode cX8_plan 23 = .ok (.ifCond .eq 13, 3) := by decide +kernel
theorem dX8_plan_26 : decode cX8_plan 26 = .ok (.iload 5, 2) := by decide +kernel
theorem dX8_plan_28 : decode cX8_plan 28 = .ok (.iconst 0, 1) := by decide +kernel
theorem dX8_plan_29 : decode cX8_plan 29 = .ok (.iconst 1, 1) := by decide +kernel
theorem dX8_plan_30 : decode cX8_plan 30 = .ok (.invokestatic 54, 3) := by decide +kernel
theorem dX8_plan_33 : decode cX8_plan 33 = .ok (.ifCond .ne 7, 3) := by decide +kernel
theorem dX8_plan_36 : decode cX8_plan 36 = .ok (.ldc2_w 174, 3) := by decide +kernel
theorem dX8_plan_39 : decode cX8_plan 39 = .ok (.lreturn, 1) := by decide +kernel
theorem dX8_plan_40 : decode cX8_plan 40 = .ok (.aload_n 0, 1) := by decide +kernel
theorem dX8_plan_41 : decode cX8_plan 41 = .ok (.getfield 26, 3) := by decide +kernel
theorem dX8_plan_44 : decode cX8_plan 44 = .ok (.aload_n 0, 1) := by decide +kernel
theorem dX8_plan_45 : decode cX8_plan 45 = .ok (.getfield 10, 3) := by decide +kernel
theorem dX8_plan_48 : decode cX8_plan 48 = .ok (.iload_n 1, 1) := by decide +kernel
theorem dX8_plan_49 : decode cX8_plan 49 = .ok (.invokevirtual 193, 3) := by decide +kernel
theorem dX8_plan_52 : decode cX8_plan 52 = .ok (.iload_n 3, 1) := by decide +kernel
theorem dX8_plan_53 : decode cX8_plan 53 = .ok (.istore 6, 2) := by decide +kernel
theorem dX8_plan_55 : decode cX8_plan 55 = .ok (.iload 6, 2) := by decide +kernel
theorem dX8_plan_57 : decode cX8_plan 57 = .ok (.sipush 299, 3) := by decide +kernel
theorem dX8_plan_60 : decode cX8_plan 60 = .ok (.if_icmp .gt 67, 3) := by decide +kernel
theorem dX8_plan_63 : decode cX8_plan 63 = .ok (.aload_n 0, 1) := by decide +kernel
theorem dX8_plan_64 : decode cX8_plan 64 = .ok (.getfield 26, 3) := by decide +kernel
theorem dX8_plan_67 : decode cX8_plan 67 = .ok (.iload 6, 2) := by decide +kernel
theorem dX8_plan_69 : decode cX8_plan 69 = .ok (.invokevirtual 255, 3) := by decide +kernel
theorem dX8_plan_72 : decode cX8_plan 72 = .ok (.aload_n 0, 1) := by decide +kernel
theorem dX8_plan_73 : decode cX8_plan 73 = .ok (.getfield 26, 3) := by decide +kernel
theorem dX8_plan_76 : decode cX8_plan 76 = .ok (.iload_n 2, 1) := by decide +kernel
theorem dX8_plan_77 : decode cX8_plan 77 = .ok (.i2l, 1) := by decide +kernel
theorem dX8_plan_78 : decode cX8_plan 78 = .ok (.ldc2_w 265, 3) := by decide +kernel
theorem dX8_plan_81 : decode cX8_plan 81 = .ok (.lmul, 1) := by decide +kernel
theorem dX8_plan_82 : decode cX8_plan 82 = .ok (.iconst (-1), 1) := by decide +kernel
theorem dX8_plan_83 : decode cX8_plan 83 = .ok (.invokevirtual 267, 3) := by decide +kernel
theorem dX8_plan_86 : decode cX8_plan 86 = .ok (.aload_n 0, 1) := by decide +kernel
theorem dX8_plan_87 : decode cX8_plan 87 = .ok (.getfield 26, 3) := by decide +kernel
theorem dX8_plan_90 : decode cX8_plan 90 = .ok (.invokevirtual 189, 3) := by decide +kernel
theorem dX8_plan_93 : decode cX8_plan 93 = .ok (.lconst 0, 1) := by decide +kernel
theorem dX8_plan_94 : decode cX8_plan 94 = .ok (.lcmp, 1) := by decide +kernel
theorem dX8_plan_95 : decode cX8_plan 95 = .ok (.ifCond .ne 22, 3) := by decide +kernel
theorem dX8_plan_98 : decode cX8_plan 98 = .ok (.iload 5, 2) := by decide +kernel
theorem dX8_plan_100 : decode cX8_plan 100 = .ok (.ifCond .ne 9, 3) := by decide +kernel
theorem dX8_plan_103 : decode cX8_plan 103 = .ok (.iload 6, 2) := by decide +kernel
theorem dX8_plan_105 : decode cX8_plan 105 = .ok (.i2l, 1) := by decide +kernel
theorem dX8_plan_106 : decode cX8_plan 106 = .ok (.goto 10, 3) := by decide +kernel
theorem dX8_plan_109 : decode cX8_plan 109 = .ok (.aload_n 0, 1) := by decide +kernel
theorem dX8_plan_110 : decode cX8_plan 110 = .ok (.getfield 26, 3) := by decide +kernel
theorem dX8_plan_113 : decode cX8_plan 113 = .ok (.getfield 200, 3) := by decide +kernel
theorem dX8_plan_116 : decode cX8_plan 116 = .ok (.lreturn, 1) := by decide +kernel
theorem dX8_plan_117 : decode cX8_plan 117 = .ok (.iload 6, 2) := by decide +kernel
theorem dX8_plan_119 : decode cX8_plan 119 = .ok (.iload 4, 2) := by decide +kernel
theorem dX8_plan_121 : decode cX8_plan 121 = .ok (.iadd, 1) := by decide +kernel
theorem dX8_plan_122 : decode cX8_plan 122 = .ok (.istore 6, 2) := by decide +kernel
theorem dX8_plan_124 : decode cX8_plan 124 = .ok (.goto (-69), 3) := by decide +kernel
theorem dX8_plan_127 : decode cX8_plan 127 = .ok (.ldc2_w 271, 3) := by decide +kernel
theorem dX8_plan_130 : decode cX8_plan 130 = .ok (.lreturn, 1) := by decide +kernel
theorem dX8_parts_0 : decode cX8_parts 0 = .ok (.aload_n 0, 1) := by decide +kernel
theorem dX8_parts_1 : decode cX8_parts 1 = .ok (.getfield 26, 3) := by decide +kernel
theorem dX8_parts_4 : decode cX8_parts 4 = .ok (.aload_n 0, 1) := by decide +kernel
theorem dX8_parts_5 : decode cX8_parts 5 = .ok (.getfield 10, 3) := by decide +kernel
theorem dX8_parts_8 : decode cX8_parts 8 = .ok (.iconst 0, 1) := by decide +kernel
theorem dX8_parts_9 : decode cX8_parts 9 = .ok (.invokevirtual 193, 3) := by decide +kernel
theorem dX8_parts_12 : decode cX8_parts 12 = .ok (.aload_n 0, 1) := by decide +kernel
theorem dX8_parts_13 : decode cX8_parts 13 = .ok (.getfield 30, 3) := by decide +kernel
theorem dX8_parts_16 : decode cX8_parts 16 = .ok (.aload_n 0, 1) := by decide +kernel
theorem dX8_parts_17 : decode cX8_parts 17 = .ok (.getfield 10, 3) := by decide +kernel
theorem dX8_parts_20 : decode cX8_parts 20 = .ok (.iconst 1, 1) := by decide +kernel
theorem dX8_parts_21 : decode cX8_parts 21 = .ok (.invokevirtual 193, 3) := by decide +kernel
theorem dX8_parts_24 : decode cX8_parts 24 = .ok (.iconst 0, 1) := by decide +kernel
theorem dX8_parts_25 : decode cX8_parts 25 = .ok (.istore_n 1, 1) := by decide +kernel
theorem dX8_parts_26 : decode cX8_parts 26 = .ok (.iload_n 1, 1) := by decide +kernel
theorem dX8_parts_27 : decode cX8_parts 27 = .ok (.sipush 299, 3) := by decide +kernel
theorem dX8_parts_30 : decode cX8_parts 30 = .ok (.if_icmp .gt 41, 3) := by decide +kernel
theorem dX8_parts_33 : decode cX8_parts 33 = .ok (.aload_n 0, 1) := by decide +kernel
theorem dX8_parts_34 : decode cX8_parts 34 = .ok (.getfield 26, 3) := by decide +kernel
theorem dX8_parts_37 : decode cX8_parts 37 = .ok (.iload_n 1, 1) := by decide +kernel
theorem dX8_parts_38 : decode cX8_parts 38 = .ok (.invokevirtual 255, 3) := by decide +kernel
theorem dX8_parts_41 : decode cX8_parts 41 = .ok (.aload_n 0, 1) := by decide +kernel
theorem dX8_parts_42 : decode cX8_parts 42 = .ok (.getfield 30, 3) := by decide +kernel
theorem dX8_parts_45 : decode cX8_parts 45 = .ok (.iload_n 1, 1) := by decide +kernel
theorem dX8_parts_46 : decode cX8_parts 46 = .ok (.invokevirtual 255, 3) := by decide +kernel
theorem dX8_parts_49 : decode cX8_parts 49 = .ok (.aload_n 0, 1) := by decide +kernel
theorem dX8_parts_50 : decode cX8_parts 50 = .ok (.getfield 26, 3) := by decide +kernel
theorem dX8_parts_53 : decode cX8_parts 53 = .ok (.aload_n 0, 1) := by decide +kernel
theorem dX8_parts_54 : decode cX8_parts 54 = .ok (.getfield 30, 3) := by decide +kernel
theorem dX8_parts_57 : decode cX8_parts 57 = .ok (.invokevirtual 273, 3) := by decide +kernel
theorem dX8_parts_60 : decode cX8_parts 60 = .ok (.ifCond .ne 5, 3) := by decide +kernel
theorem dX8_parts_63 : decode cX8_parts 63 = .ok (.iload_n 1, 1) := by decide +kernel
theorem dX8_parts_64 : decode cX8_parts 64 = .ok (.ireturn, 1) := by decide +kernel
theorem dX8_parts_65 : decode cX8_parts 65 = .ok (.iinc 1 1, 3) := by decide +kernel
theorem dX8_parts_68 : decode cX8_parts 68 = .ok (.goto (-42), 3) := by decide +kernel
theorem dX8_parts_71 : decode cX8_parts 71 = .ok (.bipush (-4), 2) := by decide +kernel
theorem dX8_parts_73 : decode cX8_parts 73 = .ok (.ireturn, 1) := by decide +kernel
theorem dX8_gap_0 : decode cX8_gap 0 = .ok (.iload_n 1, 1) := by decide +kernel
theorem dX8_gap_1 : decode cX8_gap 1 = .ok (.invokestatic 58, 3) := by decide +kernel
theorem dX8_gap_4 : decode cX8_gap 4 = .ok (.ifCond .ne 7, 3) := by decide +kernel
theorem dX8_gap_7 : decode cX8_gap 7 = .ok (.ldc2_w 277, 3) := by decide +kernel
theorem dX8_gap_10 : decode cX8_gap 10 = .ok (.lreturn, 1) := by decide +kernel
theorem dX8_gap_11 : decode cX8_gap 11 = .ok (.aload_n 0, 1) := by decide +kernel
theorem dX8_gap_12 : decode cX8_gap 12 = .ok (.iconst 1, 1) := by decide +kernel
theorem dX8_gap_13 : decode cX8_gap 13 = .ok (.iload_n 1, 1) := by decide +kernel
theorem dX8_gap_14 : decode cX8_gap 14 = .ok (.invokevirtual 176, 3) := by decide +kernel
theorem dX8_gap_17 : decode cX8_gap 17 = .ok (.aload_n 0, 1) := by decide +kernel
theorem dX8_gap_18 : decode cX8_gap 18 = .ok (.getfield 26, 3) := by decide +kernel
theorem dX8_gap_21 : decode cX8_gap 21 = .ok (.invokevirtual 189, 3) := by decide +kernel
theorem dX8_gap_24 : decode cX8_gap 24 = .ok (.lstore_n 2, 1) := by decide +kernel
theorem dX8_gap_25 : decode cX8_gap 25 = .ok (.aload_n 0, 1) := by decide +kernel
theorem dX8_gap_26 : decode cX8_gap 26 = .ok (.iconst 0, 1) := by decide +kernel
theorem dX8_gap_27 : decode cX8_gap 27 = .ok (.iload_n 1, 1) := by decide +kernel
theorem dX8_gap_28 : decode cX8_gap 28 = .ok (.invokevirtual 176, 3) := by decide +kernel
theorem dX8_gap_31 : decode cX8_gap 31 = .ok (.lload_n 2, 1) := by decide +kernel
theorem dX8_gap_32 : decode cX8_gap 32 = .ok (.aload_n 0, 1) := by decide +kernel
theorem dX8_gap_33 : decode cX8_gap 33 = .ok (.getfield 26, 3) := by decide +kernel
theorem dX8_gap_36 : decode cX8_gap 36 = .ok (.invokevirtual 189, 3) := by decide +kernel
theorem dX8_gap_39 : decode cX8_gap 39 = .ok (.lsub, 1) := by decide +kernel
theorem dX8_gap_40 : decode cX8_gap 40 = .ok (.lreturn, 1) := by decide +kernel
theorem dX8_judge_0 : decode cX8_judge 0 = .ok (.iload_n 1, 1) := by decide +kernel
theorem dX8_judge_1 : decode cX8_judge 1 = .ok (.invokestatic 153, 3) := by decide +kernel
theorem dX8_judge_4 : decode cX8_judge 4 = .ok (.ifCond .eq 25, 3) := by decide +kernel
theorem dX8_judge_7 : decode cX8_judge 7 = .ok (.iload_n 2, 1) := by decide +kernel
theorem dX8_judge_8 : decode cX8_judge 8 = .ok (.invokestatic 58, 3) := by decide +kernel
theorem dX8_judge_11 : decode cX8_judge 11 = .ok (.ifCond .eq 18, 3) := by decide +kernel
theorem dX8_judge_14 : decode cX8_judge 14 = .ok (.iload_n 3, 1) := by decide +kernel
theorem dX8_judge_15 : decode cX8_judge 15 = .ok (.invokestatic 100, 3) := by decide +kernel
theorem dX8_judge_18 : decode cX8_judge 18 = .ok (.ifCond .eq 11, 3) := by decide +kernel
theorem dX8_judge_21 : decode cX8_judge 21 = .ok (.iload 4, 2) := by decide +kernel
theorem dX8_judge_23 : decode cX8_judge 23 = .ok (.invokestatic 103, 3) := by decide +kernel
theorem dX8_judge_26 : decode cX8_judge 26 = .ok (.ifCond .ne 5, 3) := by decide +kernel
theorem dX8_judge_29 : decode cX8_judge 29 = .ok (.iconst (-1), 1) := by decide +kernel
theorem dX8_judge_30 : decode cX8_judge 30 = .ok (.ireturn, 1) := by decide +kernel
theorem dX8_judge_31 : decode cX8_judge 31 = .ok (.aload_n 0, 1) := by decide +kernel
theorem dX8_judge_32 : decode cX8_judge 32 = .ok (.getfield 49, 3) := by decide +kernel
theorem dX8_judge_35 : decode cX8_judge 35 = .ok (.iload_n 3, 1) := by decide +kernel
theorem dX8_judge_36 : decode cX8_judge 36 = .ok (.aaload, 1) := by decide +kernel
theorem dX8_judge_37 : decode cX8_judge 37 = .ok (.iload 4, 2) := by decide +kernel
theorem dX8_judge_39 : decode cX8_judge 39 = .ok (.iload 5, 2) := by decide +kernel
theorem dX8_judge_41 : decode cX8_judge 41 = .ok (.aload_n 0, 1) := by decide +kernel
theorem dX8_judge_42 : decode cX8_judge 42 = .ok (.getfield 10, 3) := by decide +kernel
theorem dX8_judge_45 : decode cX8_judge 45 = .ok (.getfield 62, 3) := by decide +kernel
theorem dX8_judge_48 : decode cX8_judge 48 = .ok (.invokevirtual 106, 3) := by decide +kernel
theorem dX8_judge_51 : decode cX8_judge 51 = .ok (.istore 6, 2) := by decide +kernel
theorem dX8_judge_53 : decode cX8_judge 53 = .ok (.iload 6, 2) := by decide +kernel
theorem dX8_judge_55 : decode cX8_judge 55 = .ok (.ifCond .eq 6, 3) := by decide +kernel
theorem dX8_judge_58 : decode cX8_judge 58 = .ok (.iload 6, 2) := by decide +kernel
theorem dX8_judge_60 : decode cX8_judge 60 = .ok (.ireturn, 1) := by decide +kernel
theorem dX8_judge_61 : decode cX8_judge 61 = .ok (.aload_n 0, 1) := by decide +kernel
theorem dX8_judge_62 : decode cX8_judge 62 = .ok (.iload_n 1, 1) := by decide +kernel
theorem dX8_judge_63 : decode cX8_judge 63 = .ok (.iload_n 2, 1) := by decide +kernel
theorem dX8_judge_64 : decode cX8_judge 64 = .ok (.invokevirtual 176, 3) := by decide +kernel
theorem dX8_judge_67 : decode cX8_judge 67 = .ok (.iconst 0, 1) := by decide +kernel
theorem dX8_judge_68 : decode cX8_judge 68 = .ok (.istore 7, 2) := by decide +kernel
theorem dX8_judge_70 : decode cX8_judge 70 = .ok (.iload 7, 2) := by decide +kernel
theorem dX8_judge_72 : decode cX8_judge 72 = .ok (.aload_n 0, 1) := by decide +kernel
theorem dX8_judge_73 : decode cX8_judge 73 = .ok (.getfield 10, 3) := by decide +kernel
theorem dX8_judge_76 : decode cX8_judge 76 = .ok (.getfield 62, 3) := by decide +kernel
theorem dX8_judge_79 : decode cX8_judge 79 = .ok (.if_icmp .ge 49, 3) := by decide +kernel
theorem dX8_judge_82 : decode cX8_judge 82 = .ok (.aload_n 0, 1) := by decide +kernel
theorem dX8_judge_83 : decode cX8_judge 83 = .ok (.getfield 26, 3) := by decide +kernel
theorem dX8_judge_86 : decode cX8_judge 86 = .ok (.iload 7, 2) := by decide +kernel
theorem dX8_judge_88 : decode cX8_judge 88 = .ok (.invokevirtual 186, 3) := by decide +kernel
theorem dX8_judge_91 : decode cX8_judge 91 = .ok (.ldc2_w 265, 3) := by decide +kernel
theorem dX8_judge_94 : decode cX8_judge 94 = .ok (.ldiv, 1) := by decide +kernel
theorem dX8_judge_95 : decode cX8_judge 95 = .ok (.lstore 8, 2) := by decide +kernel
theorem dX8_judge_97 : decode cX8_judge 97 = .ok (.aload_n 0, 1) := by decide +kernel
theorem dX8_judge_98 : decode cX8_judge 98 = .ok (.getfield 49, 3) := by decide +kernel
theorem dX8_judge_101 : decode cX8_judge 101 = .ok (.iload_n 3, 1) := by decide +kernel
theorem dX8_judge_102 : decode cX8_judge 102 = .ok (.aaload, 1) := by decide +kernel
theorem dX8_judge_103 : decode cX8_judge 103 = .ok (.getfield 110, 3) := by decide +kernel
theorem dX8_judge_106 : decode cX8_judge 106 = .ok (.iload 5, 2) := by decide +kernel
theorem dX8_judge_108 : decode cX8_judge 108 = .ok (.iload 7, 2) := by decide +kernel
theorem dX8_judge_110 : decode cX8_judge 110 = .ok (.iadd, 1) := by decide +kernel
theorem dX8_judge_111 : decode cX8_judge 111 = .ok (.iaload, 1) := by decide +kernel
theorem dX8_judge_112 : decode cX8_judge 112 = .ok (.i2l, 1) := by decide +kernel
theorem dX8_judge_113 : decode cX8_judge 113 = .ok (.lload 8, 2) := by decide +kernel
theorem dX8_judge_115 : decode cX8_judge 115 = .ok (.lcmp, 1) := by decide +kernel
theorem dX8_judge_116 : decode cX8_judge 116 = .ok (.ifCond .eq 6, 3) := by decide +kernel
theorem dX8_judge_119 : decode cX8_judge 119 = .ok (.iload 7, 2) := by decide +kernel
theorem dX8_judge_121 : decode cX8_judge 121 = .ok (.ireturn, 1) := by decide +kernel
theorem dX8_judge_122 : decode cX8_judge 122 = .ok (.iinc 7 1, 3) := by decide +kernel
theorem dX8_judge_125 : decode cX8_judge 125 = .ok (.goto (-55), 3) := by decide +kernel
theorem dX8_judge_128 : decode cX8_judge 128 = .ok (.bipush (-4), 2) := by decide +kernel
theorem dX8_judge_130 : decode cX8_judge 130 = .ok (.ireturn, 1) := by decide +kernel
theorem dX8_image_0 : decode cX8_image 0 = .ok (.aload_n 0, 1) := by decide +kernel
theorem dX8_image_1 : decode cX8_image 1 = .ok (.getfield 16, 3) := by decide +kernel
theorem dX8_image_4 : decode cX8_image 4 = .ok (.aload_n 0, 1) := by decide +kernel
theorem dX8_image_5 : decode cX8_image 5 = .ok (.getfield 10, 3) := by decide +kernel
theorem dX8_image_8 : decode cX8_image 8 = .ok (.invokevirtual 279, 3) := by decide +kernel
theorem dX8_image_11 : decode cX8_image 11 = .ok (.aload_n 0, 1) := by decide +kernel
theorem dX8_image_12 : decode cX8_image 12 = .ok (.iconst 1, 1) := by decide +kernel
theorem dX8_image_13 : decode cX8_image 13 = .ok (.putfield 19, 3) := by decide +kernel
theorem dX8_image_16 : decode cX8_image 16 = .ok (.iconst 1, 1) := by decide +kernel
theorem dX8_image_17 : decode cX8_image 17 = .ok (.ireturn, 1) := by decide +kernel
theorem dX8_restore_0 : decode cX8_restore 0 = .ok (.aload_n 0, 1) := by decide +kernel
theorem dX8_restore_1 : decode cX8_restore 1 = .ok (.getfield 19, 3) := by decide +kernel
theorem dX8_restore_4 : decode cX8_restore 4 = .ok (.ifCond .ne 6, 3) := by decide +kernel
theorem dX8_restore_7 : decode cX8_restore 7 = .ok (.bipush (-4), 2) := by decide +kernel
theorem dX8_restore_9 : decode cX8_restore 9 = .ok (.ireturn, 1) := by decide +kernel
theorem dX8_restore_10 : decode cX8_restore 10 = .ok (.aload_n 0, 1) := by decide +kernel
theorem dX8_restore_11 : decode cX8_restore 11 = .ok (.getfield 10, 3) := by decide +kernel
theorem dX8_restore_14 : decode cX8_restore 14 = .ok (.aload_n 0, 1) := by decide +kernel
theorem dX8_restore_15 : decode cX8_restore 15 = .ok (.getfield 16, 3) := by decide +kernel
theorem dX8_restore_18 : decode cX8_restore 18 = .ok (.invokevirtual 279, 3) := by decide +kernel
theorem dX8_restore_21 : decode cX8_restore 21 = .ok (.iconst 1, 1) := by decide +kernel
theorem dX8_restore_22 : decode cX8_restore 22 = .ok (.ireturn, 1) := by decide +kernel
theorem dX8_sheet_0 : decode cX8_sheet 0 = .ok (.iload_n 1, 1) := by decide +kernel
theorem dX8_sheet_1 : decode cX8_sheet 1 = .ok (.invokestatic 100, 3) := by decide +kernel
theorem dX8_sheet_4 : decode cX8_sheet 4 = .ok (.ifCond .eq 16, 3) := by decide +kernel
theorem dX8_sheet_7 : decode cX8_sheet 7 = .ok (.iload_n 2, 1) := by decide +kernel
theorem dX8_sheet_8 : decode cX8_sheet 8 = .ok (.invokestatic 103, 3) := by decide +kernel
theorem dX8_sheet_11 : decode cX8_sheet 11 = .ok (.ifCond .eq 9, 3) := by decide +kernel
theorem dX8_sheet_14 : decode cX8_sheet 14 = .ok (.iload_n 3, 1) := by decide +kernel
theorem dX8_sheet_15 : decode cX8_sheet 15 = .ok (.bipush 24, 2) := by decide +kernel
theorem dX8_sheet_17 : decode cX8_sheet 17 = .ok (.if_icmp .le 5, 3) := by decide +kernel
theorem dX8_sheet_20 : decode cX8_sheet 20 = .ok (.iconst (-1), 1) := by decide +kernel
theorem dX8_sheet_21 : decode cX8_sheet 21 = .ok (.ireturn, 1) := by decide +kernel
theorem dX8_sheet_22 : decode cX8_sheet 22 = .ok (.iload_n 3, 1) := by decide +kernel
theorem dX8_sheet_23 : decode cX8_sheet 23 = .ok (.ifCond .ge 6, 3) := by decide +kernel
theorem dX8_sheet_26 : decode cX8_sheet 26 = .ok (.bipush (-14), 2) := by decide +kernel
theorem dX8_sheet_28 : decode cX8_sheet 28 = .ok (.ireturn, 1) := by decide +kernel
theorem dX8_sheet_29 : decode cX8_sheet 29 = .ok (.aload_n 0, 1) := by decide +kernel
theorem dX8_sheet_30 : decode cX8_sheet 30 = .ok (.getfield 49, 3) := by decide +kernel
theorem dX8_sheet_33 : decode cX8_sheet 33 = .ok (.iload_n 1, 1) := by decide +kernel
theorem dX8_sheet_34 : decode cX8_sheet 34 = .ok (.aaload, 1) := by decide +kernel
theorem dX8_sheet_35 : decode cX8_sheet 35 = .ok (.iload_n 2, 1) := by decide +kernel
theorem dX8_sheet_36 : decode cX8_sheet 36 = .ok (.iload_n 3, 1) := by decide +kernel
theorem dX8_sheet_37 : decode cX8_sheet 37 = .ok (.invokevirtual 283, 3) := by decide +kernel
theorem dX8_sheet_40 : decode cX8_sheet 40 = .ok (.iload_n 3, 1) := by decide +kernel
theorem dX8_sheet_41 : decode cX8_sheet 41 = .ok (.ireturn, 1) := by decide +kernel
theorem dX8_drop_0 : decode cX8_drop 0 = .ok (.iload_n 1, 1) := by decide +kernel
theorem dX8_drop_1 : decode cX8_drop 1 = .ok (.invokestatic 100, 3) := by decide +kernel
theorem dX8_drop_4 : decode cX8_drop 4 = .ok (.ifCond .ne 5, 3) := by decide +kernel
theorem dX8_drop_7 : decode cX8_drop 7 = .ok (.iconst (-1), 1) := by decide +kernel
theorem dX8_drop_8 : decode cX8_drop 8 = .ok (.ireturn, 1) := by decide +kernel
theorem dX8_drop_9 : decode cX8_drop 9 = .ok (.aload_n 0, 1) := by decide +kernel
theorem dX8_drop_10 : decode cX8_drop 10 = .ok (.getfield 49, 3) := by decide +kernel
theorem dX8_drop_13 : decode cX8_drop 13 = .ok (.iload_n 1, 1) := by decide +kernel
theorem dX8_drop_14 : decode cX8_drop 14 = .ok (.aaload, 1) := by decide +kernel
theorem dX8_drop_15 : decode cX8_drop 15 = .ok (.getfield 285, 3) := by decide +kernel
theorem dX8_drop_18 : decode cX8_drop 18 = .ok (.ifCond .ne 6, 3) := by decide +kernel
theorem dX8_drop_21 : decode cX8_drop 21 = .ok (.bipush (-11), 2) := by decide +kernel
theorem dX8_drop_23 : decode cX8_drop 23 = .ok (.ireturn, 1) := by decide +kernel
theorem dX8_drop_24 : decode cX8_drop 24 = .ok (.aload_n 0, 1) := by decide +kernel
theorem dX8_drop_25 : decode cX8_drop 25 = .ok (.getfield 49, 3) := by decide +kernel
theorem dX8_drop_28 : decode cX8_drop 28 = .ok (.iload_n 1, 1) := by decide +kernel
theorem dX8_drop_29 : decode cX8_drop 29 = .ok (.aaload, 1) := by decide +kernel
theorem dX8_drop_30 : decode cX8_drop 30 = .ok (.iconst 0, 1) := by decide +kernel
theorem dX8_drop_31 : decode cX8_drop 31 = .ok (.putfield 285, 3) := by decide +kernel
theorem dX8_drop_34 : decode cX8_drop 34 = .ok (.aload_n 0, 1) := by decide +kernel
theorem dX8_drop_35 : decode cX8_drop 35 = .ok (.getfield 49, 3) := by decide +kernel
theorem dX8_drop_38 : decode cX8_drop 38 = .ok (.iload_n 1, 1) := by decide +kernel
theorem dX8_drop_39 : decode cX8_drop 39 = .ok (.aaload, 1) := by decide +kernel
theorem dX8_drop_40 : decode cX8_drop 40 = .ok (.getfield 288, 3) := by decide +kernel
theorem dX8_drop_43 : decode cX8_drop 43 = .ok (.ireturn, 1) := by decide +kernel
theorem dX8_item_0 : decode cX8_item 0 = .ok (.iload_n 1, 1) := by decide +kernel
theorem dX8_item_1 : decode cX8_item 1 = .ok (.invokestatic 100, 3) := by decide +kernel
theorem dX8_item_4 : decode cX8_item 4 = .ok (.ifCond .eq 10, 3) := by decide +kernel
theorem dX8_item_7 : decode cX8_item 7 = .ok (.iload_n 2, 1) := by decide +kernel
theorem dX8_item_8 : decode cX8_item 8 = .ok (.invokestatic 103, 3) := by decide +kernel
theorem dX8_item_11 : decode cX8_item 11 = .ok (.ifCond .ne 5, 3) := by decide +kernel
theorem dX8_item_14 : decode cX8_item 14 = .ok (.iconst (-1), 1) := by decide +kernel
theorem dX8_item_15 : decode cX8_item 15 = .ok (.ireturn, 1) := by decide +kernel
theorem dX8_item_16 : decode cX8_item 16 = .ok (.aload_n 0, 1) := by decide +kernel
theorem dX8_item_17 : decode cX8_item 17 = .ok (.getfield 49, 3) := by decide +kernel
theorem dX8_item_20 : decode cX8_item 20 = .ok (.iload_n 1, 1) := by decide +kernel
theorem dX8_item_21 : decode cX8_item 21 = .ok (.aaload, 1) := by decide +kernel
theorem dX8_item_22 : decode cX8_item 22 = .ok (.iload_n 2, 1) := by decide +kernel
theorem dX8_item_23 : decode cX8_item 23 = .ok (.iload_n 3, 1) := by decide +kernel
theorem dX8_item_24 : decode cX8_item 24 = .ok (.iconst 1, 1) := by decide +kernel
theorem dX8_item_25 : decode cX8_item 25 = .ok (.invokevirtual 106, 3) := by decide +kernel
theorem dX8_item_28 : decode cX8_item 28 = .ok (.istore 5, 2) := by decide +kernel
theorem dX8_item_30 : decode cX8_item 30 = .ok (.iload 5, 2) := by decide +kernel
theorem dX8_item_32 : decode cX8_item 32 = .ok (.ifCond .eq 6, 3) := by decide +kernel
theorem dX8_item_35 : decode cX8_item 35 = .ok (.iload 5, 2) := by decide +kernel
theorem dX8_item_37 : decode cX8_item 37 = .ok (.ireturn, 1) := by decide +kernel
theorem dX8_item_38 : decode cX8_item 38 = .ok (.aload_n 0, 1) := by decide +kernel
theorem dX8_item_39 : decode cX8_item 39 = .ok (.getfield 49, 3) := by decide +kernel
theorem dX8_item_42 : decode cX8_item 42 = .ok (.iload_n 1, 1) := by decide +kernel
theorem dX8_item_43 : decode cX8_item 43 = .ok (.aaload, 1) := by decide +kernel
theorem dX8_item_44 : decode cX8_item 44 = .ok (.iload_n 3, 1) := by decide +kernel
theorem dX8_item_45 : decode cX8_item 45 = .ok (.iload 4, 2) := by decide +kernel
theorem dX8_item_47 : decode cX8_item 47 = .ok (.invokevirtual 289, 3) := by decide +kernel
theorem dX8_item_50 : decode cX8_item 50 = .ok (.iconst 1, 1) := by decide +kernel
theorem dX8_item_51 : decode cX8_item 51 = .ok (.ireturn, 1) := by decide +kernel
theorem dX8_within_0 : decode cX8_within 0 = .ok (.iload_n 0, 1) := by decide +kernel
theorem dX8_within_1 : decode cX8_within 1 = .ok (.iload_n 1, 1) := by decide +kernel
theorem dX8_within_2 : decode cX8_within 2 = .ok (.if_icmp .lt 12, 3) := by decide +kernel
theorem dX8_within_5 : decode cX8_within 5 = .ok (.iload_n 0, 1) := by decide +kernel
theorem dX8_within_6 : decode cX8_within 6 = .ok (.iload_n 2, 1) := by decide +kernel
theorem dX8_within_7 : decode cX8_within 7 = .ok (.if_icmp .gt 7, 3) := by decide +kernel
theorem dX8_within_10 : decode cX8_within 10 = .ok (.iconst 1, 1) := by decide +kernel
theorem dX8_within_11 : decode cX8_within 11 = .ok (.goto 4, 3) := by decide +kernel
theorem dX8_within_14 : decode cX8_within 14 = .ok (.iconst 0, 1) := by decide +kernel
theorem dX8_within_15 : decode cX8_within 15 = .ok (.ireturn, 1) := by decide +kernel
theorem dX8_isDay_0 : decode cX8_isDay 0 = .ok (.iload_n 0, 1) := by decide +kernel
theorem dX8_isDay_1 : decode cX8_isDay 1 = .ok (.iconst 0, 1) := by decide +kernel
theorem dX8_isDay_2 : decode cX8_isDay 2 = .ok (.sipush 299, 3) := by decide +kernel
theorem dX8_isDay_5 : decode cX8_isDay 5 = .ok (.invokestatic 54, 3) := by decide +kernel
theorem dX8_isDay_8 : decode cX8_isDay 8 = .ok (.ireturn, 1) := by decide +kernel
theorem dX8_isPayable_0 : decode cX8_isPayable 0 = .ok (.iload_n 0, 1) := by decide +kernel
theorem dX8_isPayable_1 : decode cX8_isPayable 1 = .ok (.invokestatic 58, 3) := by decide +kernel
theorem dX8_isPayable_4 : decode cX8_isPayable 4 = .ok (.ifCond .eq 18, 3) := by decide +kernel
theorem dX8_isPayable_7 : decode cX8_isPayable 7 = .ok (.iload_n 1, 1) := by decide +kernel
theorem dX8_isPayable_8 : decode cX8_isPayable 8 = .ok (.iconst 1, 1) := by decide +kernel
theorem dX8_isPayable_9 : decode cX8_isPayable 9 = .ok (.sipush 9999, 3) := by decide +kernel
theorem dX8_isPayable_12 : decode cX8_isPayable 12 = .ok (.invokestatic 54, 3) := by decide +kernel
theorem dX8_isPayable_15 : decode cX8_isPayable 15 = .ok (.ifCond .eq 7, 3) := by decide +kernel
theorem dX8_isPayable_18 : decode cX8_isPayable 18 = .ok (.iconst 1, 1) := by decide +kernel
theorem dX8_isPayable_19 : decode cX8_isPayable 19 = .ok (.goto 4, 3) := by decide +kernel
theorem dX8_isPayable_22 : decode cX8_isPayable 22 = .ok (.iconst 0, 1) := by decide +kernel
theorem dX8_isPayable_23 : decode cX8_isPayable 23 = .ok (.ireturn, 1) := by decide +kernel
theorem dX8_isLaw_0 : decode cX8_isLaw 0 = .ok (.iload_n 0, 1) := by decide +kernel
theorem dX8_isLaw_1 : decode cX8_isLaw 1 = .ok (.iconst 0, 1) := by decide +kernel
theorem dX8_isLaw_2 : decode cX8_isLaw 2 = .ok (.iconst 1, 1) := by decide +kernel
theorem dX8_isLaw_3 : decode cX8_isLaw 3 = .ok (.invokestatic 54, 3) := by decide +kernel
theorem dX8_isLaw_6 : decode cX8_isLaw 6 = .ok (.ireturn, 1) := by decide +kernel
theorem dX8_isSheet_0 : decode cX8_isSheet 0 = .ok (.iload_n 0, 1) := by decide +kernel
theorem dX8_isSheet_1 : decode cX8_isSheet 1 = .ok (.iconst 0, 1) := by decide +kernel
theorem dX8_isSheet_2 : decode cX8_isSheet 2 = .ok (.iconst 3, 1) := by decide +kernel
theorem dX8_isSheet_3 : decode cX8_isSheet 3 = .ok (.invokestatic 54, 3) := by decide +kernel
theorem dX8_isSheet_6 : decode cX8_isSheet 6 = .ok (.ireturn, 1) := by decide +kernel
theorem dX8_isLane_0 : decode cX8_isLane 0 = .ok (.iload_n 0, 1) := by decide +kernel
theorem dX8_isLane_1 : decode cX8_isLane 1 = .ok (.iconst 0, 1) := by decide +kernel
theorem dX8_isLane_2 : decode cX8_isLane 2 = .ok (.iconst 2, 1) := by decide +kernel
theorem dX8_isLane_3 : decode cX8_isLane 3 = .ok (.invokestatic 54, 3) := by decide +kernel
theorem dX8_isLane_6 : decode cX8_isLane 6 = .ok (.ireturn, 1) := by decide +kernel
theorem dX8_isDebt_0 : decode cX8_isDebt 0 = .ok (.iload_n 1, 1) := by decide +kernel
theorem dX8_isDebt_1 : decode cX8_isDebt 1 = .ok (.iconst 0, 1) := by decide +kernel
theorem dX8_isDebt_2 : decode cX8_isDebt 2 = .ok (.aload_n 0, 1) := by decide +kernel
theorem dX8_isDebt_3 : decode cX8_isDebt 3 = .ok (.getfield 10, 3) := by decide +kernel
theorem dX8_isDebt_6 : decode cX8_isDebt 6 = .ok (.getfield 62, 3) := by decide +kernel
theorem dX8_isDebt_9 : decode cX8_isDebt 9 = .ok (.iconst 1, 1) := by decide +kernel
theorem dX8_isDebt_10 : decode cX8_isDebt 10 = .ok (.isub, 1) := by decide +kernel
theorem dX8_isDebt_11 : decode cX8_isDebt 11 = .ok (.invokestatic 54, 3) := by decide +kernel
theorem dX8_isDebt_14 : decode cX8_isDebt 14 = .ok (.ireturn, 1) := by decide +kernel
theorem dX8_isDebtOrNone_0 : decode cX8_isDebtOrNone 0 = .ok (.iload_n 1, 1) := by decide +kernel
theorem dX8_isDebtOrNone_1 : decode cX8_isDebtOrNone 1 = .ok (.iconst (-1), 1) := by decide +kernel
theorem dX8_isDebtOrNone_2 : decode cX8_isDebtOrNone 2 = .ok (.if_icmp .eq 11, 3) := by decide +kernel
theorem dX8_isDebtOrNone_5 : decode cX8_isDebtOrNone 5 = .ok (.aload_n 0, 1) := by decide +kernel
theorem dX8_isDebtOrNone_6 : decode cX8_isDebtOrNone 6 = .ok (.iload_n 1, 1) := by decide +kernel
theorem dX8_isDebtOrNone_7 : decode cX8_isDebtOrNone 7 = .ok (.invokevirtual 76, 3) := by decide +kernel
theorem dX8_isDebtOrNone_10 : decode cX8_isDebtOrNone 10 = .ok (.ifCond .eq 7, 3) := by decide +kernel
theorem dX8_isDebtOrNone_13 : decode cX8_isDebtOrNone 13 = .ok (.iconst 1, 1) := by decide +kernel
theorem dX8_isDebtOrNone_14 : decode cX8_isDebtOrNone 14 = .ok (.goto 4, 3) := by decide +kernel
theorem dX8_isDebtOrNone_17 : decode cX8_isDebtOrNone 17 = .ok (.iconst 0, 1) := by decide +kernel
theorem dX8_isDebtOrNone_18 : decode cX8_isDebtOrNone 18 = .ok (.ireturn, 1) := by decide +kernel
theorem dX8_isPayment_0 : decode cX8_isPayment 0 = .ok (.iload_n 1, 1) := by decide +kernel
theorem dX8_isPayment_1 : decode cX8_isPayment 1 = .ok (.iconst 0, 1) := by decide +kernel
theorem dX8_isPayment_2 : decode cX8_isPayment 2 = .ok (.aload_n 0, 1) := by decide +kernel
theorem dX8_isPayment_3 : decode cX8_isPayment 3 = .ok (.getfield 10, 3) := by decide +kernel
theorem dX8_isPayment_6 : decode cX8_isPayment 6 = .ok (.getfield 93, 3) := by decide +kernel
theorem dX8_isPayment_9 : decode cX8_isPayment 9 = .ok (.iconst 1, 1) := by decide +kernel
theorem dX8_isPayment_10 : decode cX8_isPayment 10 = .ok (.isub, 1) := by decide +kernel
theorem dX8_isPayment_11 : decode cX8_isPayment 11 = .ok (.invokestatic 54, 3) := by decide +kernel
theorem dX8_isPayment_14 : decode cX8_isPayment 14 = .ok (.ireturn, 1) := by decide +kernel
theorem dX8_dayOrNone_0 : decode cX8_dayOrNone 0 = .ok (.iload_n 0, 1) := by decide +kernel
theorem dX8_dayOrNone_1 : decode cX8_dayOrNone 1 = .ok (.iconst (-1), 1) := by decide +kernel
theorem dX8_dayOrNone_2 : decode cX8_dayOrNone 2 = .ok (.if_icmp .ne 8, 3) := by decide +kernel
theorem dX8_dayOrNone_5 : decode cX8_dayOrNone 5 = .ok (.bipush (-4), 2) := by decide +kernel
theorem dX8_dayOrNone_7 : decode cX8_dayOrNone 7 = .ok (.goto 4, 3) := by decide +kernel
theorem dX8_dayOrNone_10 : decode cX8_dayOrNone 10 = .ok (.iload_n 0, 1) := by decide +kernel
theorem dX8_dayOrNone_11 : decode cX8_dayOrNone 11 = .ok (.ireturn, 1) := by decide +kernel
theorem dX8_byteOf_0 : decode cX8_byteOf 0 = .ok (.lload_n 0, 1) := by decide +kernel
theorem dX8_byteOf_1 : decode cX8_byteOf 1 = .ok (.bipush 8, 2) := by decide +kernel
theorem dX8_byteOf_3 : decode cX8_byteOf 3 = .ok (.iload_n 2, 1) := by decide +kernel
theorem dX8_byteOf_4 : decode cX8_byteOf 4 = .ok (.imul, 1) := by decide +kernel
theorem dX8_byteOf_5 : decode cX8_byteOf 5 = .ok (.lushr, 1) := by decide +kernel
theorem dX8_byteOf_6 : decode cX8_byteOf 6 = .ok (.l2i, 1) := by decide +kernel
theorem dX8_byteOf_7 : decode cX8_byteOf 7 = .ok (.sipush 255, 3) := by decide +kernel
theorem dX8_byteOf_10 : decode cX8_byteOf 10 = .ok (.iand, 1) := by decide +kernel
theorem dX8_byteOf_11 : decode cX8_byteOf 11 = .ok (.ireturn, 1) := by decide +kernel
theorem dX8_allSigns_0 : decode cX8_allSigns 0 = .ok (.iconst 0, 1) := by decide +kernel
theorem dX8_allSigns_1 : decode cX8_allSigns 1 = .ok (.istore_n 3, 1) := by decide +kernel
theorem dX8_allSigns_2 : decode cX8_allSigns 2 = .ok (.iload_n 3, 1) := by decide +kernel
theorem dX8_allSigns_3 : decode cX8_allSigns 3 = .ok (.iload_n 2, 1) := by decide +kernel
theorem dX8_allSigns_4 : decode cX8_allSigns 4 = .ok (.if_icmp .ge 26, 3) := by decide +kernel
theorem dX8_allSigns_7 : decode cX8_allSigns 7 = .ok (.lload_n 0, 1) := by decide +kernel
theorem dX8_allSigns_8 : decode cX8_allSigns 8 = .ok (.iload_n 3, 1) := by decide +kernel
theorem dX8_allSigns_9 : decode cX8_allSigns 9 = .ok (.invokestatic 145, 3) := by decide +kernel
theorem dX8_allSigns_12 : decode cX8_allSigns 12 = .ok (.bipush 32, 2) := by decide +kernel
theorem dX8_allSigns_14 : decode cX8_allSigns 14 = .ok (.bipush 126, 2) := by decide +kernel
theorem dX8_allSigns_16 : decode cX8_allSigns 16 = .ok (.invokestatic 54, 3) := by decide +kernel
theorem dX8_allSigns_19 : decode cX8_allSigns 19 = .ok (.ifCond .ne 5, 3) := by decide +kernel
theorem dX8_allSigns_22 : decode cX8_allSigns 22 = .ok (.iconst 0, 1) := by decide +kernel
theorem dX8_allSigns_23 : decode cX8_allSigns 23 = .ok (.ireturn, 1) := by decide +kernel
theorem dX8_allSigns_24 : decode cX8_allSigns 24 = .ok (.iinc 3 1, 3) := by decide +kernel
theorem dX8_allSigns_27 : decode cX8_allSigns 27 = .ok (.goto (-25), 3) := by decide +kernel
theorem dX8_allSigns_30 : decode cX8_allSigns 30 = .ok (.iconst 1, 1) := by decide +kernel
theorem dX8_allSigns_31 : decode cX8_allSigns 31 = .ok (.ireturn, 1) := by decide +kernel
theorem dX8_goBehind_0 : decode cX8_goBehind 0 = .ok (.aload_n 0, 1) := by decide +kernel
theorem dX8_goBehind_1 : decode cX8_goBehind 1 = .ok (.getfield 26, 3) := by decide +kernel
theorem dX8_goBehind_4 : decode cX8_goBehind 4 = .ok (.aload_n 0, 1) := by decide +kernel
theorem dX8_goBehind_5 : decode cX8_goBehind 5 = .ok (.getfield 10, 3) := by decide +kernel
theorem dX8_goBehind_8 : decode cX8_goBehind 8 = .ok (.iload_n 1, 1) := by decide +kernel
theorem dX8_goBehind_9 : decode cX8_goBehind 9 = .ok (.invokevirtual 193, 3) := by decide +kernel
theorem dX8_goBehind_12 : decode cX8_goBehind 12 = .ok (.aload_n 0, 1) := by decide +kernel
theorem dX8_goBehind_13 : decode cX8_goBehind 13 = .ok (.getfield 26, 3) := by decide +kernel
theorem dX8_goBehind_16 : decode cX8_goBehind 16 = .ok (.iload_n 2, 1) := by decide +kernel
theorem dX8_goBehind_17 : decode cX8_goBehind 17 = .ok (.invokevirtual 255, 3) := by decide +kernel
theorem dX8_goBehind_20 : decode cX8_goBehind 20 = .ok (.return_, 1) := by decide +kernel
theorem dX9_in_0 : decode cX9_in 0 = .ok (.lload_n 0, 1) := by decide +kernel
theorem dX9_in_1 : decode cX9_in 1 = .ok (.lload_n 2, 1) := by decide +kernel
theorem dX9_in_2 : decode cX9_in 2 = .ok (.lcmp, 1) := by decide +kernel
theorem dX9_in_3 : decode cX9_in 3 = .ok (.ifCond .lt 14, 3) := by decide +kernel
theorem dX9_in_6 : decode cX9_in 6 = .ok (.lload_n 0, 1) := by decide +kernel
theorem dX9_in_7 : decode cX9_in 7 = .ok (.lload 4, 2) := by decide +kernel
theorem dX9_in_9 : decode cX9_in 9 = .ok (.lcmp, 1) := by decide +kernel
theorem dX9_in_10 : decode cX9_in 10 = .ok (.ifCond .gt 7, 3) := by decide +kernel
theorem dX9_in_13 : decode cX9_in 13 = .ok (.iconst 1, 1) := by decide +kernel
theorem dX9_in_14 : decode cX9_in 14 = .ok (.goto 4, 3) := by decide +kernel
theorem dX9_in_17 : decode cX9_in 17 = .ok (.iconst 0, 1) := by decide +kernel
theorem dX9_in_18 : decode cX9_in 18 = .ok (.ireturn, 1) := by decide +kernel
theorem dX9_init_0 : decode cX9_init 0 = .ok (.aload_n 0, 1) := by decide +kernel
theorem dX9_init_1 : decode cX9_init 1 = .ok (.invokespecial 1, 3) := by decide +kernel
theorem dX9_init_4 : decode cX9_init 4 = .ok (.aload_n 0, 1) := by decide +kernel
theorem dX9_init_5 : decode cX9_init 5 = .ok (.bipush 64, 2) := by decide +kernel
theorem dX9_init_7 : decode cX9_init 7 = .ok (.newarray .int, 2) := by decide +kernel
theorem dX9_init_9 : decode cX9_init 9 = .ok (.putfield 7, 3) := by decide +kernel
theorem dX9_init_12 : decode cX9_init 12 = .ok (.aload_n 0, 1) := by decide +kernel
theorem dX9_init_13 : decode cX9_init 13 = .ok (.bipush 48, 2) := by decide +kernel
theorem dX9_init_15 : decode cX9_init 15 = .ok (.newarray .int, 2) := by decide +kernel
theorem dX9_init_17 : decode cX9_init 17 = .ok (.putfield 13, 3) := by decide +kernel
theorem dX9_init_20 : decode cX9_init 20 = .ok (.aload_n 0, 1) := by decide +kernel
theorem dX9_init_21 : decode cX9_init 21 = .ok (.bipush 40, 2) := by decide +kernel
theorem dX9_init_23 : decode cX9_init 23 = .ok (.newarray .int, 2) := by decide +kernel
theorem dX9_init_25 : decode cX9_init 25 = .ok (.putfield 16, 3) := by decide +kernel
theorem dX9_init_28 : decode cX9_init 28 = .ok (.aload_n 0, 1) := by decide +kernel
theorem dX9_init_29 : decode cX9_init 29 = .ok (.bipush 24, 2) := by decide +kernel
theorem dX9_init_31 : decode cX9_init 31 = .ok (.newarray .int, 2) := by decide +kernel
theorem dX9_init_33 : decode cX9_init 33 = .ok (.putfield 19, 3) := by decide +kernel
theorem dX9_init_36 : decode cX9_init 36 = .ok (.aload_n 0, 1) := by decide +kernel
theorem dX9_init_37 : decode cX9_init 37 = .ok (.iconst 2, 1) := by decide +kernel
theorem dX9_init_38 : decode cX9_init 38 = .ok (.newarray .int, 2) := by decide +kernel
theorem dX9_init_40 : decode cX9_init 40 = .ok (.putfield 22, 3) := by decide +kernel
theorem dX9_init_43 : decode cX9_init 43 = .ok (.aload_n 0, 1) := by decide +kernel
theorem dX9_init_44 : decode cX9_init 44 = .ok (.bipush 12, 2) := by decide +kernel
theorem dX9_init_46 : decode cX9_init 46 = .ok (.newarray .int, 2) := by decide +kernel
theorem dX9_init_48 : decode cX9_init 48 = .ok (.putfield 25, 3) := by decide +kernel
theorem dX9_init_51 : decode cX9_init 51 = .ok (.aload_n 0, 1) := by decide +kernel
theorem dX9_init_52 : decode cX9_init 52 = .ok (.bipush 8, 2) := by decide +kernel
theorem dX9_init_54 : decode cX9_init 54 = .ok (.newarray .long, 2) := by decide +kernel
theorem dX9_init_56 : decode cX9_init 56 = .ok (.putfield 28, 3) := by decide +kernel
theorem dX9_init_59 : decode cX9_init 59 = .ok (.aload_n 0, 1) := by decide +kernel
theorem dX9_init_60 : decode cX9_init 60 = .ok (.bipush 8, 2) := by decide +kernel
theorem dX9_init_62 : decode cX9_init 62 = .ok (.newarray .long, 2) := by decide +kernel
theorem dX9_init_64 : decode cX9_init 64 = .ok (.putfield 32, 3) := by decide +kernel
theorem dX9_init_67 : decode cX9_init 67 = .ok (.aload_n 0, 1) := by decide +kernel
theorem dX9_init_68 : decode cX9_init 68 = .ok (.bipush 8, 2) := by decide +kernel
theorem dX9_init_70 : decode cX9_init 70 = .ok (.newarray .int, 2) := by decide +kernel
theorem dX9_init_72 : decode cX9_init 72 = .ok (.putfield 35, 3) := by decide +kernel
theorem dX9_init_75 : decode cX9_init 75 = .ok (.aload_n 0, 1) := by decide +kernel
theorem dX9_init_76 : decode cX9_init 76 = .ok (.bipush 8, 2) := by decide +kernel
theorem dX9_init_78 : decode cX9_init 78 = .ok (.newarray .int, 2) := by decide +kernel
theorem dX9_init_80 : decode cX9_init 80 = .ok (.putfield 38, 3) := by decide +kernel
theorem dX9_init_83 : decode cX9_init 83 = .ok (.aload_n 0, 1) := by decide +kernel
theorem dX9_init_84 : decode cX9_init 84 = .ok (.bipush 8, 2) := by decide +kernel
theorem dX9_init_86 : decode cX9_init 86 = .ok (.newarray .long, 2) := by decide +kernel
theorem dX9_init_88 : decode cX9_init 88 = .ok (.putfield 41, 3) := by decide +kernel
theorem dX9_init_91 : decode cX9_init 91 = .ok (.aload_n 0, 1) := by decide +kernel
theorem dX9_init_92 : decode cX9_init 92 = .ok (.bipush 8, 2) := by decide +kernel
theorem dX9_init_94 : decode cX9_init 94 = .ok (.newarray .long, 2) := by decide +kernel
theorem dX9_init_96 : decode cX9_init 96 = .ok (.putfield 44, 3) := by decide +kernel
theorem dX9_init_99 : decode cX9_init 99 = .ok (.aload_n 0, 1) := by decide +kernel
theorem dX9_init_100 : decode cX9_init 100 = .ok (.bipush 8, 2) := by decide +kernel
theorem dX9_init_102 : decode cX9_init 102 = .ok (.newarray .boolean, 2) := by decide +kernel
theorem dX9_init_104 : decode cX9_init 104 = .ok (.putfield 47, 3) := by decide +kernel
theorem dX9_init_107 : decode cX9_init 107 = .ok (.aload_n 0, 1) := by decide +kernel
theorem dX9_init_108 : decode cX9_init 108 = .ok (.bipush 8, 2) := by decide +kernel
theorem dX9_init_110 : decode cX9_init 110 = .ok (.newarray .int, 2) := by decide +kernel
theorem dX9_init_112 : decode cX9_init 112 = .ok (.putfield 51, 3) := by decide +kernel
theorem dX9_init_115 : decode cX9_init 115 = .ok (.aload_n 0, 1) := by decide +kernel
theorem dX9_init_116 : decode cX9_init 116 = .ok (.bipush 8, 2) := by decide +kernel
theorem dX9_init_118 : decode cX9_init 118 = .ok (.newarray .long, 2) := by decide +kernel
theorem dX9_init_120 : decode cX9_init 120 = .ok (.putfield 54, 3) := by decide +kernel
theorem dX9_init_123 : decode cX9_init 123 = .ok (.aload_n 0, 1) := by decide +kernel
theorem dX9_init_124 : decode cX9_init 124 = .ok (.bipush 8, 2) := by decide +kernel
theorem dX9_init_126 : decode cX9_init 126 = .ok (.newarray .int, 2) := by decide +kernel
theorem dX9_init_128 : decode cX9_init 128 = .ok (.putfield 57, 3) := by decide +kernel
theorem dX9_init_131 : decode cX9_init 131 = .ok (.aload_n 0, 1) := by decide +kernel
theorem dX9_init_132 : decode cX9_init 132 = .ok (.iconst 3, 1) := by decide +kernel
theorem dX9_init_133 : decode cX9_init 133 = .ok (.newarray .int, 2) := by decide +kernel
theorem dX9_init_135 : decode cX9_init 135 = .ok (.putfield 60, 3) := by decide +kernel
theorem dX9_init_138 : decode cX9_init 138 = .ok (.aload_n 0, 1) := by decide +kernel
theorem dX9_init_139 : decode cX9_init 139 = .ok (.iconst 3, 1) := by decide +kernel
theorem dX9_init_140 : decode cX9_init 140 = .ok (.newarray .int, 2) := by decide +kernel
theorem dX9_init_142 : decode cX9_init 142 = .ok (.putfield 63, 3) := by decide +kernel
theorem dX9_init_145 : decode cX9_init 145 = .ok (.aload_n 0, 1) := by decide +kernel
theorem dX9_init_146 : decode cX9_init 146 = .ok (.sipush 2400, 3) := by decide +kernel
theorem dX9_init_149 : decode cX9_init 149 = .ok (.newarray .long, 2) := by decide +kernel
theorem dX9_init_151 : decode cX9_init 151 = .ok (.putfield 66, 3) := by decide +kernel
theorem dX9_init_154 : decode cX9_init 154 = .ok (.aload_n 0, 1) := by decide +kernel
theorem dX9_init_155 : decode cX9_init 155 = .ok (.sipush 140, 3) := by decide +kernel
theorem dX9_init_158 : decode cX9_init 158 = .ok (.newarray .int, 2) := by decide +kernel
theorem dX9_init_160 : decode cX9_init 160 = .ok (.putfield 69, 3) := by decide +kernel
theorem dX9_init_163 : decode cX9_init 163 = .ok (.aload_n 0, 1) := by decide +kernel
theorem dX9_init_164 : decode cX9_init 164 = .ok (.iconst 4, 1) := by decide +kernel
theorem dX9_init_165 : decode cX9_init 165 = .ok (.newarray .int, 2) := by decide +kernel
theorem dX9_init_167 : decode cX9_init 167 = .ok (.putfield 72, 3) := by decide +kernel
theorem dX9_init_170 : decode cX9_init 170 = .ok (.aload_n 0, 1) := by decide +kernel
theorem dX9_init_171 : decode cX9_init 171 = .ok (.iconst 4, 1) := by decide +kernel
theorem dX9_init_172 : decode cX9_init 172 = .ok (.newarray .int, 2) := by decide +kernel
theorem dX9_init_174 : decode cX9_init 174 = .ok (.putfield 75, 3) := by decide +kernel
theorem dX9_init_177 : decode cX9_init 177 = .ok (.aload_n 0, 1) := by decide +kernel
theorem dX9_init_178 : decode cX9_init 178 = .ok (.bipush 96, 2) := by decide +kernel
theorem dX9_init_180 : decode cX9_init 180 = .ok (.newarray .int, 2) := by decide +kernel
theorem dX9_init_182 : decode cX9_init 182 = .ok (.putfield 78, 3) := by decide +kernel
theorem dX9_init_185 : decode cX9_init 185 = .ok (.iconst 0, 1) := by decide +kernel
theorem dX9_init_186 : decode cX9_init 186 = .ok (.istore_n 1, 1) := by decide +kernel
theorem dX9_init_187 : decode cX9_init 187 = .ok (.iload_n 1, 1) := by decide +kernel
theorem dX9_init_188 : decode cX9_init 188 = .ok (.iconst 4, 1) := by decide +kernel
theorem dX9_init_189 : decode cX9_init 189 = .ok (.if_icmp .ge 16, 3) := by decide +kernel
theorem dX9_init_192 : decode cX9_init 192 = .ok (.aload_n 0, 1) := by decide +kernel
theorem dX9_init_193 : decode cX9_init 193 = .ok (.getfield 72, 3) := by decide +kernel
theorem dX9_init_196 : decode cX9_init 196 = .ok (.iload_n 1, 1) := by decide +kernel
theorem dX9_init_197 : decode cX9_init 197 = .ok (.iconst (-1), 1) := by decide +kernel
theorem dX9_init_198 : decode cX9_init 198 = .ok (.iastore, 1) := by decide +kernel
theorem dX9_init_199 : decode cX9_init 199 = .ok (.iinc 1 1, 3) := by decide +kernel
theorem dX9_init_202 : decode cX9_init 202 = .ok (.goto (-15), 3) := by decide +kernel
theorem dX9_init_205 : decode cX9_init 205 = .ok (.return_, 1) := by decide +kernel
theorem dX9_isDay_0 : decode cX9_isDay 0 = .ok (.iload_n 0, 1) := by decide +kernel
theorem dX9_isDay_1 : decode cX9_isDay 1 = .ok (.i2l, 1) := by decide +kernel
theorem dX9_isDay_2 : decode cX9_isDay 2 = .ok (.lconst 0, 1) := by decide +kernel
theorem dX9_isDay_3 : decode cX9_isDay 3 = .ok (.ldc2_w 81, 3) := by decide +kernel
theorem dX9_isDay_6 : decode cX9_isDay 6 = .ok (.invokestatic 83, 3) := by decide +kernel
theorem dX9_isDay_9 : decode cX9_isDay 9 = .ok (.ireturn, 1) := by decide +kernel
theorem dX9_isDebt_0 : decode cX9_isDebt 0 = .ok (.iload_n 1, 1) := by decide +kernel
theorem dX9_isDebt_1 : decode cX9_isDebt 1 = .ok (.i2l, 1) := by decide +kernel
theorem dX9_isDebt_2 : decode cX9_isDebt 2 = .ok (.lconst 0, 1) := by decide +kernel
theorem dX9_isDebt_3 : decode cX9_isDebt 3 = .ok (.aload_n 0, 1) := by decide +kernel
theorem dX9_isDebt_4 : decode cX9_isDebt 4 = .ok (.getfield 87, 3) := by decide +kernel
theorem dX9_isDebt_7 : decode cX9_isDebt 7 = .ok (.iconst 1, 1) := by decide +kernel
theorem dX9_isDebt_8 : decode cX9_isDebt 8 = .ok (.isub, 1) := by decide +kernel
theorem dX9_isDebt_9 : decode cX9_isDebt 9 = .ok (.i2l, 1) := by decide +kernel
theorem dX9_isDebt_10 : decode cX9_isDebt 10 = .ok (.invokestatic 83, 3) := by decide +kernel
theorem dX9_isDebt_13 : decode cX9_isDebt 13 = .ok (.ireturn, 1) := by decide +kernel
theorem dX9_isPayment_0 : decode cX9_isPayment 0 = .ok (.iload_n 1, 1) := by decide +kernel
theorem dX9_isPayment_1 : decode cX9_isPayment 1 = .ok (.i2l, 1) := by decide +kernel
theorem dX9_isPayment_2 : decode cX9_isPayment 2 = .ok (.lconst 0, 1) := by decide +kernel
theorem dX9_isPayment_3 : decode cX9_isPayment 3 = .ok (.aload_n 0, 1) := by decide +kernel
theorem dX9_isPayment_4 : decode cX9_isPayment 4 = .ok (.getfield 91, 3) := by decide +kernel
theorem dX9_isPayment_7 : decode cX9_isPayment 7 = .ok (.iconst 1, 1) := by decide +kernel
theorem dX9_isPayment_8 : decode cX9_isPayment 8 = .ok (.isub, 1) := by decide +kernel
theorem dX9_isPayment_9 : decode cX9_isPayment 9 = .ok (.i2l, 1) := by decide +kernel
theorem dX9_isPayment_10 : decode cX9_isPayment 10 = .ok (.invokestatic 83, 3) := by decide +kernel
theorem dX9_isPayment_13 : decode cX9_isPayment 13 = .ok (.ireturn, 1) := by decide +kernel
theorem dX9_isLaw_0 : decode cX9_isLaw 0 = .ok (.iload_n 0, 1) := by decide +kernel
theorem dX9_isLaw_1 : decode cX9_isLaw 1 = .ok (.i2l, 1) := by decide +kernel
theorem dX9_isLaw_2 : decode cX9_isLaw 2 = .ok (.lconst 0, 1) := by decide +kernel
theorem dX9_isLaw_3 : decode cX9_isLaw 3 = .ok (.lconst 1, 1) := by decide +kernel
theorem dX9_isLaw_4 : decode cX9_isLaw 4 = .ok (.invokestatic 83, 3) := by decide +kernel
theorem dX9_isLaw_7 : decode cX9_isLaw 7 = .ok (.ireturn, 1) := by decide +kernel
theorem dX9_debt_0 : decode cX9_debt 0 = .ok (.iload_n 1, 1) := by decide +kernel
theorem dX9_debt_1 : decode cX9_debt 1 = .ok (.i2l, 1) := by decide +kernel
theorem dX9_debt_2 : decode cX9_debt 2 = .ok (.lconst 1, 1) := by decide +kernel
theorem dX9_debt_3 : decode cX9_debt 3 = .ok (.ldc2_w 94, 3) := by decide +kernel
theorem dX9_debt_6 : decode cX9_debt 6 = .ok (.invokestatic 83, 3) := by decide +kernel
theorem dX9_debt_9 : decode cX9_debt 9 = .ok (.ifCond .eq 30, 3) := by decide +kernel
theorem dX9_debt_12 : decode cX9_debt 12 = .ok (.iload_n 2, 1) := by decide +kernel
theorem dX9_debt_13 : decode cX9_debt 13 = .ok (.invokestatic 96, 3) := by decide +kernel
theorem dX9_debt_16 : decode cX9_debt 16 = .ok (.ifCond .eq 23, 3) := by decide +kernel
theorem dX9_debt_19 : decode cX9_debt 19 = .ok (.iload_n 3, 1) := by decide +kernel
theorem dX9_debt_20 : decode cX9_debt 20 = .ok (.invokestatic 96, 3) := by decide +kernel
theorem dX9_debt_23 : decode cX9_debt 23 = .ok (.ifCond .eq 16, 3) := by decide +kernel
theorem dX9_debt_26 : decode cX9_debt 26 = .ok (.iload 4, 2) := by decide +kernel
theorem dX9_debt_28 : decode cX9_debt 28 = .ok (.i2l, 1) := by decide +kernel
theorem dX9_debt_29 : decode cX9_debt 29 = .ok (.lconst 0, 1) := by decide +kernel
theorem dX9_debt_30 : decode cX9_debt 30 = .ok (.ldc2_w 100, 3) := by decide +kernel
theorem dX9_debt_33 : decode cX9_debt 33 = .ok (.invokestatic 83, 3) := by decide +kernel
theorem dX9_debt_36 : decode cX9_debt 36 = .ok (.ifCond .ne 5, 3) := by decide +kernel
theorem dX9_debt_39 : decode cX9_debt 39 = .ok (.iconst (-1), 1) := by decide +kernel
theorem dX9_debt_40 : decode cX9_debt 40 = .ok (.ireturn, 1) := by decide +kernel
theorem dX9_debt_41 : decode cX9_debt 41 = .ok (.aload_n 0, 1) := by decide +kernel
theorem dX9_debt_42 : decode cX9_debt 42 = .ok (.getfield 87, 3) := by decide +kernel
theorem dX9_debt_45 : decode cX9_debt 45 = .ok (.bipush 8, 2) := by decide +kernel
theorem dX9_debt_47 : decode cX9_debt 47 = .ok (.if_icmp .ne 6, 3) := by decide +kernel
theorem dX9_debt_50 : decode cX9_debt 50 = .ok (.bipush (-3), 2) := by decide +kernel
theorem dX9_debt_52 : decode cX9_debt 52 = .ok (.ireturn, 1) := by decide +kernel
theorem dX9_debt_53 : decode cX9_debt 53 = .ok (.bipush 8, 2) := by decide +kernel
theorem dX9_debt_55 : decode cX9_debt 55 = .ok (.aload_n 0, 1) := by decide +kernel
theorem dX9_debt_56 : decode cX9_debt 56 = .ok (.getfield 87, 3) := by decide +kernel
theorem dX9_debt_59 : decode cX9_debt 59 = .ok (.imul, 1) := by decide +kernel
theorem dX9_debt_60 : decode cX9_debt 60 = .ok (.istore 5, 2) := by decide +kernel
theorem dX9_debt_62 : decode cX9_debt 62 = .ok (.aload_n 0, 1) := by decide +kernel
theorem dX9_debt_63 : decode cX9_debt 63 = .ok (.getfield 7, 3) := by decide +kernel
theorem dX9_debt_66 : decode cX9_debt 66 = .ok (.iload 5, 2) := by decide +kernel
theorem dX9_debt_68 : decode cX9_debt 68 = .ok (.iload_n 1, 1) := by decide +kernel
theorem dX9_debt_69 : decode cX9_debt 69 = .ok (.iastore, 1) := by decide +kernel
theorem dX9_debt_70 : decode cX9_debt 70 = .ok (.aload_n 0, 1) := by decide +kernel
theorem dX9_debt_71 : decode cX9_debt 71 = .ok (.getfield 7, 3) := by decide +kernel
theorem dX9_debt_74 : decode cX9_debt 74 = .ok (.iload 5, 2) := by decide +kernel
theorem dX9_debt_76 : decode cX9_debt 76 = .ok (.iconst 1, 1) := by decide +kernel
theorem dX9_debt_77 : decode cX9_debt 77 = .ok (.iadd, 1) := by decide +kernel
theorem dX9_debt_78 : decode cX9_debt 78 = .ok (.iload_n 2, 1) := by decide +kernel
theorem dX9_debt_79 : decode cX9_debt 79 = .ok (.iastore, 1) := by decide +kernel
theorem dX9_debt_80 : decode cX9_debt 80 = .ok (.aload_n 0, 1) := by decide +kernel
theorem dX9_debt_81 : decode cX9_debt 81 = .ok (.getfield 7, 3) := by decide +kernel
theorem dX9_debt_84 : decode cX9_debt 84 = .ok (.iload 5, 2) := by decide +kernel
theorem dX9_debt_86 : decode cX9_debt 86 = .ok (.iconst 2, 1) := by decide +kernel
theorem dX9_debt_87 : decode cX9_debt 87 = .ok (.iadd, 1) := by decide +kernel
theorem dX9_debt_88 : decode cX9_debt 88 = .ok (.iload_n 3, 1) := by decide +kernel
theorem dX9_debt_89 : decode cX9_debt 89 = .ok (.iastore, 1) := by decide +kernel
theorem dX9_debt_90 : decode cX9_debt 90 = .ok (.aload_n 0, 1) := by decide +kernel
theorem dX9_debt_91 : decode cX9_debt 91 = .ok (.getfield 7, 3) := by decide +kernel
theorem dX9_debt_94 : decode cX9_debt 94 = .ok (.iload 5, 2) := by decide +kernel
theorem dX9_debt_96 : decode cX9_debt 96 = .ok (.iconst 3, 1) := by decide +kernel
theorem dX9_debt_97 : decode cX9_debt 97 = .ok (.iadd, 1) := by decide +kernel
theorem dX9_debt_98 : decode cX9_debt 98 = .ok (.iload 4, 2) := by decide +kernel
theorem dX9_debt_100 : decode cX9_debt 100 = .ok (.iastore, 1) := by decide +kernel
theorem dX9_debt_101 : decode cX9_debt 101 = .ok (.aload_n 0, 1) := by decide +kernel
theorem dX9_debt_102 : decode cX9_debt 102 = .ok (.getfield 7, 3) := by decide +kernel
theorem dX9_debt_105 : decode cX9_debt 105 = .ok (.iload 5, 2) := by decide +kernel
theorem dX9_debt_107 : decode cX9_debt 107 = .ok (.iconst 4, 1) := by decide +kernel
theorem dX9_debt_108 : decode cX9_debt 108 = .ok (.iadd, 1) := by decide +kernel
theorem dX9_debt_109 : decode cX9_debt 109 = .ok (.iconst 0, 1) := by decide +kernel
theorem dX9_debt_110 : decode cX9_debt 110 = .ok (.iastore, 1) := by decide +kernel
theorem dX9_debt_111 : decode cX9_debt 111 = .ok (.aload_n 0, 1) := by decide +kernel
theorem dX9_debt_112 : decode cX9_debt 112 = .ok (.getfield 7, 3) := by decide +kernel
theorem dX9_debt_115 : decode cX9_debt 115 = .ok (.iload 5, 2) := by decide +kernel
theorem dX9_debt_117 : decode cX9_debt 117 = .ok (.iconst 5, 1) := by decide +kernel
theorem dX9_debt_118 : decode cX9_debt 118 = .ok (.iadd, 1) := by decide +kernel
theorem dX9_debt_119 : decode cX9_debt 119 = .ok (.iconst (-1), 1) := by decide +kernel
theorem dX9_debt_120 : decode cX9_debt 120 = .ok (.iastore, 1) := by decide +kernel
theorem dX9_debt_121 : decode cX9_debt 121 = .ok (.aload_n 0, 1) := by decide +kernel
theorem dX9_debt_122 : decode cX9_debt 122 = .ok (.getfield 7, 3) := by decide +kernel
theorem dX9_debt_125 : decode cX9_debt 125 = .ok (.iload 5, 2) := by decide +kernel
theorem dX9_debt_127 : decode cX9_debt 127 = .ok (.bipush 6, 2) := by decide +kernel
theorem dX9_debt_129 : decode cX9_debt 129 = .ok (.iadd, 1) := by decide +kernel
theorem dX9_debt_130 : decode cX9_debt 130 = .ok (.iconst 0, 1) := by decide +kernel
theorem dX9_debt_131 : decode cX9_debt 131 = .ok (.iastore, 1) := by decide +kernel
theorem dX9_debt_132 : decode cX9_debt 132 = .ok (.aload_n 0, 1) := by decide +kernel
theorem dX9_debt_133 : decode cX9_debt 133 = .ok (.getfield 7, 3) := by decide +kernel
theorem dX9_debt_136 : decode cX9_debt 136 = .ok (.iload 5, 2) := by decide +kernel
theorem dX9_debt_138 : decode cX9_debt 138 = .ok (.bipush 7, 2) := by decide +kernel
theorem dX9_debt_140 : decode cX9_debt 140 = .ok (.iadd, 1) := by decide +kernel
theorem dX9_debt_141 : decode cX9_debt 141 = .ok (.iconst 0, 1) := by decide +kernel
theorem dX9_debt_142 : decode cX9_debt 142 = .ok (.iastore, 1) := by decide +kernel
theorem dX9_debt_143 : decode cX9_debt 143 = .ok (.aload_n 0, 1) := by decide +kernel
theorem dX9_debt_144 : decode cX9_debt 144 = .ok (.dup, 1) := by decide +kernel
theorem dX9_debt_145 : decode cX9_debt 145 = .ok (.getfield 87, 3) := by decide +kernel
theorem dX9_debt_148 : decode cX9_debt 148 = .ok (.iconst 1, 1) := by decide +kernel
theorem dX9_debt_149 : decode cX9_debt 149 = .ok (.iadd, 1) := by decide +kernel
theorem dX9_debt_150 : decode cX9_debt 150 = .ok (.putfield 87, 3) := by decide +kernel
theorem dX9_debt_153 : decode cX9_debt 153 = .ok (.aload_n 0, 1) := by decide +kernel
theorem dX9_debt_154 : decode cX9_debt 154 = .ok (.getfield 87, 3) := by decide +kernel
theorem dX9_debt_157 : decode cX9_debt 157 = .ok (.iconst 1, 1) := by decide +kernel
theorem dX9_debt_158 : decode cX9_debt 158 = .ok (.isub, 1) := by decide +kernel
theorem dX9_debt_159 : decode cX9_debt 159 = .ok (.ireturn, 1) := by decide +kernel
theorem dX9_set_0 : decode cX9_set 0 = .ok (.aload_n 0, 1) := by decide +kernel
theorem dX9_set_1 : decode cX9_set 1 = .ok (.iload_n 1, 1) := by decide +kernel
theorem dX9_set_2 : decode cX9_set 2 = .ok (.invokevirtual 102, 3) := by decide +kernel
theorem dX9_set_5 : decode cX9_set 5 = .ok (.ifCond .eq 15, 3) := by decide +kernel
theorem dX9_set_8 : decode cX9_set 8 = .ok (.iload_n 2, 1) := by decide +kernel
theorem dX9_set_9 : decode cX9_set 9 = .ok (.i2l, 1) := by decide +kernel
theorem dX9_set_10 : decode cX9_set 10 = .ok (.lconst 0, 1) := by decide +kernel
theorem dX9_set_11 : decode cX9_set 11 = .ok (.ldc2_w 105, 3) := by decide +kernel
theorem dX9_set_14 : decode cX9_set 14 = .ok (.invokestatic 83, 3) := by decide +kernel
theorem dX9_set_17 : decode cX9_set 17 = .ok (.ifCond .ne 5, 3) := by decide +kernel
theorem dX9_set_20 : decode cX9_set 20 = .ok (.iconst (-1), 1) := by decide +kernel
theorem dX9_set_21 : decode cX9_set 21 = .ok (.ireturn, 1) := by decide +kernel
theorem dX9_set_22 : decode cX9_set 22 = .ok (.iload_n 2, 1) := by decide +kernel
theorem dX9_set_23 : decode cX9_set 23 = .ok (.ifCond .eq 8, 3) := by decide +kernel
theorem dX9_set_26 : decode cX9_set 26 = .ok (.iload_n 2, 1) := by decide +kernel
theorem dX9_set_27 : decode cX9_set 27 = .ok (.iconst 2, 1) := by decide +kernel
theorem dX9_set_28 : decode cX9_set 28 = .ok (.if_icmp .ne 13, 3) := by decide +kernel
theorem dX9_set_31 : decode cX9_set 31 = .ok (.iload_n 3, 1) := by decide +kernel
theorem dX9_set_32 : decode cX9_set 32 = .ok (.i2l, 1) := by decide +kernel
theorem dX9_set_33 : decode cX9_set 33 = .ok (.lconst 0, 1) := by decide +kernel
theorem dX9_set_34 : decode cX9_set 34 = .ok (.lconst 1, 1) := by decide +kernel
theorem dX9_set_35 : decode cX9_set 35 = .ok (.invokestatic 83, 3) := by decide +kernel
theorem dX9_set_38 : decode cX9_set 38 = .ok (.goto 43, 3) := by decide +kernel
theorem dX9_set_41 : decode cX9_set 41 = .ok (.iload_n 2, 1) := by decide +kernel
theorem dX9_set_42 : decode cX9_set 42 = .ok (.iconst 1, 1) := by decide +kernel
theorem dX9_set_43 : decode cX9_set 43 = .ok (.if_icmp .ne 17, 3) := by decide +kernel
theorem dX9_set_46 : decode cX9_set 46 = .ok (.iload_n 3, 1) := by decide +kernel
theorem dX9_set_47 : decode cX9_set 47 = .ok (.i2l, 1) := by decide +kernel
theorem dX9_set_48 : decode cX9_set 48 = .ok (.ldc2_w 107, 3) := by decide +kernel
theorem dX9_set_51 : decode cX9_set 51 = .ok (.ldc2_w 105, 3) := by decide +kernel
theorem dX9_set_54 : decode cX9_set 54 = .ok (.invokestatic 83, 3) := by decide +kernel
theorem dX9_set_57 : decode cX9_set 57 = .ok (.goto 24, 3) := by decide +kernel
theorem dX9_set_60 : decode cX9_set 60 = .ok (.iload_n 2, 1) := by decide +kernel
theorem dX9_set_61 : decode cX9_set 61 = .ok (.iconst 4, 1) := by decide +kernel
theorem dX9_set_62 : decode cX9_set 62 = .ok (.if_icmp .ne 15, 3) := by decide +kernel
theorem dX9_set_65 : decode cX9_set 65 = .ok (.iload_n 3, 1) := by decide +kernel
theorem dX9_set_66 : decode cX9_set 66 = .ok (.i2l, 1) := by decide +kernel
theorem dX9_set_67 : decode cX9_set 67 = .ok (.lconst 0, 1) := by decide +kernel
theorem dX9_set_68 : decode cX9_set 68 = .ok (.ldc2_w 100, 3) := by decide +kernel
theorem dX9_set_71 : decode cX9_set 71 = .ok (.invokestatic 83, 3) := by decide +kernel
theorem dX9_set_74 : decode cX9_set 74 = .ok (.goto 7, 3) := by decide +kernel
theorem dX9_set_77 : decode cX9_set 77 = .ok (.iload_n 3, 1) := by decide +kernel
theorem dX9_set_78 : decode cX9_set 78 = .ok (.invokestatic 96, 3) := by decide +kernel
theorem dX9_set_81 : decode cX9_set 81 = .ok (.istore 4, 2) := by decide +kernel
theorem dX9_set_83 : decode cX9_set 83 = .ok (.iload 4, 2) := by decide +kernel
theorem dX9_set_85 : decode cX9_set 85 = .ok (.ifCond .ne 5, 3) := by decide +kernel
theorem dX9_set_88 : decode cX9_set 88 = .ok (.iconst (-1), 1) := by decide +kernel
theorem dX9_set_89 : decode cX9_set 89 = .ok (.ireturn, 1) := by decide +kernel
theorem dX9_set_90 : decode cX9_set 90 = .ok (.bipush 8, 2) := by decide +kernel
theorem dX9_set_92 : decode cX9_set 92 = .ok (.iload_n 1, 1) := by decide +kernel
theorem dX9_set_93 : decode cX9_set 93 = .ok (.imul, 1) := by decide +kernel
theorem dX9_set_94 : decode cX9_set 94 = .ok (.iload_n 2, 1) := by decide +kernel
theorem dX9_set_95 : decode cX9_set 95 = .ok (.ifCond .ne 7, 3) := by decide +kernel
theorem dX9_set_98 : decode cX9_set 98 = .ok (.iconst 4, 1) := by decide +kernel
theorem dX9_set_99 : decode cX9_set 99 = .ok (.goto 42, 3) := by decide +kernel
theorem dX9_set_102 : decode cX9_set 102 = .ok (.iload_n 2, 1) := by decide +kernel
theorem dX9_set_103 : decode cX9_set 103 = .ok (.iconst 1, 1) := by decide +kernel
theorem dX9_set_104 : decode cX9_set 104 = .ok (.if_icmp .ne 7, 3) := by decide +kernel
theorem dX9_set_107 : decode cX9_set 107 = .ok (.iconst 5, 1) := by decide +kernel
theorem dX9_set_108 : decode cX9_set 108 = .ok (.goto 33, 3) := by decide +kernel
theorem dX9_set_111 : decode cX9_set 111 = .ok (.iload_n 2, 1) := by decide +kernel
theorem dX9_set_112 : decode cX9_set 112 = .ok (.iconst 2, 1) := by decide +kernel
theorem dX9_set_113 : decode cX9_set 113 = .ok (.if_icmp .ne 8, 3) := by decide +kernel
theorem dX9_set_116 : decode cX9_set 116 = .ok (.bipush 6, 2) := by decide +kernel
theorem dX9_set_118 : decode cX9_set 118 = .ok (.goto 23, 3) := by decide +kernel
theorem dX9_set_121 : decode cX9_set 121 = .ok (.iload_n 2, 1) := by decide +kernel
theorem dX9_set_122 : decode cX9_set 122 = .ok (.iconst 3, 1) := by decide +kernel
theorem dX9_set_123 : decode cX9_set 123 = .ok (.if_icmp .ne 8, 3) := by decide +kernel
theorem dX9_set_126 : decode cX9_set 126 = .ok (.bipush 7, 2) := by decide +kernel
theorem dX9_set_128 : decode cX9_set 128 = .ok (.goto 13, 3) := by decide +kernel
theorem dX9_set_131 : decode cX9_set 131 = .ok (.iload_n 2, 1) := by decide +kernel
theorem dX9_set_132 : decode cX9_set 132 = .ok (.iconst 4, 1) := by decide +kernel
theorem dX9_set_133 : decode cX9_set 133 = .ok (.if_icmp .ne 7, 3) := by decide +kernel
theorem dX9_set_136 : decode cX9_set 136 = .ok (.iconst 3, 1) := by decide +kernel
theorem dX9_set_137 : decode cX9_set 137 = .ok (.goto 4, 3) := by decide +kernel
theorem dX9_set_140 : decode cX9_set 140 = .ok (.iconst 2, 1) := by decide +kernel
theorem dX9_set_141 : decode cX9_set 141 = .ok (.iadd, 1) := by decide +kernel
theorem dX9_set_142 : decode cX9_set 142 = .ok (.istore 5, 2) := by decide +kernel
theorem dX9_set_144 : decode cX9_set 144 = .ok (.aload_n 0, 1) := by decide +kernel
theorem dX9_set_145 : decode cX9_set 145 = .ok (.getfield 7, 3) := by decide +kernel
theorem dX9_set_148 : decode cX9_set 148 = .ok (.iload 5, 2) := by decide +kernel
theorem dX9_set_150 : decode cX9_set 150 = .ok (.iaload, 1) := by decide +kernel
theorem dX9_set_151 : decode cX9_set 151 = .ok (.istore 6, 2) := by decide +kernel
theorem dX9_set_153 : decode cX9_set 153 = .ok (.aload_n 0, 1) := by decide +kernel
theorem dX9_set_154 : decode cX9_set 154 = .ok (.getfield 7, 3) := by decide +kernel
theorem dX9_set_157 : decode cX9_set 157 = .ok (.iload 5, 2) := by decide +kernel
theorem dX9_set_159 : decode cX9_set 159 = .ok (.iload_n 3, 1) := by decide +kernel
theorem dX9_set_160 : decode cX9_set 160 = .ok (.iastore, 1) := by decide +kernel
theorem dX9_set_161 : decode cX9_set 161 = .ok (.iload 6, 2) := by decide +kernel
theorem dX9_set_163 : decode cX9_set 163 = .ok (.ireturn, 1) := by decide +kernel
theorem dX9_addPayment_0 : decode cX9_addPayment 0 = .ok (.iconst 4, 1) := by decide +kernel
theorem dX9_addPayment_1 : decode cX9_addPayment 1 = .ok (.aload_n 0, 1) := by decide +kernel
theorem dX9_addPayment_2 : decode cX9_addPayment 2 = .ok (.getfield 91, 3) := by decide +kernel
theorem dX9_addPayment_5 : decode cX9_addPayment 5 = .ok (.imul, 1) := by decide +kernel
theorem dX9_addPayment_6 : decode cX9_addPayment 6 = .ok (.istore_n 3, 1) := by decide +kernel
theorem dX9_addPayment_7 : decode cX9_addPayment 7 = .ok (.aload_n 0, 1) := by decide +kernel
theorem dX9_addPayment_8 : decode cX9_addPayment 8 = .ok (.getfield 13, 3) := by decide +kernel
theorem dX9_addPayment_11 : decode cX9_addPayment 11 = .ok (.iload_n 3, 1) := by decide +kernel
theorem dX9_addPayment_12 : decode cX9_addPayment 12 = .ok (.iload_n 1, 1) := by decide +kernel
theorem dX9_addPayment_13 : decode cX9_addPayment 13 = .ok (.iastore, 1) := by decide +kernel
theorem dX9_addPayment_14 : decode cX9_addPayment 14 = .ok (.aload_n 0, 1) := by decide +kernel
theorem dX9_addPayment_15 : decode cX9_addPayment 15 = .ok (.getfield 13, 3) := by decide +kernel
theorem dX9_addPayment_18 : decode cX9_addPayment 18 = .ok (.iload_n 3, 1) := by decide +kernel
theorem dX9_addPayment_19 : decode cX9_addPayment 19 = .ok (.iconst 1, 1) := by decide +kernel
theorem dX9_addPayment_20 : decode cX9_addPayment 20 = .ok (.iadd, 1) := by decide +kernel
theorem dX9_addPayment_21 : decode cX9_addPayment 21 = .ok (.iload_n 2, 1) := by decide +kernel
theorem dX9_addPayment_22 : decode cX9_addPayment 22 = .ok (.iastore, 1) := by decide +kernel
theorem dX9_addPayment_23 : decode cX9_addPayment 23 = .ok (.aload_n 0, 1) := by decide +kernel
theorem dX9_addPayment_24 : decode cX9_addPayment 24 = .ok (.getfield 13, 3) := by decide +kernel
theorem dX9_addPayment_27 : decode cX9_addPayment 27 = .ok (.iload_n 3, 1) := by decide +kernel
theorem dX9_addPayment_28 : decode cX9_addPayment 28 = .ok (.iconst 2, 1) := by decide +kernel
theorem dX9_addPayment_29 : decode cX9_addPayment 29 = .ok (.iadd, 1) := by decide +kernel
theorem dX9_addPayment_30 : decode cX9_addPayment 30 = .ok (.iconst (-1), 1) := by decide +kernel
theorem dX9_addPayment_31 : decode cX9_addPayment 31 = .ok (.iastore, 1) := by decide +kernel
theorem dX9_addPayment_32 : decode cX9_addPayment 32 = .ok (.aload_n 0, 1) := by decide +kernel
theorem dX9_addPayment_33 : decode cX9_addPayment 33 = .ok (.getfield 13, 3) := by decide +kernel
theorem dX9_addPayment_36 : decode cX9_addPayment 36 = .ok (.iload_n 3, 1) := by decide +kernel
theorem dX9_addPayment_37 : decode cX9_addPayment 37 = .ok (.iconst 3, 1) := by decide +kernel
theorem dX9_addPayment_38 : decode cX9_addPayment 38 = .ok (.iadd, 1) := by decide +kernel
theorem dX9_addPayment_39 : decode cX9_addPayment 39 = .ok (.iconst (-1), 1) := by decide +kernel
theorem dX9_addPayment_40 : decode cX9_addPayment 40 = .ok (.iastore, 1) := by decide +kernel
theorem dX9_addPayment_41 : decode cX9_addPayment 41 = .ok (.aload_n 0, 1) := by decide +kernel
theorem dX9_addPayment_42 : decode cX9_addPayment 42 = .ok (.dup, 1) := by decide +kernel
theorem dX9_addPayment_43 : decode cX9_addPayment 43 = .ok (.getfield 91, 3) := by decide +kernel
theorem dX9_addPayment_46 : decode cX9_addPayment 46 = .ok (.iconst 1, 1) := by decide +kernel
theorem dX9_addPayment_47 : decode cX9_addPayment 47 = .ok (.iadd, 1) := by decide +kernel
theorem dX9_addPayment_48 : decode cX9_addPayment 48 = .ok (.putfield 91, 3) := by decide +kernel
theorem dX9_addPayment_51 : decode cX9_addPayment 51 = .ok (.return_, 1) := by decide +kernel
theorem dX9_pay_0 : decode cX9_pay 0 = .ok (.iload_n 1, 1) := by decide +kernel
theorem dX9_pay_1 : decode cX9_pay 1 = .ok (.invokestatic 96, 3) := by decide +kernel
theorem dX9_pay_4 : decode cX9_pay 4 = .ok (.ifCond .eq 15, 3) := by decide +kernel
theorem dX9_pay_7 : decode cX9_pay 7 = .ok (.iload_n 2, 1) := by decide +kernel
theorem dX9_pay_8 : decode cX9_pay 8 = .ok (.i2l, 1) := by decide +kernel
theorem dX9_pay_9 : decode cX9_pay 9 = .ok (.lconst 1, 1) := by decide +kernel
theorem dX9_pay_10 : decode cX9_pay 10 = .ok (.ldc2_w 94, 3) := by decide +kernel
theorem dX9_pay_13 : decode cX9_pay 13 = .ok (.invokestatic 83, 3) := by decide +kernel
theorem dX9_pay_16 : decode cX9_pay 16 = .ok (.ifCond .ne 5, 3) := by decide +kernel
theorem dX9_pay_19 : decode cX9_pay 19 = .ok (.iconst (-1), 1) := by decide +kernel
theorem dX9_pay_20 : decode cX9_pay 20 = .ok (.ireturn, 1) := by decide +kernel
theorem dX9_pay_21 : decode cX9_pay 21 = .ok (.aload_n 0, 1) := by decide +kernel
theorem dX9_pay_22 : decode cX9_pay 22 = .ok (.getfield 91, 3) := by decide +kernel
theorem dX9_pay_25 : decode cX9_pay 25 = .ok (.bipush 12, 2) := by decide +kernel
theorem dX9_pay_27 : decode cX9_pay 27 = .ok (.if_icmp .ne 6, 3) := by decide +kernel
theorem dX9_pay_30 : decode cX9_pay 30 = .ok (.bipush (-3), 2) := by decide +kernel
theorem dX9_pay_32 : decode cX9_pay 32 = .ok (.ireturn, 1) := by decide +kernel
theorem dX9_pay_33 : decode cX9_pay 33 = .ok (.aload_n 0, 1) := by decide +kernel
theorem dX9_pay_34 : decode cX9_pay 34 = .ok (.iload_n 1, 1) := by decide +kernel
theorem dX9_pay_35 : decode cX9_pay 35 = .ok (.iload_n 2, 1) := by decide +kernel
theorem dX9_pay_36 : decode cX9_pay 36 = .ok (.invokevirtual 109, 3) := by decide +kernel
theorem dX9_pay_39 : decode cX9_pay 39 = .ok (.aload_n 0, 1) := by decide +kernel
theorem dX9_pay_40 : decode cX9_pay 40 = .ok (.getfield 91, 3) := by decide +kernel
theorem dX9_pay_43 : decode cX9_pay 43 = .ok (.iconst 1, 1) := by decide +kernel
theorem dX9_pay_44 : decode cX9_pay 44 = .ok (.isub, 1) := by decide +kernel
theorem dX9_pay_45 : decode cX9_pay 45 = .ok (.ireturn, 1) := by decide +kernel
theorem dX9_word_0 : decode cX9_word 0 = .ok (.aload_n 0, 1) := by decide +kernel
theorem dX9_word_1 : decode cX9_word 1 = .ok (.iload_n 1, 1) := by decide +kernel
theorem dX9_word_2 : decode cX9_word 2 = .ok (.invokevirtual 113, 3) := by decide +kernel
theorem dX9_word_5 : decode cX9_word 5 = .ok (.ifCond .eq 31, 3) := by decide +kernel
theorem dX9_word_8 : decode cX9_word 8 = .ok (.iload_n 2, 1) := by decide +kernel
theorem dX9_word_9 : decode cX9_word 9 = .ok (.i2l, 1) := by decide +kernel
theorem dX9_word_10 : decode cX9_word 10 = .ok (.lconst 0, 1) := by decide +kernel
theorem dX9_word_11 : decode cX9_word 11 = .ok (.lconst 1, 1) := by decide +kernel
theorem dX9_word_12 : decode cX9_word 12 = .ok (.invokestatic 83, 3) := by decide +kernel
theorem dX9_word_15 : decode cX9_word 15 = .ok (.ifCond .eq 21, 3) := by decide +kernel
theorem dX9_word_18 : decode cX9_word 18 = .ok (.iload_n 3, 1) := by decide +kernel
theorem dX9_word_19 : decode cX9_word 19 = .ok (.i2l, 1) := by decide +kernel
theorem dX9_word_20 : decode cX9_word 20 = .ok (.ldc2_w 107, 3) := by decide +kernel
theorem dX9_word_23 : decode cX9_word 23 = .ok (.aload_n 0, 1) := by decide +kernel
theorem dX9_word_24 : decode cX9_word 24 = .ok (.getfield 87, 3) := by decide +kernel
theorem dX9_word_27 : decode cX9_word 27 = .ok (.iconst 1, 1) := by decide +kernel
theorem dX9_word_28 : decode cX9_word 28 = .ok (.isub, 1) := by decide +kernel
theorem dX9_word_29 : decode cX9_word 29 = .ok (.i2l, 1) := by decide +kernel
theorem dX9_word_30 : decode cX9_word 30 = .ok (.invokestatic 83, 3) := by decide +kernel
theorem dX9_word_33 : decode cX9_word 33 = .ok (.ifCond .ne 6, 3) := by decide +kernel
theorem dX9_word_36 : decode cX9_word 36 = .ok (.bipush (-101), 2) := by decide +kernel
theorem dX9_word_38 : decode cX9_word 38 = .ok (.ireturn, 1) := by decide +kernel
theorem dX9_word_39 : decode cX9_word 39 = .ok (.aload_n 0, 1) := by decide +kernel
theorem dX9_word_40 : decode cX9_word 40 = .ok (.getfield 13, 3) := by decide +kernel
theorem dX9_word_43 : decode cX9_word 43 = .ok (.iconst 4, 1) := by decide +kernel
theorem dX9_word_44 : decode cX9_word 44 = .ok (.iload_n 1, 1) := by decide +kernel
theorem dX9_word_45 : decode cX9_word 45 = .ok (.imul, 1) := by decide +kernel
theorem dX9_word_46 : decode cX9_word 46 = .ok (.iconst 2, 1) := by decide +kernel
theorem dX9_word_47 : decode cX9_word 47 = .ok (.iadd, 1) := by decide +kernel
theorem dX9_word_48 : decode cX9_word 48 = .ok (.iload_n 2, 1) := by decide +kernel
theorem dX9_word_49 : decode cX9_word 49 = .ok (.iadd, 1) := by decide +kernel
theorem dX9_word_50 : decode cX9_word 50 = .ok (.iaload, 1) := by decide +kernel
theorem dX9_word_51 : decode cX9_word 51 = .ok (.istore 4, 2) := by decide +kernel
theorem dX9_word_53 : decode cX9_word 53 = .ok (.aload_n 0, 1) := by decide +kernel
theorem dX9_word_54 : decode cX9_word 54 = .ok (.getfield 13, 3) := by decide +kernel
theorem dX9_word_57 : decode cX9_word 57 = .ok (.iconst 4, 1) := by decide +kernel
theorem dX9_word_58 : decode cX9_word 58 = .ok (.iload_n 1, 1) := by decide +kernel
theorem dX9_word_59 : decode cX9_word 59 = .ok (.imul, 1) := by decide +kernel
theorem dX9_word_60 : decode cX9_word 60 = .ok (.iconst 2, 1) := by decide +kernel
theorem dX9_word_61 : decode cX9_word 61 = .ok (.iadd, 1) := by decide +kernel
theorem dX9_word_62 : decode cX9_word 62 = .ok (.iload_n 2, 1) := by decide +kernel
theorem dX9_word_63 : decode cX9_word 63 = .ok (.iadd, 1) := by decide +kernel
theorem dX9_word_64 : decode cX9_word 64 = .ok (.iload_n 3, 1) := by decide +kernel
theorem dX9_word_65 : decode cX9_word 65 = .ok (.iastore, 1) := by decide +kernel
theorem dX9_word_66 : decode cX9_word 66 = .ok (.iload 4, 2) := by decide +kernel
theorem dX9_word_68 : decode cX9_word 68 = .ok (.ireturn, 1) := by decide +kernel
theorem dX9_move_0 : decode cX9_move 0 = .ok (.aload_n 0, 1) := by decide +kernel
theorem dX9_move_1 : decode cX9_move 1 = .ok (.iload_n 1, 1) := by decide +kernel
theorem dX9_move_2 : decode cX9_move 2 = .ok (.invokevirtual 113, 3) := by decide +kernel
theorem dX9_move_5 : decode cX9_move 5 = .ok (.ifCond .eq 10, 3) := by decide +kernel
theorem dX9_move_8 : decode cX9_move 8 = .ok (.iload_n 2, 1) := by decide +kernel
theorem dX9_move_9 : decode cX9_move 9 = .ok (.invokestatic 96, 3) := by decide +kernel
theorem dX9_move_12 : decode cX9_move 12 = .ok (.ifCond .ne 5, 3) := by decide +kernel
theorem dX9_move_15 : decode cX9_move 15 = .ok (.iconst (-1), 1) := by decide +kernel
theorem dX9_move_16 : decode cX9_move 16 = .ok (.ireturn, 1) := by decide +kernel
theorem dX9_move_17 : decode cX9_move 17 = .ok (.aload_n 0, 1) := by decide +kernel
theorem dX9_move_18 : decode cX9_move 18 = .ok (.getfield 13, 3) := by decide +kernel
theorem dX9_move_21 : decode cX9_move 21 = .ok (.iconst 4, 1) := by decide +kernel
theorem dX9_move_22 : decode cX9_move 22 = .ok (.iload_n 1, 1) := by decide +kernel
theorem dX9_move_23 : decode cX9_move 23 = .ok (.imul, 1) := by decide +kernel
theorem dX9_move_24 : decode cX9_move 24 = .ok (.iaload, 1) := by decide +kernel
theorem dX9_move_25 : decode cX9_move 25 = .ok (.istore_n 3, 1) := by decide +kernel
theorem dX9_move_26 : decode cX9_move 26 = .ok (.aload_n 0, 1) := by decide +kernel
theorem dX9_move_27 : decode cX9_move 27 = .ok (.getfield 13, 3) := by decide +kernel
theorem dX9_move_30 : decode cX9_move 30 = .ok (.iconst 4, 1) := by decide +kernel
theorem dX9_move_31 : decode cX9_move 31 = .ok (.iload_n 1, 1) := by decide +kernel
theorem dX9_move_32 : decode cX9_move 32 = .ok (.imul, 1) := by decide +kernel
theorem dX9_move_33 : decode cX9_move 33 = .ok (.iload_n 2, 1) := by decide +kernel
theorem dX9_move_34 : decode cX9_move 34 = .ok (.iastore, 1) := by decide +kernel
theorem dX9_move_35 : decode cX9_move 35 = .ok (.iload_n 3, 1) := by decide +kernel
theorem dX9_move_36 : decode cX9_move 36 = .ok (.ireturn, 1) := by decide +kernel
theorem dX9_count_0 : decode cX9_count 0 = .ok (.iload_n 1, 1) := by decide +kernel
theorem dX9_count_1 : decode cX9_count 1 = .ok (.i2l, 1) := by decide +kernel
theorem dX9_count_2 : decode cX9_count 2 = .ok (.lconst 0, 1) := by decide +kernel
theorem dX9_count_3 : decode cX9_count 3 = .ok (.ldc2_w 116, 3) := by decide +kernel
theorem dX9_count_6 : decode cX9_count 6 = .ok (.invokestatic 83, 3) := by decide +kernel
theorem dX9_count_9 : decode cX9_count 9 = .ok (.ifCond .ne 5, 3) := by decide +kernel
theorem dX9_count_12 : decode cX9_count 12 = .ok (.iconst (-1), 1) := by decide +kernel
theorem dX9_count_13 : decode cX9_count 13 = .ok (.ireturn, 1) := by decide +kernel
theorem dX9_count_14 : decode cX9_count 14 = .ok (.iconst 0, 1) := by decide +kernel
theorem dX9_count_15 : decode cX9_count 15 = .ok (.istore_n 2, 1) := by decide +kernel
theorem dX9_count_16 : decode cX9_count 16 = .ok (.iconst 0, 1) := by decide +kernel
theorem dX9_count_17 : decode cX9_count 17 = .ok (.istore_n 3, 1) := by decide +kernel
theorem dX9_count_18 : decode cX9_count 18 = .ok (.iload_n 3, 1) := by decide +kernel
theorem dX9_count_19 : decode cX9_count 19 = .ok (.aload_n 0, 1) := by decide +kernel
theorem dX9_count_20 : decode cX9_count 20 = .ok (.getfield 87, 3) := by decide +kernel
theorem dX9_count_23 : decode cX9_count 23 = .ok (.if_icmp .ge 51, 3) := by decide +kernel
theorem dX9_count_26 : decode cX9_count 26 = .ok (.iload_n 2, 1) := by decide +kernel
theorem dX9_count_27 : decode cX9_count 27 = .ok (.iload_n 1, 1) := by decide +kernel
theorem dX9_count_28 : decode cX9_count 28 = .ok (.iconst 2, 1) := by decide +kernel
theorem dX9_count_29 : decode cX9_count 29 = .ok (.if_icmp .ne 25, 3) := by decide +kernel
theorem dX9_count_32 : decode cX9_count 32 = .ok (.aload_n 0, 1) := by decide +kernel
theorem dX9_count_33 : decode cX9_count 33 = .ok (.getfield 7, 3) := by decide +kernel
theorem dX9_count_36 : decode cX9_count 36 = .ok (.bipush 8, 2) := by decide +kernel
theorem dX9_count_38 : decode cX9_count 38 = .ok (.iload_n 3, 1) := by decide +kernel
theorem dX9_count_39 : decode cX9_count 39 = .ok (.imul, 1) := by decide +kernel
theorem dX9_count_40 : decode cX9_count 40 = .ok (.iconst 5, 1) := by decide +kernel
theorem dX9_count_41 : decode cX9_count 41 = .ok (.iadd, 1) := by decide +kernel
theorem dX9_count_42 : decode cX9_count 42 = .ok (.iaload, 1) := by decide +kernel
theorem dX9_count_43 : decode cX9_count 43 = .ok (.ifCond .lt 7, 3) := by decide +kernel
theorem dX9_count_46 : decode cX9_count 46 = .ok (.iconst 1, 1) := by decide +kernel
theorem dX9_count_47 : decode cX9_count 47 = .ok (.goto 19, 3) := by decide +kernel
theorem dX9_count_50 : decode cX9_count 50 = .ok (.iconst 0, 1) := by decide +kernel
theorem dX9_count_51 : decode cX9_count 51 = .ok (.goto 15, 3) := by decide +kernel
theorem dX9_count_54 : decode cX9_count 54 = .ok (.aload_n 0, 1) := by decide +kernel
theorem dX9_count_55 : decode cX9_count 55 = .ok (.getfield 7, 3) := by decide +kernel
theorem dX9_count_58 : decode cX9_count 58 = .ok (.bipush 8, 2) := by decide +kernel
theorem dX9_count_60 : decode cX9_count 60 = .ok (.iload_n 3, 1) := by decide +kernel
theorem dX9_count_61 : decode cX9_count 61 = .ok (.imul, 1) := by decide +kernel
theorem dX9_count_62 : decode cX9_count 62 = .ok (.bipush 6, 2) := by decide +kernel
theorem dX9_count_64 : decode cX9_count 64 = .ok (.iadd, 1) := by decide +kernel
theorem dX9_count_65 : decode cX9_count 65 = .ok (.iaload, 1) := by decide +kernel
theorem dX9_count_66 : decode cX9_count 66 = .ok (.iadd, 1) := by decide +kernel
theorem dX9_count_67 : decode cX9_count 67 = .ok (.istore_n 2, 1) := by decide +kernel
theorem dX9_count_68 : decode cX9_count 68 = .ok (.iinc 3 1, 3) := by decide +kernel
theorem dX9_count_71 : decode cX9_count 71 = .ok (.goto (-53), 3) := by decide +kernel
theorem dX9_count_74 : decode cX9_count 74 = .ok (.iload_n 1, 1) := by decide +kernel
theorem dX9_count_75 : decode cX9_count 75 = .ok (.ifCond .ne 10, 3) := by decide +kernel
theorem dX9_count_78 : decode cX9_count 78 = .ok (.aload_n 0, 1) := by decide +kernel
theorem dX9_count_79 : decode cX9_count 79 = .ok (.getfield 87, 3) := by decide +kernel
theorem dX9_count_82 : decode cX9_count 82 = .ok (.goto 16, 3) := by decide +kernel
theorem dX9_count_85 : decode cX9_count 85 = .ok (.iload_n 1, 1) := by decide +kernel
theorem dX9_count_86 : decode cX9_count 86 = .ok (.iconst 1, 1) := by decide +kernel
theorem dX9_count_87 : decode cX9_count 87 = .ok (.if_icmp .ne 10, 3) := by decide +kernel
theorem dX9_count_90 : decode cX9_count 90 = .ok (.aload_n 0, 1) := by decide +kernel
theorem dX9_count_91 : decode cX9_count 91 = .ok (.getfield 91, 3) := by decide +kernel
theorem dX9_count_94 : decode cX9_count 94 = .ok (.goto 4, 3) := by decide +kernel
theorem dX9_count_97 : decode cX9_count 97 = .ok (.iload_n 2, 1) := by decide +kernel
theorem dX9_count_98 : decode cX9_count 98 = .ok (.ireturn, 1) := by decide +kernel
theorem dX9_type_0 : decode cX9_type 0 = .ok (.iload_n 3, 1) := by decide +kernel
theorem dX9_type_1 : decode cX9_type 1 = .ok (.i2l, 1) := by decide +kernel
theorem dX9_type_2 : decode cX9_type 2 = .ok (.lconst 1, 1) := by decide +kernel
theorem dX9_type_3 : decode cX9_type 3 = .ok (.ldc2_w 118, 3) := by decide +kernel
theorem dX9_type_6 : decode cX9_type 6 = .ok (.invokestatic 83, 3) := by decide +kernel
theorem dX9_type_9 : decode cX9_type 9 = .ok (.ifCond .ne 5, 3) := by decide +kernel
theorem dX9_type_12 : decode cX9_type 12 = .ok (.iconst (-1), 1) := by decide +kernel
theorem dX9_type_13 : decode cX9_type 13 = .ok (.ireturn, 1) := by decide +kernel
theorem dX9_type_14 : decode cX9_type 14 = .ok (.iload_n 3, 1) := by decide +kernel
theorem dX9_type_15 : decode cX9_type 15 = .ok (.iconst 1, 1) := by decide +kernel
theorem dX9_type_16 : decode cX9_type 16 = .ok (.isub, 1) := by decide +kernel
theorem dX9_type_17 : decode cX9_type 17 = .ok (.istore 4, 2) := by decide +kernel
theorem dX9_type_19 : decode cX9_type 19 = .ok (.iload 4, 2) := by decide +kernel
theorem dX9_type_21 : decode cX9_type 21 = .ok (.ifCond .lt 34, 3) := by decide +kernel
theorem dX9_type_24 : decode cX9_type 24 = .ok (.lload_n 1, 1) := by decide +kernel
theorem dX9_type_25 : decode cX9_type 25 = .ok (.bipush 8, 2) := by decide +kernel
theorem dX9_type_27 : decode cX9_type 27 = .ok (.iload 4, 2) := by decide +kernel
theorem dX9_type_29 : decode cX9_type 29 = .ok (.imul, 1) := by decide +kernel
theorem dX9_type_30 : decode cX9_type 30 = .ok (.lshr, 1) := by decide +kernel
theorem dX9_type_31 : decode cX9_type 31 = .ok (.ldc2_w 120, 3) := by decide +kernel
theorem dX9_type_34 : decode cX9_type 34 = .ok (.land, 1) := by decide +kernel
theorem dX9_type_35 : decode cX9_type 35 = .ok (.ldc2_w 122, 3) := by decide +kernel
theorem dX9_type_38 : decode cX9_type 38 = .ok (.ldc2_w 124, 3) := by decide +kernel
theorem dX9_type_41 : decode cX9_type 41 = .ok (.invokestatic 83, 3) := by decide +kernel
theorem dX9_type_44 : decode cX9_type 44 = .ok (.ifCond .ne 5, 3) := by decide +kernel
theorem dX9_type_47 : decode cX9_type 47 = .ok (.iconst (-1), 1) := by decide +kernel
theorem dX9_type_48 : decode cX9_type 48 = .ok (.ireturn, 1) := by decide +kernel
theorem dX9_type_49 : decode cX9_type 49 = .ok (.iinc 4 (-1), 3) := by decide +kernel
theorem dX9_type_52 : decode cX9_type 52 = .ok (.goto (-33), 3) := by decide +kernel
theorem dX9_type_55 : decode cX9_type 55 = .ok (.aload_n 0, 1) := by decide +kernel
theorem dX9_type_56 : decode cX9_type 56 = .ok (.getfield 126, 3) := by decide +kernel
theorem dX9_type_59 : decode cX9_type 59 = .ok (.iload_n 3, 1) := by decide +kernel
theorem dX9_type_60 : decode cX9_type 60 = .ok (.iadd, 1) := by decide +kernel
theorem dX9_type_61 : decode cX9_type 61 = .ok (.bipush 40, 2) := by decide +kernel
theorem dX9_type_63 : decode cX9_type 63 = .ok (.if_icmp .le 6, 3) := by decide +kernel
theorem dX9_type_66 : decode cX9_type 66 = .ok (.bipush (-3), 2) := by decide +kernel
theorem dX9_type_68 : decode cX9_type 68 = .ok (.ireturn, 1) := by decide +kernel
theorem dX9_type_69 : decode cX9_type 69 = .ok (.iload_n 3, 1) := by decide +kernel
theorem dX9_type_70 : decode cX9_type 70 = .ok (.iconst 1, 1) := by decide +kernel
theorem dX9_type_71 : decode cX9_type 71 = .ok (.isub, 1) := by decide +kernel
theorem dX9_type_72 : decode cX9_type 72 = .ok (.istore 4, 2) := by decide +kernel
theorem dX9_type_74 : decode cX9_type 74 = .ok (.iload 4, 2) := by decide +kernel
theorem dX9_type_76 : decode cX9_type 76 = .ok (.ifCond .lt 40, 3) := by decide +kernel
theorem dX9_type_79 : decode cX9_type 79 = .ok (.aload_n 0, 1) := by decide +kernel
theorem dX9_type_80 : decode cX9_type 80 = .ok (.getfield 16, 3) := by decide +kernel
theorem dX9_type_83 : decode cX9_type 83 = .ok (.aload_n 0, 1) := by decide +kernel
theorem dX9_type_84 : decode cX9_type 84 = .ok (.getfield 126, 3) := by decide +kernel
theorem dX9_type_87 : decode cX9_type 87 = .ok (.lload_n 1, 1) := by decide +kernel
theorem dX9_type_88 : decode cX9_type 88 = .ok (.bipush 8, 2) := by decide +kernel
theorem dX9_type_90 : decode cX9_type 90 = .ok (.iload 4, 2) := by decide +kernel
theorem dX9_type_92 : decode cX9_type 92 = .ok (.imul, 1) := by decide +kernel
theorem dX9_type_93 : decode cX9_type 93 = .ok (.lshr, 1) := by decide +kernel
theorem dX9_type_94 : decode cX9_type 94 = .ok (.ldc2_w 120, 3) := by decide +kernel
theorem dX9_type_97 : decode cX9_type 97 = .ok (.land, 1) := by decide +kernel
theorem dX9_type_98 : decode cX9_type 98 = .ok (.l2i, 1) := by decide +kernel
theorem dX9_type_99 : decode cX9_type 99 = .ok (.iastore, 1) := by decide +kernel
theorem dX9_type_100 : decode cX9_type 100 = .ok (.aload_n 0, 1) := by decide +kernel
theorem dX9_type_101 : decode cX9_type 101 = .ok (.dup, 1) := by decide +kernel
theorem dX9_type_102 : decode cX9_type 102 = .ok (.getfield 126, 3) := by decide +kernel
theorem dX9_type_105 : decode cX9_type 105 = .ok (.iconst 1, 1) := by decide +kernel
theorem dX9_type_106 : decode cX9_type 106 = .ok (.iadd, 1) := by decide +kernel
theorem dX9_type_107 : decode cX9_type 107 = .ok (.putfield 126, 3) := by decide +kernel
theorem dX9_type_110 : decode cX9_type 110 = .ok (.iinc 4 (-1), 3) := by decide +kernel
theorem dX9_type_113 : decode cX9_type 113 = .ok (.goto (-39), 3) := by decide +kernel
theorem dX9_type_116 : decode cX9_type 116 = .ok (.aload_n 0, 1) := by decide +kernel
theorem dX9_type_117 : decode cX9_type 117 = .ok (.getfield 126, 3) := by decide +kernel
theorem dX9_type_120 : decode cX9_type 120 = .ok (.ireturn, 1) := by decide +kernel
theorem dX9_isLetter_0 : decode cX9_isLetter 0 = .ok (.iload_n 0, 1) := by decide +kernel
theorem dX9_isLetter_1 : decode cX9_isLetter 1 = .ok (.bipush 99, 2) := by decide +kernel
theorem dX9_isLetter_3 : decode cX9_isLetter 3 = .ok (.if_icmp .eq 57, 3) := by decide +kernel
theorem dX9_isLetter_6 : decode cX9_isLetter 6 = .ok (.iload_n 0, 1) := by decide +kernel
theorem dX9_isLetter_7 : decode cX9_isLetter 7 = .ok (.bipush 116, 2) := by decide +kernel
theorem dX9_isLetter_9 : decode cX9_isLetter 9 = .ok (.if_icmp .eq 51, 3) := by decide +kernel
theorem dX9_isLetter_12 : decode cX9_isLetter 12 = .ok (.iload_n 0, 1) := by decide +kernel
theorem dX9_isLetter_13 : decode cX9_isLetter 13 = .ok (.bipush 115, 2) := by decide +kernel
theorem dX9_isLetter_15 : decode cX9_isLetter 15 = .ok (.if_icmp .eq 45, 3) := by decide +kernel
theorem dX9_isLetter_18 : decode cX9_isLetter 18 = .ok (.iload_n 0, 1) := by decide +kernel
theorem dX9_isLetter_19 : decode cX9_isLetter 19 = .ok (.bipush 120, 2) := by decide +kernel
theorem dX9_isLetter_21 : decode cX9_isLetter 21 = .ok (.if_icmp .eq 39, 3) := by decide +kernel
theorem dX9_isLetter_24 : decode cX9_isLetter 24 = .ok (.iload_n 0, 1) := by decide +kernel
theorem dX9_isLetter_25 : decode cX9_isLetter 25 = .ok (.bipush 112, 2) := by decide +kernel
theorem dX9_isLetter_27 : decode cX9_isLetter 27 = .ok (.if_icmp .eq 33, 3) := by decide +kernel
theorem dX9_isLetter_30 : decode cX9_isLetter 30 = .ok (.iload_n 0, 1) := by decide +kernel
theorem dX9_isLetter_31 : decode cX9_isLetter 31 = .ok (.bipush 100, 2) := by decide +kernel
theorem dX9_isLetter_33 : decode cX9_isLetter 33 = .ok (.if_icmp .eq 27, 3) := by decide +kernel
theorem dX9_isLetter_36 : decode cX9_isLetter 36 = .ok (.iload_n 0, 1) := by decide +kernel
theorem dX9_isLetter_37 : decode cX9_isLetter 37 = .ok (.bipush 104, 2) := by decide +kernel
theorem dX9_isLetter_39 : decode cX9_isLetter 39 = .ok (.if_icmp .eq 21, 3) := by decide +kernel
theorem dX9_isLetter_42 : decode cX9_isLetter 42 = .ok (.iload_n 0, 1) := by decide +kernel
theorem dX9_isLetter_43 : decode cX9_isLetter 43 = .ok (.bipush 117, 2) := by decide +kernel
theorem dX9_isLetter_45 : decode cX9_isLetter 45 = .ok (.if_icmp .eq 15, 3) := by decide +kernel
theorem dX9_isLetter_48 : decode cX9_isLetter 48 = .ok (.iload_n 0, 1) := by decide +kernel
theorem dX9_isLetter_49 : decode cX9_isLetter 49 = .ok (.bipush 111, 2) := by decide +kernel
theorem dX9_isLetter_51 : decode cX9_isLetter 51 = .ok (.if_icmp .eq 9, 3) := by decide +kernel
theorem dX9_isLetter_54 : decode cX9_isLetter 54 = .ok (.iload_n 0, 1) := by decide +kernel
theorem dX9_isLetter_55 : decode cX9_isLetter 55 = .ok (.bipush 108, 2) := by decide +kernel
theorem dX9_isLetter_57 : decode cX9_isLetter 57 = .ok (.if_icmp .ne 7, 3) := by decide +kernel
theorem dX9_isLetter_60 : decode cX9_isLetter 60 = .ok (.iconst 1, 1) := by decide +kernel
theorem dX9_isLetter_61 : decode cX9_isLetter 61 = .ok (.goto 4, 3) := by decide +kernel
theorem dX9_isLetter_64 : decode cX9_isLetter 64 = .ok (.iconst 0, 1) := by decide +kernel
theorem dX9_isLetter_65 : decode cX9_isLetter 65 = .ok (.ireturn, 1) := by decide +kernel
theorem dX9_law_0 : decode cX9_law 0 = .ok (.iload_n 1, 1) := by decide +kernel
theorem dX9_law_1 : decode cX9_law 1 = .ok (.invokestatic 129, 3) := by decide +kernel
theorem dX9_law_4 : decode cX9_law 4 = .ok (.ifCond .ne 5, 3) := by decide +kernel
theorem dX9_law_7 : decode cX9_law 7 = .ok (.iconst (-1), 1) := by decide +kernel
theorem dX9_law_8 : decode cX9_law 8 = .ok (.ireturn, 1) := by decide +kernel
theorem dX9_law_9 : decode cX9_law 9 = .ok (.iconst 0, 1) := by decide +kernel
theorem dX9_law_10 : decode cX9_law 10 = .ok (.istore_n 2, 1) := by decide +kernel
theorem dX9_law_11 : decode cX9_law 11 = .ok (.iconst (-1), 1) := by decide +kernel
theorem dX9_law_12 : decode cX9_law 12 = .ok (.istore_n 3, 1) := by decide +kernel
theorem dX9_law_13 : decode cX9_law 13 = .ok (.iconst 0, 1) := by decide +kernel
theorem dX9_law_14 : decode cX9_law 14 = .ok (.istore 4, 2) := by decide +kernel
theorem dX9_law_16 : decode cX9_law 16 = .ok (.iload 4, 2) := by decide +kernel
theorem dX9_law_18 : decode cX9_law 18 = .ok (.aload_n 0, 1) := by decide +kernel
theorem dX9_law_19 : decode cX9_law 19 = .ok (.getfield 126, 3) := by decide +kernel
theorem dX9_law_22 : decode cX9_law 22 = .ok (.if_icmp .ge 122, 3) := by decide +kernel
theorem dX9_law_25 : decode cX9_law 25 = .ok (.iload_n 3, 1) := by decide +kernel
theorem dX9_law_26 : decode cX9_law 26 = .ok (.ifCond .ge 118, 3) := by decide +kernel
theorem dX9_law_29 : decode cX9_law 29 = .ok (.aload_n 0, 1) := by decide +kernel
theorem dX9_law_30 : decode cX9_law 30 = .ok (.getfield 16, 3) := by decide +kernel
theorem dX9_law_33 : decode cX9_law 33 = .ok (.iload 4, 2) := by decide +kernel
theorem dX9_law_35 : decode cX9_law 35 = .ok (.iaload, 1) := by decide +kernel
theorem dX9_law_36 : decode cX9_law 36 = .ok (.invokestatic 132, 3) := by decide +kernel
theorem dX9_law_39 : decode cX9_law 39 = .ok (.ifCond .eq 13, 3) := by decide +kernel
theorem dX9_law_42 : decode cX9_law 42 = .ok (.iload_n 2, 1) := by decide +kernel
theorem dX9_law_43 : decode cX9_law 43 = .ok (.bipush 12, 2) := by decide +kernel
theorem dX9_law_45 : decode cX9_law 45 = .ok (.if_icmp .ge 7, 3) := by decide +kernel
theorem dX9_law_48 : decode cX9_law 48 = .ok (.iconst 1, 1) := by decide +kernel
theorem dX9_law_49 : decode cX9_law 49 = .ok (.goto 4, 3) := by decide +kernel
theorem dX9_law_52 : decode cX9_law 52 = .ok (.iconst 0, 1) := by decide +kernel
theorem dX9_law_53 : decode cX9_law 53 = .ok (.istore 5, 2) := by decide +kernel
theorem dX9_law_55 : decode cX9_law 55 = .ok (.iconst 0, 1) := by decide +kernel
theorem dX9_law_56 : decode cX9_law 56 = .ok (.istore 6, 2) := by decide +kernel
theorem dX9_law_58 : decode cX9_law 58 = .ok (.iload 6, 2) := by decide +kernel
theorem dX9_law_60 : decode cX9_law 60 = .ok (.iload_n 2, 1) := by decide +kernel
theorem dX9_law_61 : decode cX9_law 61 = .ok (.if_icmp .ge 38, 3) := by decide +kernel
theorem dX9_law_64 : decode cX9_law 64 = .ok (.iload 5, 2) := by decide +kernel
theorem dX9_law_66 : decode cX9_law 66 = .ok (.ifCond .eq 24, 3) := by decide +kernel
theorem dX9_law_69 : decode cX9_law 69 = .ok (.aload_n 0, 1) := by decide +kernel
theorem dX9_law_70 : decode cX9_law 70 = .ok (.getfield 25, 3) := by decide +kernel
theorem dX9_law_73 : decode cX9_law 73 = .ok (.iload 6, 2) := by decide +kernel
theorem dX9_law_75 : decode cX9_law 75 = .ok (.iaload, 1) := by decide +kernel
theorem dX9_law_76 : decode cX9_law 76 = .ok (.aload_n 0, 1) := by decide +kernel
theorem dX9_law_77 : decode cX9_law 77 = .ok (.getfield 16, 3) := by decide +kernel
theorem dX9_law_80 : decode cX9_law 80 = .ok (.iload 4, 2) := by decide +kernel
theorem dX9_law_82 : decode cX9_law 82 = .ok (.iaload, 1) := by decide +kernel
theorem dX9_law_83 : decode cX9_law 83 = .ok (.if_icmp .eq 7, 3) := by decide +kernel
theorem dX9_law_86 : decode cX9_law 86 = .ok (.iconst 1, 1) := by decide +kernel
theorem dX9_law_87 : decode cX9_law 87 = .ok (.goto 4, 3) := by decide +kernel
theorem dX9_law_90 : decode cX9_law 90 = .ok (.iconst 0, 1) := by decide +kernel
theorem dX9_law_91 : decode cX9_law 91 = .ok (.istore 5, 2) := by decide +kernel
theorem dX9_law_93 : decode cX9_law 93 = .ok (.iinc 6 1, 3) := by decide +kernel
theorem dX9_law_96 : decode cX9_law 96 = .ok (.goto (-38), 3) := by decide +kernel
theorem dX9_law_99 : decode cX9_law 99 = .ok (.iload 5, 2) := by decide +kernel
theorem dX9_law_101 : decode cX9_law 101 = .ok (.ifCond .eq 22, 3) := by decide +kernel
theorem dX9_law_104 : decode cX9_law 104 = .ok (.aload_n 0, 1) := by decide +kernel
theorem dX9_law_105 : decode cX9_law 105 = .ok (.getfield 25, 3) := by decide +kernel
theorem dX9_law_108 : decode cX9_law 108 = .ok (.iload_n 2, 1) := by decide +kernel
theorem dX9_law_109 : decode cX9_law 109 = .ok (.aload_n 0, 1) := by decide +kernel
theorem dX9_law_110 : decode cX9_law 110 = .ok (.getfield 16, 3) := by decide +kernel
theorem dX9_law_113 : decode cX9_law 113 = .ok (.iload 4, 2) := by decide +kernel
theorem dX9_law_115 : decode cX9_law 115 = .ok (.iaload, 1) := by decide +kernel
theorem dX9_law_116 : decode cX9_law 116 = .ok (.iastore, 1) := by decide +kernel
theorem dX9_law_117 : decode cX9_law 117 = .ok (.iinc 2 1, 3) := by decide +kernel
theorem dX9_law_120 : decode cX9_law 120 = .ok (.goto 18, 3) := by decide +kernel
theorem dX9_law_123 : decode cX9_law 123 = .ok (.aload_n 0, 1) := by decide +kernel
theorem dX9_law_124 : decode cX9_law 124 = .ok (.getfield 16, 3) := by decide +kernel
theorem dX9_law_127 : decode cX9_law 127 = .ok (.iload 4, 2) := by decide +kernel
theorem dX9_law_129 : decode cX9_law 129 = .ok (.iaload, 1) := by decide +kernel
theorem dX9_law_130 : decode cX9_law 130 = .ok (.bipush 32, 2) := by decide +kernel
theorem dX9_law_132 : decode cX9_law 132 = .ok (.if_icmp .eq 6, 3) := by decide +kernel
theorem dX9_law_135 : decode cX9_law 135 = .ok (.iload 4, 2) := by decide +kernel
theorem dX9_law_137 : decode cX9_law 137 = .ok (.istore_n 3, 1) := by decide +kernel
theorem dX9_law_138 : decode cX9_law 138 = .ok (.iinc 4 1, 3) := by decide +kernel
theorem dX9_law_141 : decode cX9_law 141 = .ok (.goto (-125), 3) := by decide +kernel
theorem dX9_law_144 : decode cX9_law 144 = .ok (.iload_n 3, 1) := by decide +kernel
theorem dX9_law_145 : decode cX9_law 145 = .ok (.ifCond .ge 14, 3) := by decide +kernel
theorem dX9_law_148 : decode cX9_law 148 = .ok (.iload_n 2, 1) := by decide +kernel
theorem dX9_law_149 : decode cX9_law 149 = .ok (.ifCond .ne 10, 3) := by decide +kernel
theorem dX9_law_152 : decode cX9_law 152 = .ok (.aload_n 0, 1) := by decide +kernel
theorem dX9_law_153 : decode cX9_law 153 = .ok (.getfield 126, 3) := by decide +kernel
theorem dX9_law_156 : decode cX9_law 156 = .ok (.goto 4, 3) := by decide +kernel
theorem dX9_law_159 : decode cX9_law 159 = .ok (.iload_n 3, 1) := by decide +kernel
theorem dX9_law_160 : decode cX9_law 160 = .ok (.istore_n 3, 1) := by decide +kernel
theorem dX9_law_161 : decode cX9_law 161 = .ok (.aload_n 0, 1) := by decide +kernel
theorem dX9_law_162 : decode cX9_law 162 = .ok (.iconst 0, 1) := by decide +kernel
theorem dX9_law_163 : decode cX9_law 163 = .ok (.putfield 126, 3) := by decide +kernel
theorem dX9_law_166 : decode cX9_law 166 = .ok (.iload_n 3, 1) := by decide +kernel
theorem dX9_law_167 : decode cX9_law 167 = .ok (.ifCond .lt 8, 3) := by decide +kernel
theorem dX9_law_170 : decode cX9_law 170 = .ok (.bipush (-20), 2) := by decide +kernel
theorem dX9_law_172 : decode cX9_law 172 = .ok (.iload_n 3, 1) := by decide +kernel
theorem dX9_law_173 : decode cX9_law 173 = .ok (.isub, 1) := by decide +kernel
theorem dX9_law_174 : decode cX9_law 174 = .ok (.ireturn, 1) := by decide +kernel
theorem dX9_law_175 : decode cX9_law 175 = .ok (.iconst 0, 1) := by decide +kernel
theorem dX9_law_176 : decode cX9_law 176 = .ok (.istore 4, 2) := by decide +kernel
theorem dX9_law_178 : decode cX9_law 178 = .ok (.iload 4, 2) := by decide +kernel
theorem dX9_law_180 : decode cX9_law 180 = .ok (.iload_n 2, 1) := by decide +kernel
theorem dX9_law_181 : decode cX9_law 181 = .ok (.if_icmp .ge 28, 3) := by decide +kernel
theorem dX9_law_184 : decode cX9_law 184 = .ok (.aload_n 0, 1) := by decide +kernel
theorem dX9_law_185 : decode cX9_law 185 = .ok (.getfield 19, 3) := by decide +kernel
theorem dX9_law_188 : decode cX9_law 188 = .ok (.bipush 12, 2) := by decide +kernel
theorem dX9_law_190 : decode cX9_law 190 = .ok (.iload_n 1, 1) := by decide +kernel
theorem dX9_law_191 : decode cX9_law 191 = .ok (.imul, 1) := by decide +kernel
theorem dX9_law_192 : decode cX9_law 192 = .ok (.iload 4, 2) := by decide +kernel
theorem dX9_law_194 : decode cX9_law 194 = .ok (.iadd, 1) := by decide +kernel
theorem dX9_law_195 : decode cX9_law 195 = .ok (.aload_n 0, 1) := by decide +kernel
theorem dX9_law_196 : decode cX9_law 196 = .ok (.getfield 25, 3) := by decide +kernel
theorem dX9_law_199 : decode cX9_law 199 = .ok (.iload 4, 2) := by decide +kernel
theorem dX9_law_201 : decode cX9_law 201 = .ok (.iaload, 1) := by decide +kernel
theorem dX9_law_202 : decode cX9_law 202 = .ok (.iastore, 1) := by decide +kernel
theorem dX9_law_203 : decode cX9_law 203 = .ok (.iinc 4 1, 3) := by decide +kernel
theorem dX9_law_206 : decode cX9_law 206 = .ok (.goto (-28), 3) := by decide +kernel
theorem dX9_law_209 : decode cX9_law 209 = .ok (.aload_n 0, 1) := by decide +kernel
theorem dX9_law_210 : decode cX9_law 210 = .ok (.getfield 22, 3) := by decide +kernel
theorem dX9_law_213 : decode cX9_law 213 = .ok (.iload_n 1, 1) := by decide +kernel
theorem dX9_law_214 : decode cX9_law 214 = .ok (.iload_n 2, 1) := by decide +kernel
theorem dX9_law_215 : decode cX9_law 215 = .ok (.iastore, 1) := by decide +kernel
theorem dX9_law_216 : decode cX9_law 216 = .ok (.iload_n 2, 1) := by decide +kernel
theorem dX9_law_217 : decode cX9_law 217 = .ok (.ireturn, 1) := by decide +kernel
theorem dX9_letter_0 : decode cX9_letter 0 = .ok (.iload_n 1, 1) := by decide +kernel
theorem dX9_letter_1 : decode cX9_letter 1 = .ok (.invokestatic 129, 3) := by decide +kernel
theorem dX9_letter_4 : decode cX9_letter 4 = .ok (.ifCond .eq 7, 3) := by decide +kernel
theorem dX9_letter_7 : decode cX9_letter 7 = .ok (.iload_n 2, 1) := by decide +kernel
theorem dX9_letter_8 : decode cX9_letter 8 = .ok (.ifCond .ge 7, 3) := by decide +kernel
theorem dX9_letter_11 : decode cX9_letter 11 = .ok (.iconst (-1), 1) := by decide +kernel
theorem dX9_letter_12 : decode cX9_letter 12 = .ok (.goto 29, 3) := by decide +kernel
theorem dX9_letter_15 : decode cX9_letter 15 = .ok (.iload_n 2, 1) := by decide +kernel
theorem dX9_letter_16 : decode cX9_letter 16 = .ok (.aload_n 0, 1) := by decide +kernel
theorem dX9_letter_17 : decode cX9_letter 17 = .ok (.getfield 22, 3) := by decide +kernel
theorem dX9_letter_20 : decode cX9_letter 20 = .ok (.iload_n 1, 1) := by decide +kernel
theorem dX9_letter_21 : decode cX9_letter 21 = .ok (.iaload, 1) := by decide +kernel
theorem dX9_letter_22 : decode cX9_letter 22 = .ok (.if_icmp .ge 17, 3) := by decide +kernel
theorem dX9_letter_25 : decode cX9_letter 25 = .ok (.aload_n 0, 1) := by decide +kernel
theorem dX9_letter_26 : decode cX9_letter 26 = .ok (.getfield 19, 3) := by decide +kernel
theorem dX9_letter_29 : decode cX9_letter 29 = .ok (.bipush 12, 2) := by decide +kernel
theorem dX9_letter_31 : decode cX9_letter 31 = .ok (.iload_n 1, 1) := by decide +kernel
theorem dX9_letter_32 : decode cX9_letter 32 = .ok (.imul, 1) := by decide +kernel
theorem dX9_letter_33 : decode cX9_letter 33 = .ok (.iload_n 2, 1) := by decide +kernel
theorem dX9_letter_34 : decode cX9_letter 34 = .ok (.iadd, 1) := by decide +kernel
theorem dX9_letter_35 : decode cX9_letter 35 = .ok (.iaload, 1) := by decide +kernel
theorem dX9_letter_36 : decode cX9_letter 36 = .ok (.goto 5, 3) := by decide +kernel
theorem dX9_letter_39 : decode cX9_letter 39 = .ok (.bipush (-4), 2) := by decide +kernel
theorem dX9_letter_41 : decode cX9_letter 41 = .ok (.ireturn, 1) := by decide +kernel
theorem dX9_has_0 : decode cX9_has 0 = .ok (.iconst 0, 1) := by decide +kernel
theorem dX9_has_1 : decode cX9_has 1 = .ok (.istore_n 3, 1) := by decide +kernel
theorem dX9_has_2 : decode cX9_has 2 = .ok (.iconst 0, 1) := by decide +kernel
theorem dX9_has_3 : decode cX9_has 3 = .ok (.istore 4, 2) := by decide +kernel
theorem dX9_has_5 : decode cX9_has 5 = .ok (.iload 4, 2) := by decide +kernel
theorem dX9_has_7 : decode cX9_has 7 = .ok (.aload_n 0, 1) := by decide +kernel
theorem dX9_has_8 : decode cX9_has 8 = .ok (.getfield 22, 3) := by decide +kernel
theorem dX9_has_11 : decode cX9_has 11 = .ok (.iload_n 1, 1) := by decide +kernel
theorem dX9_has_12 : decode cX9_has 12 = .ok (.iaload, 1) := by decide +kernel
theorem dX9_has_13 : decode cX9_has 13 = .ok (.if_icmp .ge 35, 3) := by decide +kernel
theorem dX9_has_16 : decode cX9_has 16 = .ok (.iload_n 3, 1) := by decide +kernel
theorem dX9_has_17 : decode cX9_has 17 = .ok (.ifCond .ne 19, 3) := by decide +kernel
theorem dX9_has_20 : decode cX9_has 20 = .ok (.aload_n 0, 1) := by decide +kernel
theorem dX9_has_21 : decode cX9_has 21 = .ok (.getfield 19, 3) := by decide +kernel
theorem dX9_has_24 : decode cX9_has 24 = .ok (.bipush 12, 2) := by decide +kernel
theorem dX9_has_26 : decode cX9_has 26 = .ok (.iload_n 1, 1) := by decide +kernel
theorem dX9_has_27 : decode cX9_has 27 = .ok (.imul, 1) := by decide +kernel
theorem dX9_has_28 : decode cX9_has 28 = .ok (.iload 4, 2) := by decide +kernel
theorem dX9_has_30 : decode cX9_has 30 = .ok (.iadd, 1) := by decide +kernel
theorem dX9_has_31 : decode cX9_has 31 = .ok (.iaload, 1) := by decide +kernel
theorem dX9_has_32 : decode cX9_has 32 = .ok (.iload_n 2, 1) := by decide +kernel
theorem dX9_has_33 : decode cX9_has 33 = .ok (.if_icmp .ne 7, 3) := by decide +kernel
theorem dX9_has_36 : decode cX9_has 36 = .ok (.iconst 1, 1) := by decide +kernel
theorem dX9_has_37 : decode cX9_has 37 = .ok (.goto 4, 3) := by decide +kernel
theorem dX9_has_40 : decode cX9_has 40 = .ok (.iconst 0, 1) := by decide +kernel
theorem dX9_has_41 : decode cX9_has 41 = .ok (.istore_n 3, 1) := by decide +kernel
theorem dX9_has_42 : decode cX9_has 42 = .ok (.iinc 4 1, 3) := by decide +kernel
theorem dX9_has_45 : decode cX9_has 45 = .ok (.goto (-40), 3) := by decide +kernel
theorem dX9_has_48 : decode cX9_has 48 = .ok (.iload_n 3, 1) := by decide +kernel
theorem dX9_has_49 : decode cX9_has 49 = .ok (.ireturn, 1) := by decide +kernel
theorem dX9_beginDays_0 : decode cX9_beginDays 0 = .ok (.iconst 0, 1) := by decide +kernel
theorem dX9_beginDays_1 : decode cX9_beginDays 1 = .ok (.istore_n 1, 1) := by decide +kernel
theorem dX9_beginDays_2 : decode cX9_beginDays 2 = .ok (.iload_n 1, 1) := by decide +kernel
theorem dX9_beginDays_3 : decode cX9_beginDays 3 = .ok (.bipush 8, 2) := by decide +kernel
theorem dX9_beginDays_5 : decode cX9_beginDays 5 = .ok (.if_icmp .ge 38, 3) := by decide +kernel
theorem dX9_beginDays_8 : decode cX9_beginDays 8 = .ok (.aload_n 0, 1) := by decide +kernel
theorem dX9_beginDays_9 : decode cX9_beginDays 9 = .ok (.getfield 28, 3) := by decide +kernel
end
section
theorem dX9_beginDays_12 : decode cX9_beginDays 12 = .ok (.iload_n 1, 1) := by decide +kernel
theorem dX9_beginDays_13 : decode cX9_beginDays 13 = .ok (.lconst 0, 1) := by decide +kernel
theorem dX9_beginDays_14 : decode cX9_beginDays 14 = .ok (.lastore, 1) := by decide +kernel
theorem dX9_beginDays_15 : decode cX9_beginDays 15 = .ok (.aload_n 0, 1) := by decide +kernel
theorem dX9_beginDays_16 : decode cX9_beginDays 16 = .ok (.getfield 32, 3) := by decide +kernel
theorem dX9_beginDays_19 : decode cX9_beginDays 19 = .ok (.iload_n 1, 1) := by decide +kernel
theorem dX9_beginDays_20 : decode cX9_beginDays 20 = .ok (.lconst 0, 1) := by decide +kernel
theorem dX9_beginDays_21 : decode cX9_beginDays 21 = .ok (.lastore, 1) := by decide +kernel
theorem dX9_beginDays_22 : decode cX9_beginDays 22 = .ok (.aload_n 0, 1) := by decide +kernel
theorem dX9_beginDays_23 : decode cX9_beginDays 23 = .ok (.getfield 35, 3) := by decide +kernel
theorem dX9_beginDays_26 : decode cX9_beginDays 26 = .ok (.iload_n 1, 1) := by decide +kernel
theorem dX9_beginDays_27 : decode cX9_beginDays 27 = .ok (.iconst (-1), 1) := by decide +kernel
theorem dX9_beginDays_28 : decode cX9_beginDays 28 = .ok (.iastore, 1) := by decide +kernel
theorem dX9_beginDays_29 : decode cX9_beginDays 29 = .ok (.aload_n 0, 1) := by decide +kernel
theorem dX9_beginDays_30 : decode cX9_beginDays 30 = .ok (.getfield 38, 3) := by decide +kernel
theorem dX9_beginDays_33 : decode cX9_beginDays 33 = .ok (.iload_n 1, 1) := by decide +kernel
theorem dX9_beginDays_34 : decode cX9_beginDays 34 = .ok (.bipush (-4), 2) := by decide +kernel
theorem dX9_beginDays_36 : decode cX9_beginDays 36 = .ok (.iastore, 1) := by decide +kernel
theorem dX9_beginDays_37 : decode cX9_beginDays 37 = .ok (.iinc 1 1, 3) := by decide +kernel
theorem dX9_beginDays_40 : decode cX9_beginDays 40 = .ok (.goto (-38), 3) := by decide +kernel
theorem dX9_beginDays_43 : decode cX9_beginDays 43 = .ok (.return_, 1) := by decide +kernel
theorem dX9_runOn_0 : decode cX9_runOn 0 = .ok (.iconst 0, 1) := by decide +kernel
theorem dX9_runOn_1 : decode cX9_runOn 1 = .ok (.istore_n 2, 1) := by decide +kernel
theorem dX9_runOn_2 : decode cX9_runOn 2 = .ok (.iload_n 2, 1) := by decide +kernel
theorem dX9_runOn_3 : decode cX9_runOn 3 = .ok (.aload_n 0, 1) := by decide +kernel
theorem dX9_runOn_4 : decode cX9_runOn 4 = .ok (.getfield 87, 3) := by decide +kernel
theorem dX9_runOn_7 : decode cX9_runOn 7 = .ok (.if_icmp .ge 127, 3) := by decide +kernel
theorem dX9_runOn_10 : decode cX9_runOn 10 = .ok (.aload_n 0, 1) := by decide +kernel
theorem dX9_runOn_11 : decode cX9_runOn 11 = .ok (.getfield 7, 3) := by decide +kernel
theorem dX9_runOn_14 : decode cX9_runOn 14 = .ok (.bipush 8, 2) := by decide +kernel
theorem dX9_runOn_16 : decode cX9_runOn 16 = .ok (.iload_n 2, 1) := by decide +kernel
theorem dX9_runOn_17 : decode cX9_runOn 17 = .ok (.imul, 1) := by decide +kernel
theorem dX9_runOn_18 : decode cX9_runOn 18 = .ok (.iconst 1, 1) := by decide +kernel
theorem dX9_runOn_19 : decode cX9_runOn 19 = .ok (.iadd, 1) := by decide +kernel
theorem dX9_runOn_20 : decode cX9_runOn 20 = .ok (.iaload, 1) := by decide +kernel
theorem dX9_runOn_21 : decode cX9_runOn 21 = .ok (.iload_n 1, 1) := by decide +kernel
theorem dX9_runOn_22 : decode cX9_runOn 22 = .ok (.if_icmp .ne 26, 3) := by decide +kernel
theorem dX9_runOn_25 : decode cX9_runOn 25 = .ok (.aload_n 0, 1) := by decide +kernel
theorem dX9_runOn_26 : decode cX9_runOn 26 = .ok (.getfield 28, 3) := by decide +kernel
theorem dX9_runOn_29 : decode cX9_runOn 29 = .ok (.iload_n 2, 1) := by decide +kernel
theorem dX9_runOn_30 : decode cX9_runOn 30 = .ok (.ldc2_w 135, 3) := by decide +kernel
theorem dX9_runOn_33 : decode cX9_runOn 33 = .ok (.aload_n 0, 1) := by decide +kernel
theorem dX9_runOn_34 : decode cX9_runOn 34 = .ok (.getfield 7, 3) := by decide +kernel
theorem dX9_runOn_37 : decode cX9_runOn 37 = .ok (.bipush 8, 2) := by decide +kernel
theorem dX9_runOn_39 : decode cX9_runOn 39 = .ok (.iload_n 2, 1) := by decide +kernel
theorem dX9_runOn_40 : decode cX9_runOn 40 = .ok (.imul, 1) := by decide +kernel
theorem dX9_runOn_41 : decode cX9_runOn 41 = .ok (.iaload, 1) := by decide +kernel
theorem dX9_runOn_42 : decode cX9_runOn 42 = .ok (.i2l, 1) := by decide +kernel
theorem dX9_runOn_43 : decode cX9_runOn 43 = .ok (.lmul, 1) := by decide +kernel
theorem dX9_runOn_44 : decode cX9_runOn 44 = .ok (.lastore, 1) := by decide +kernel
theorem dX9_runOn_45 : decode cX9_runOn 45 = .ok (.goto 83, 3) := by decide +kernel
theorem dX9_runOn_48 : decode cX9_runOn 48 = .ok (.aload_n 0, 1) := by decide +kernel
theorem dX9_runOn_49 : decode cX9_runOn 49 = .ok (.getfield 7, 3) := by decide +kernel
theorem dX9_runOn_52 : decode cX9_runOn 52 = .ok (.bipush 8, 2) := by decide +kernel
theorem dX9_runOn_54 : decode cX9_runOn 54 = .ok (.iload_n 2, 1) := by decide +kernel
theorem dX9_runOn_55 : decode cX9_runOn 55 = .ok (.imul, 1) := by decide +kernel
theorem dX9_runOn_56 : decode cX9_runOn 56 = .ok (.iconst 1, 1) := by decide +kernel
theorem dX9_runOn_57 : decode cX9_runOn 57 = .ok (.iadd, 1) := by decide +kernel
theorem dX9_runOn_58 : decode cX9_runOn 58 = .ok (.iaload, 1) := by decide +kernel
theorem dX9_runOn_59 : decode cX9_runOn 59 = .ok (.iload_n 1, 1) := by decide +kernel
theorem dX9_runOn_60 : decode cX9_runOn 60 = .ok (.if_icmp .ge 68, 3) := by decide +kernel
theorem dX9_runOn_63 : decode cX9_runOn 63 = .ok (.aload_n 0, 1) := by decide +kernel
theorem dX9_runOn_64 : decode cX9_runOn 64 = .ok (.getfield 7, 3) := by decide +kernel
theorem dX9_runOn_67 : decode cX9_runOn 67 = .ok (.bipush 8, 2) := by decide +kernel
theorem dX9_runOn_69 : decode cX9_runOn 69 = .ok (.iload_n 2, 1) := by decide +kernel
theorem dX9_runOn_70 : decode cX9_runOn 70 = .ok (.imul, 1) := by decide +kernel
theorem dX9_runOn_71 : decode cX9_runOn 71 = .ok (.iconst 4, 1) := by decide +kernel
theorem dX9_runOn_72 : decode cX9_runOn 72 = .ok (.iadd, 1) := by decide +kernel
theorem dX9_runOn_73 : decode cX9_runOn 73 = .ok (.iaload, 1) := by decide +kernel
theorem dX9_runOn_74 : decode cX9_runOn 74 = .ok (.iconst 1, 1) := by decide +kernel
theorem dX9_runOn_75 : decode cX9_runOn 75 = .ok (.if_icmp .ne 19, 3) := by decide +kernel
theorem dX9_runOn_78 : decode cX9_runOn 78 = .ok (.aload_n 0, 1) := by decide +kernel
theorem dX9_runOn_79 : decode cX9_runOn 79 = .ok (.getfield 28, 3) := by decide +kernel
theorem dX9_runOn_82 : decode cX9_runOn 82 = .ok (.iload_n 2, 1) := by decide +kernel
theorem dX9_runOn_83 : decode cX9_runOn 83 = .ok (.laload, 1) := by decide +kernel
theorem dX9_runOn_84 : decode cX9_runOn 84 = .ok (.aload_n 0, 1) := by decide +kernel
theorem dX9_runOn_85 : decode cX9_runOn 85 = .ok (.getfield 32, 3) := by decide +kernel
theorem dX9_runOn_88 : decode cX9_runOn 88 = .ok (.iload_n 2, 1) := by decide +kernel
theorem dX9_runOn_89 : decode cX9_runOn 89 = .ok (.laload, 1) := by decide +kernel
theorem dX9_runOn_90 : decode cX9_runOn 90 = .ok (.ladd, 1) := by decide +kernel
theorem dX9_runOn_91 : decode cX9_runOn 91 = .ok (.goto 9, 3) := by decide +kernel
theorem dX9_runOn_94 : decode cX9_runOn 94 = .ok (.aload_n 0, 1) := by decide +kernel
theorem dX9_runOn_95 : decode cX9_runOn 95 = .ok (.getfield 28, 3) := by decide +kernel
theorem dX9_runOn_98 : decode cX9_runOn 98 = .ok (.iload_n 2, 1) := by decide +kernel
theorem dX9_runOn_99 : decode cX9_runOn 99 = .ok (.laload, 1) := by decide +kernel
theorem dX9_runOn_100 : decode cX9_runOn 100 = .ok (.lstore_n 3, 1) := by decide +kernel
theorem dX9_runOn_101 : decode cX9_runOn 101 = .ok (.aload_n 0, 1) := by decide +kernel
theorem dX9_runOn_102 : decode cX9_runOn 102 = .ok (.getfield 32, 3) := by decide +kernel
theorem dX9_runOn_105 : decode cX9_runOn 105 = .ok (.iload_n 2, 1) := by decide +kernel
theorem dX9_runOn_106 : decode cX9_runOn 106 = .ok (.dup2, 1) := by decide +kernel
theorem dX9_runOn_107 : decode cX9_runOn 107 = .ok (.laload, 1) := by decide +kernel
theorem dX9_runOn_108 : decode cX9_runOn 108 = .ok (.lload_n 3, 1) := by decide +kernel
theorem dX9_runOn_109 : decode cX9_runOn 109 = .ok (.aload_n 0, 1) := by decide +kernel
theorem dX9_runOn_110 : decode cX9_runOn 110 = .ok (.getfield 7, 3) := by decide +kernel
theorem dX9_runOn_113 : decode cX9_runOn 113 = .ok (.bipush 8, 2) := by decide +kernel
theorem dX9_runOn_115 : decode cX9_runOn 115 = .ok (.iload_n 2, 1) := by decide +kernel
theorem dX9_runOn_116 : decode cX9_runOn 116 = .ok (.imul, 1) := by decide +kernel
theorem dX9_runOn_117 : decode cX9_runOn 117 = .ok (.iconst 3, 1) := by decide +kernel
theorem dX9_runOn_118 : decode cX9_runOn 118 = .ok (.iadd, 1) := by decide +kernel
theorem dX9_runOn_119 : decode cX9_runOn 119 = .ok (.iaload, 1) := by decide +kernel
theorem dX9_runOn_120 : decode cX9_runOn 120 = .ok (.i2l, 1) := by decide +kernel
theorem dX9_runOn_121 : decode cX9_runOn 121 = .ok (.lmul, 1) := by decide +kernel
theorem dX9_runOn_122 : decode cX9_runOn 122 = .ok (.ldc2_w 135, 3) := by decide +kernel
theorem dX9_runOn_125 : decode cX9_runOn 125 = .ok (.ldiv, 1) := by decide +kernel
theorem dX9_runOn_126 : decode cX9_runOn 126 = .ok (.ladd, 1) := by decide +kernel
theorem dX9_runOn_127 : decode cX9_runOn 127 = .ok (.lastore, 1) := by decide +kernel
theorem dX9_runOn_128 : decode cX9_runOn 128 = .ok (.iinc 2 1, 3) := by decide +kernel
theorem dX9_runOn_131 : decode cX9_runOn 131 = .ok (.goto (-129), 3) := by decide +kernel
theorem dX9_runOn_134 : decode cX9_runOn 134 = .ok (.return_, 1) := by decide +kernel
theorem dX9_leftOf_0 : decode cX9_leftOf 0 = .ok (.aload_n 0, 1) := by decide +kernel
theorem dX9_leftOf_1 : decode cX9_leftOf 1 = .ok (.getfield 28, 3) := by decide +kernel
theorem dX9_leftOf_4 : decode cX9_leftOf 4 = .ok (.iload_n 1, 1) := by decide +kernel
theorem dX9_leftOf_5 : decode cX9_leftOf 5 = .ok (.laload, 1) := by decide +kernel
theorem dX9_leftOf_6 : decode cX9_leftOf 6 = .ok (.aload_n 0, 1) := by decide +kernel
theorem dX9_leftOf_7 : decode cX9_leftOf 7 = .ok (.getfield 32, 3) := by decide +kernel
theorem dX9_leftOf_10 : decode cX9_leftOf 10 = .ok (.iload_n 1, 1) := by decide +kernel
theorem dX9_leftOf_11 : decode cX9_leftOf 11 = .ok (.laload, 1) := by decide +kernel
theorem dX9_leftOf_12 : decode cX9_leftOf 12 = .ok (.ladd, 1) := by decide +kernel
theorem dX9_leftOf_13 : decode cX9_leftOf 13 = .ok (.lreturn, 1) := by decide +kernel
theorem dX9_isDead_0 : decode cX9_isDead 0 = .ok (.aload_n 0, 1) := by decide +kernel
theorem dX9_isDead_1 : decode cX9_isDead 1 = .ok (.getfield 7, 3) := by decide +kernel
theorem dX9_isDead_4 : decode cX9_isDead 4 = .ok (.bipush 8, 2) := by decide +kernel
theorem dX9_isDead_6 : decode cX9_isDead 6 = .ok (.iload_n 1, 1) := by decide +kernel
theorem dX9_isDead_7 : decode cX9_isDead 7 = .ok (.imul, 1) := by decide +kernel
theorem dX9_isDead_8 : decode cX9_isDead 8 = .ok (.iconst 2, 1) := by decide +kernel
theorem dX9_isDead_9 : decode cX9_isDead 9 = .ok (.iadd, 1) := by decide +kernel
theorem dX9_isDead_10 : decode cX9_isDead 10 = .ok (.iaload, 1) := by decide +kernel
theorem dX9_isDead_11 : decode cX9_isDead 11 = .ok (.aload_n 0, 1) := by decide +kernel
theorem dX9_isDead_12 : decode cX9_isDead 12 = .ok (.getfield 35, 3) := by decide +kernel
theorem dX9_isDead_15 : decode cX9_isDead 15 = .ok (.iload_n 1, 1) := by decide +kernel
theorem dX9_isDead_16 : decode cX9_isDead 16 = .ok (.iaload, 1) := by decide +kernel
theorem dX9_isDead_17 : decode cX9_isDead 17 = .ok (.if_icmp .le 17, 3) := by decide +kernel
theorem dX9_isDead_20 : decode cX9_isDead 20 = .ok (.aload_n 0, 1) := by decide +kernel
theorem dX9_isDead_21 : decode cX9_isDead 21 = .ok (.getfield 7, 3) := by decide +kernel
theorem dX9_isDead_24 : decode cX9_isDead 24 = .ok (.bipush 8, 2) := by decide +kernel
theorem dX9_isDead_26 : decode cX9_isDead 26 = .ok (.iload_n 1, 1) := by decide +kernel
theorem dX9_isDead_27 : decode cX9_isDead 27 = .ok (.imul, 1) := by decide +kernel
theorem dX9_isDead_28 : decode cX9_isDead 28 = .ok (.iconst 2, 1) := by decide +kernel
theorem dX9_isDead_29 : decode cX9_isDead 29 = .ok (.iadd, 1) := by decide +kernel
theorem dX9_isDead_30 : decode cX9_isDead 30 = .ok (.iaload, 1) := by decide +kernel
theorem dX9_isDead_31 : decode cX9_isDead 31 = .ok (.goto 9, 3) := by decide +kernel
theorem dX9_isDead_34 : decode cX9_isDead 34 = .ok (.aload_n 0, 1) := by decide +kernel
theorem dX9_isDead_35 : decode cX9_isDead 35 = .ok (.getfield 35, 3) := by decide +kernel
theorem dX9_isDead_38 : decode cX9_isDead 38 = .ok (.iload_n 1, 1) := by decide +kernel
theorem dX9_isDead_39 : decode cX9_isDead 39 = .ok (.iaload, 1) := by decide +kernel
theorem dX9_isDead_40 : decode cX9_isDead 40 = .ok (.istore_n 3, 1) := by decide +kernel
theorem dX9_isDead_41 : decode cX9_isDead 41 = .ok (.aload_n 0, 1) := by decide +kernel
theorem dX9_isDead_42 : decode cX9_isDead 42 = .ok (.iload_n 1, 1) := by decide +kernel
theorem dX9_isDead_43 : decode cX9_isDead 43 = .ok (.invokevirtual 137, 3) := by decide +kernel
theorem dX9_isDead_46 : decode cX9_isDead 46 = .ok (.lconst 0, 1) := by decide +kernel
theorem dX9_isDead_47 : decode cX9_isDead 47 = .ok (.lcmp, 1) := by decide +kernel
theorem dX9_isDead_48 : decode cX9_isDead 48 = .ok (.ifCond .le 40, 3) := by decide +kernel
theorem dX9_isDead_51 : decode cX9_isDead 51 = .ok (.aload_n 0, 1) := by decide +kernel
theorem dX9_isDead_52 : decode cX9_isDead 52 = .ok (.getfield 7, 3) := by decide +kernel
theorem dX9_isDead_55 : decode cX9_isDead 55 = .ok (.bipush 8, 2) := by decide +kernel
theorem dX9_isDead_57 : decode cX9_isDead 57 = .ok (.iload_n 1, 1) := by decide +kernel
theorem dX9_isDead_58 : decode cX9_isDead 58 = .ok (.imul, 1) := by decide +kernel
theorem dX9_isDead_59 : decode cX9_isDead 59 = .ok (.bipush 7, 2) := by decide +kernel
theorem dX9_isDead_61 : decode cX9_isDead 61 = .ok (.iadd, 1) := by decide +kernel
theorem dX9_isDead_62 : decode cX9_isDead 62 = .ok (.iaload, 1) := by decide +kernel
theorem dX9_isDead_63 : decode cX9_isDead 63 = .ok (.ifCond .le 25, 3) := by decide +kernel
theorem dX9_isDead_66 : decode cX9_isDead 66 = .ok (.iload_n 2, 1) := by decide +kernel
theorem dX9_isDead_67 : decode cX9_isDead 67 = .ok (.iload_n 3, 1) := by decide +kernel
theorem dX9_isDead_68 : decode cX9_isDead 68 = .ok (.isub, 1) := by decide +kernel
theorem dX9_isDead_69 : decode cX9_isDead 69 = .ok (.aload_n 0, 1) := by decide +kernel
theorem dX9_isDead_70 : decode cX9_isDead 70 = .ok (.getfield 7, 3) := by decide +kernel
theorem dX9_isDead_73 : decode cX9_isDead 73 = .ok (.bipush 8, 2) := by decide +kernel
theorem dX9_isDead_75 : decode cX9_isDead 75 = .ok (.iload_n 1, 1) := by decide +kernel
theorem dX9_isDead_76 : decode cX9_isDead 76 = .ok (.imul, 1) := by decide +kernel
theorem dX9_isDead_77 : decode cX9_isDead 77 = .ok (.bipush 7, 2) := by decide +kernel
theorem dX9_isDead_79 : decode cX9_isDead 79 = .ok (.iadd, 1) := by decide +kernel
theorem dX9_isDead_80 : decode cX9_isDead 80 = .ok (.iaload, 1) := by decide +kernel
theorem dX9_isDead_81 : decode cX9_isDead 81 = .ok (.if_icmp .le 7, 3) := by decide +kernel
theorem dX9_isDead_84 : decode cX9_isDead 84 = .ok (.iconst 1, 1) := by decide +kernel
theorem dX9_isDead_85 : decode cX9_isDead 85 = .ok (.goto 4, 3) := by decide +kernel
theorem dX9_isDead_88 : decode cX9_isDead 88 = .ok (.iconst 0, 1) := by decide +kernel
theorem dX9_isDead_89 : decode cX9_isDead 89 = .ok (.ireturn, 1) := by decide +kernel
theorem dX9_putTo_0 : decode cX9_putTo 0 = .ok (.aload_n 0, 1) := by decide +kernel
theorem dX9_putTo_1 : decode cX9_putTo 1 = .ok (.iload_n 1, 1) := by decide +kernel
theorem dX9_putTo_2 : decode cX9_putTo 2 = .ok (.bipush 115, 2) := by decide +kernel
theorem dX9_putTo_4 : decode cX9_putTo 4 = .ok (.invokevirtual 141, 3) := by decide +kernel
theorem dX9_putTo_7 : decode cX9_putTo 7 = .ok (.istore 6, 2) := by decide +kernel
theorem dX9_putTo_9 : decode cX9_putTo 9 = .ok (.lload_n 3, 1) := by decide +kernel
theorem dX9_putTo_10 : decode cX9_putTo 10 = .ok (.lstore 7, 2) := by decide +kernel
theorem dX9_putTo_12 : decode cX9_putTo 12 = .ok (.iconst 0, 1) := by decide +kernel
theorem dX9_putTo_13 : decode cX9_putTo 13 = .ok (.istore 9, 2) := by decide +kernel
theorem dX9_putTo_15 : decode cX9_putTo 15 = .ok (.iload 9, 2) := by decide +kernel
theorem dX9_putTo_17 : decode cX9_putTo 17 = .ok (.iconst 2, 1) := by decide +kernel
theorem dX9_putTo_18 : decode cX9_putTo 18 = .ok (.if_icmp .ge 129, 3) := by decide +kernel
theorem dX9_putTo_21 : decode cX9_putTo 21 = .ok (.iload 6, 2) := by decide +kernel
theorem dX9_putTo_23 : decode cX9_putTo 23 = .ok (.iload 9, 2) := by decide +kernel
theorem dX9_putTo_25 : decode cX9_putTo 25 = .ok (.ifCond .ne 7, 3) := by decide +kernel
theorem dX9_putTo_28 : decode cX9_putTo 28 = .ok (.iconst 1, 1) := by decide +kernel
theorem dX9_putTo_29 : decode cX9_putTo 29 = .ok (.goto 4, 3) := by decide +kernel
theorem dX9_putTo_32 : decode cX9_putTo 32 = .ok (.iconst 0, 1) := by decide +kernel
theorem dX9_putTo_33 : decode cX9_putTo 33 = .ok (.if_icmp .ne 7, 3) := by decide +kernel
theorem dX9_putTo_36 : decode cX9_putTo 36 = .ok (.iconst 1, 1) := by decide +kernel
theorem dX9_putTo_37 : decode cX9_putTo 37 = .ok (.goto 4, 3) := by decide +kernel
theorem dX9_putTo_40 : decode cX9_putTo 40 = .ok (.iconst 0, 1) := by decide +kernel
theorem dX9_putTo_41 : decode cX9_putTo 41 = .ok (.istore 10, 2) := by decide +kernel
theorem dX9_putTo_43 : decode cX9_putTo 43 = .ok (.iload 10, 2) := by decide +kernel
theorem dX9_putTo_45 : decode cX9_putTo 45 = .ok (.ifCond .eq 12, 3) := by decide +kernel
theorem dX9_putTo_48 : decode cX9_putTo 48 = .ok (.aload_n 0, 1) := by decide +kernel
theorem dX9_putTo_49 : decode cX9_putTo 49 = .ok (.getfield 28, 3) := by decide +kernel
theorem dX9_putTo_52 : decode cX9_putTo 52 = .ok (.iload_n 2, 1) := by decide +kernel
theorem dX9_putTo_53 : decode cX9_putTo 53 = .ok (.laload, 1) := by decide +kernel
theorem dX9_putTo_54 : decode cX9_putTo 54 = .ok (.goto 9, 3) := by decide +kernel
theorem dX9_putTo_57 : decode cX9_putTo 57 = .ok (.aload_n 0, 1) := by decide +kernel
theorem dX9_putTo_58 : decode cX9_putTo 58 = .ok (.getfield 32, 3) := by decide +kernel
theorem dX9_putTo_61 : decode cX9_putTo 61 = .ok (.iload_n 2, 1) := by decide +kernel
theorem dX9_putTo_62 : decode cX9_putTo 62 = .ok (.laload, 1) := by decide +kernel
theorem dX9_putTo_63 : decode cX9_putTo 63 = .ok (.lstore 11, 2) := by decide +kernel
theorem dX9_putTo_65 : decode cX9_putTo 65 = .ok (.lload 7, 2) := by decide +kernel
theorem dX9_putTo_67 : decode cX9_putTo 67 = .ok (.lload 11, 2) := by decide +kernel
theorem dX9_putTo_69 : decode cX9_putTo 69 = .ok (.lcmp, 1) := by decide +kernel
theorem dX9_putTo_70 : decode cX9_putTo 70 = .ok (.ifCond .ge 8, 3) := by decide +kernel
theorem dX9_putTo_73 : decode cX9_putTo 73 = .ok (.lload 7, 2) := by decide +kernel
theorem dX9_putTo_75 : decode cX9_putTo 75 = .ok (.goto 5, 3) := by decide +kernel
theorem dX9_putTo_78 : decode cX9_putTo 78 = .ok (.lload 11, 2) := by decide +kernel
theorem dX9_putTo_80 : decode cX9_putTo 80 = .ok (.lstore 13, 2) := by decide +kernel
theorem dX9_putTo_82 : decode cX9_putTo 82 = .ok (.iload 10, 2) := by decide +kernel
theorem dX9_putTo_84 : decode cX9_putTo 84 = .ok (.ifCond .eq 28, 3) := by decide +kernel
theorem dX9_putTo_87 : decode cX9_putTo 87 = .ok (.aload_n 0, 1) := by decide +kernel
theorem dX9_putTo_88 : decode cX9_putTo 88 = .ok (.getfield 28, 3) := by decide +kernel
theorem dX9_putTo_91 : decode cX9_putTo 91 = .ok (.iload_n 2, 1) := by decide +kernel
theorem dX9_putTo_92 : decode cX9_putTo 92 = .ok (.dup2, 1) := by decide +kernel
theorem dX9_putTo_93 : decode cX9_putTo 93 = .ok (.laload, 1) := by decide +kernel
theorem dX9_putTo_94 : decode cX9_putTo 94 = .ok (.lload 13, 2) := by decide +kernel
theorem dX9_putTo_96 : decode cX9_putTo 96 = .ok (.lsub, 1) := by decide +kernel
theorem dX9_putTo_97 : decode cX9_putTo 97 = .ok (.lastore, 1) := by decide +kernel
theorem dX9_putTo_98 : decode cX9_putTo 98 = .ok (.aload_n 0, 1) := by decide +kernel
theorem dX9_putTo_99 : decode cX9_putTo 99 = .ok (.getfield 41, 3) := by decide +kernel
theorem dX9_putTo_102 : decode cX9_putTo 102 = .ok (.iload_n 2, 1) := by decide +kernel
theorem dX9_putTo_103 : decode cX9_putTo 103 = .ok (.dup2, 1) := by decide +kernel
theorem dX9_putTo_104 : decode cX9_putTo 104 = .ok (.laload, 1) := by decide +kernel
theorem dX9_putTo_105 : decode cX9_putTo 105 = .ok (.lload 13, 2) := by decide +kernel
theorem dX9_putTo_107 : decode cX9_putTo 107 = .ok (.ladd, 1) := by decide +kernel
theorem dX9_putTo_108 : decode cX9_putTo 108 = .ok (.lastore, 1) := by decide +kernel
theorem dX9_putTo_109 : decode cX9_putTo 109 = .ok (.goto 25, 3) := by decide +kernel
theorem dX9_putTo_112 : decode cX9_putTo 112 = .ok (.aload_n 0, 1) := by decide +kernel
theorem dX9_putTo_113 : decode cX9_putTo 113 = .ok (.getfield 32, 3) := by decide +kernel
theorem dX9_putTo_116 : decode cX9_putTo 116 = .ok (.iload_n 2, 1) := by decide +kernel
theorem dX9_putTo_117 : decode cX9_putTo 117 = .ok (.dup2, 1) := by decide +kernel
theorem dX9_putTo_118 : decode cX9_putTo 118 = .ok (.laload, 1) := by decide +kernel
theorem dX9_putTo_119 : decode cX9_putTo 119 = .ok (.lload 13, 2) := by decide +kernel
theorem dX9_putTo_121 : decode cX9_putTo 121 = .ok (.lsub, 1) := by decide +kernel
theorem dX9_putTo_122 : decode cX9_putTo 122 = .ok (.lastore, 1) := by decide +kernel
theorem dX9_putTo_123 : decode cX9_putTo 123 = .ok (.aload_n 0, 1) := by decide +kernel
theorem dX9_putTo_124 : decode cX9_putTo 124 = .ok (.getfield 44, 3) := by decide +kernel
theorem dX9_putTo_127 : decode cX9_putTo 127 = .ok (.iload_n 2, 1) := by decide +kernel
theorem dX9_putTo_128 : decode cX9_putTo 128 = .ok (.dup2, 1) := by decide +kernel
theorem dX9_putTo_129 : decode cX9_putTo 129 = .ok (.laload, 1) := by decide +kernel
theorem dX9_putTo_130 : decode cX9_putTo 130 = .ok (.lload 13, 2) := by decide +kernel
theorem dX9_putTo_132 : decode cX9_putTo 132 = .ok (.ladd, 1) := by decide +kernel
theorem dX9_putTo_133 : decode cX9_putTo 133 = .ok (.lastore, 1) := by decide +kernel
theorem dX9_putTo_134 : decode cX9_putTo 134 = .ok (.lload 7, 2) := by decide +kernel
theorem dX9_putTo_136 : decode cX9_putTo 136 = .ok (.lload 13, 2) := by decide +kernel
theorem dX9_putTo_138 : decode cX9_putTo 138 = .ok (.lsub, 1) := by decide +kernel
theorem dX9_putTo_139 : decode cX9_putTo 139 = .ok (.lstore 7, 2) := by decide +kernel
theorem dX9_putTo_141 : decode cX9_putTo 141 = .ok (.iinc 9 1, 3) := by decide +kernel
theorem dX9_putTo_144 : decode cX9_putTo 144 = .ok (.goto (-129), 3) := by decide +kernel
theorem dX9_putTo_147 : decode cX9_putTo 147 = .ok (.lload_n 3, 1) := by decide +kernel
theorem dX9_putTo_148 : decode cX9_putTo 148 = .ok (.lload 7, 2) := by decide +kernel
theorem dX9_putTo_150 : decode cX9_putTo 150 = .ok (.lsub, 1) := by decide +kernel
theorem dX9_putTo_151 : decode cX9_putTo 151 = .ok (.lstore 9, 2) := by decide +kernel
theorem dX9_putTo_153 : decode cX9_putTo 153 = .ok (.lload 9, 2) := by decide +kernel
theorem dX9_putTo_155 : decode cX9_putTo 155 = .ok (.lconst 0, 1) := by decide +kernel
theorem dX9_putTo_156 : decode cX9_putTo 156 = .ok (.lcmp, 1) := by decide +kernel
theorem dX9_putTo_157 : decode cX9_putTo 157 = .ok (.ifCond .le 46, 3) := by decide +kernel
theorem dX9_putTo_160 : decode cX9_putTo 160 = .ok (.aload_n 0, 1) := by decide +kernel
theorem dX9_putTo_161 : decode cX9_putTo 161 = .ok (.getfield 38, 3) := by decide +kernel
theorem dX9_putTo_164 : decode cX9_putTo 164 = .ok (.iload_n 2, 1) := by decide +kernel
theorem dX9_putTo_165 : decode cX9_putTo 165 = .ok (.aload_n 0, 1) := by decide +kernel
theorem dX9_putTo_166 : decode cX9_putTo 166 = .ok (.getfield 47, 3) := by decide +kernel
theorem dX9_putTo_169 : decode cX9_putTo 169 = .ok (.iload_n 2, 1) := by decide +kernel
theorem dX9_putTo_170 : decode cX9_putTo 170 = .ok (.baload, 1) := by decide +kernel
theorem dX9_putTo_171 : decode cX9_putTo 171 = .ok (.ifCond .eq 17, 3) := by decide +kernel
theorem dX9_putTo_174 : decode cX9_putTo 174 = .ok (.aload_n 0, 1) := by decide +kernel
theorem dX9_putTo_175 : decode cX9_putTo 175 = .ok (.getfield 38, 3) := by decide +kernel
theorem dX9_putTo_178 : decode cX9_putTo 178 = .ok (.iload_n 2, 1) := by decide +kernel
theorem dX9_putTo_179 : decode cX9_putTo 179 = .ok (.iaload, 1) := by decide +kernel
theorem dX9_putTo_180 : decode cX9_putTo 180 = .ok (.ifCond .ge 8, 3) := by decide +kernel
theorem dX9_putTo_183 : decode cX9_putTo 183 = .ok (.iload 5, 2) := by decide +kernel
theorem dX9_putTo_185 : decode cX9_putTo 185 = .ok (.goto 9, 3) := by decide +kernel
theorem dX9_putTo_188 : decode cX9_putTo 188 = .ok (.aload_n 0, 1) := by decide +kernel
theorem dX9_putTo_189 : decode cX9_putTo 189 = .ok (.getfield 38, 3) := by decide +kernel
theorem dX9_putTo_192 : decode cX9_putTo 192 = .ok (.iload_n 2, 1) := by decide +kernel
theorem dX9_putTo_193 : decode cX9_putTo 193 = .ok (.iaload, 1) := by decide +kernel
theorem dX9_putTo_194 : decode cX9_putTo 194 = .ok (.iastore, 1) := by decide +kernel
theorem dX9_putTo_195 : decode cX9_putTo 195 = .ok (.aload_n 0, 1) := by decide +kernel
theorem dX9_putTo_196 : decode cX9_putTo 196 = .ok (.getfield 35, 3) := by decide +kernel
theorem dX9_putTo_199 : decode cX9_putTo 199 = .ok (.iload_n 2, 1) := by decide +kernel
theorem dX9_putTo_200 : decode cX9_putTo 200 = .ok (.iload 5, 2) := by decide +kernel
theorem dX9_putTo_202 : decode cX9_putTo 202 = .ok (.iastore, 1) := by decide +kernel
theorem dX9_putTo_203 : decode cX9_putTo 203 = .ok (.lload 9, 2) := by decide +kernel
theorem dX9_putTo_205 : decode cX9_putTo 205 = .ok (.lreturn, 1) := by decide +kernel
theorem dX9_compare_0 : decode cX9_compare 0 = .ok (.iconst 0, 1) := by decide +kernel
theorem dX9_compare_1 : decode cX9_compare 1 = .ok (.istore 5, 2) := by decide +kernel
theorem dX9_compare_3 : decode cX9_compare 3 = .ok (.iload 5, 2) := by decide +kernel
theorem dX9_compare_5 : decode cX9_compare 5 = .ok (.aload_n 0, 1) := by decide +kernel
theorem dX9_compare_6 : decode cX9_compare 6 = .ok (.getfield 22, 3) := by decide +kernel
theorem dX9_compare_9 : decode cX9_compare 9 = .ok (.iload_n 1, 1) := by decide +kernel
theorem dX9_compare_10 : decode cX9_compare 10 = .ok (.iaload, 1) := by decide +kernel
theorem dX9_compare_11 : decode cX9_compare 11 = .ok (.if_icmp .ge 290, 3) := by decide +kernel
theorem dX9_compare_14 : decode cX9_compare 14 = .ok (.aload_n 0, 1) := by decide +kernel
theorem dX9_compare_15 : decode cX9_compare 15 = .ok (.getfield 19, 3) := by decide +kernel
theorem dX9_compare_18 : decode cX9_compare 18 = .ok (.bipush 12, 2) := by decide +kernel
theorem dX9_compare_20 : decode cX9_compare 20 = .ok (.iload_n 1, 1) := by decide +kernel
theorem dX9_compare_21 : decode cX9_compare 21 = .ok (.imul, 1) := by decide +kernel
theorem dX9_compare_22 : decode cX9_compare 22 = .ok (.iload 5, 2) := by decide +kernel
theorem dX9_compare_24 : decode cX9_compare 24 = .ok (.iadd, 1) := by decide +kernel
theorem dX9_compare_25 : decode cX9_compare 25 = .ok (.iaload, 1) := by decide +kernel
theorem dX9_compare_26 : decode cX9_compare 26 = .ok (.istore 6, 2) := by decide +kernel
theorem dX9_compare_28 : decode cX9_compare 28 = .ok (.lconst 0, 1) := by decide +kernel
theorem dX9_compare_29 : decode cX9_compare 29 = .ok (.lstore 7, 2) := by decide +kernel
theorem dX9_compare_31 : decode cX9_compare 31 = .ok (.lconst 0, 1) := by decide +kernel
theorem dX9_compare_32 : decode cX9_compare 32 = .ok (.lstore 9, 2) := by decide +kernel
theorem dX9_compare_34 : decode cX9_compare 34 = .ok (.iload 6, 2) := by decide +kernel
theorem dX9_compare_36 : decode cX9_compare 36 = .ok (.bipush 100, 2) := by decide +kernel
theorem dX9_compare_38 : decode cX9_compare 38 = .ok (.if_icmp .ne 52, 3) := by decide +kernel
theorem dX9_compare_41 : decode cX9_compare 41 = .ok (.aload_n 0, 1) := by decide +kernel
theorem dX9_compare_42 : decode cX9_compare 42 = .ok (.getfield 7, 3) := by decide +kernel
theorem dX9_compare_45 : decode cX9_compare 45 = .ok (.bipush 8, 2) := by decide +kernel
theorem dX9_compare_47 : decode cX9_compare 47 = .ok (.iload_n 2, 1) := by decide +kernel
theorem dX9_compare_48 : decode cX9_compare 48 = .ok (.imul, 1) := by decide +kernel
theorem dX9_compare_49 : decode cX9_compare 49 = .ok (.iconst 2, 1) := by decide +kernel
theorem dX9_compare_50 : decode cX9_compare 50 = .ok (.iadd, 1) := by decide +kernel
theorem dX9_compare_51 : decode cX9_compare 51 = .ok (.iaload, 1) := by decide +kernel
theorem dX9_compare_52 : decode cX9_compare 52 = .ok (.iload 4, 2) := by decide +kernel
theorem dX9_compare_54 : decode cX9_compare 54 = .ok (.if_icmp .gt 7, 3) := by decide +kernel
theorem dX9_compare_57 : decode cX9_compare 57 = .ok (.lconst 0, 1) := by decide +kernel
theorem dX9_compare_58 : decode cX9_compare 58 = .ok (.goto 4, 3) := by decide +kernel
theorem dX9_compare_61 : decode cX9_compare 61 = .ok (.lconst 1, 1) := by decide +kernel
theorem dX9_compare_62 : decode cX9_compare 62 = .ok (.lstore 7, 2) := by decide +kernel
theorem dX9_compare_64 : decode cX9_compare 64 = .ok (.aload_n 0, 1) := by decide +kernel
theorem dX9_compare_65 : decode cX9_compare 65 = .ok (.getfield 7, 3) := by decide +kernel
theorem dX9_compare_68 : decode cX9_compare 68 = .ok (.bipush 8, 2) := by decide +kernel
theorem dX9_compare_70 : decode cX9_compare 70 = .ok (.iload_n 3, 1) := by decide +kernel
theorem dX9_compare_71 : decode cX9_compare 71 = .ok (.imul, 1) := by decide +kernel
theorem dX9_compare_72 : decode cX9_compare 72 = .ok (.iconst 2, 1) := by decide +kernel
theorem dX9_compare_73 : decode cX9_compare 73 = .ok (.iadd, 1) := by decide +kernel
theorem dX9_compare_74 : decode cX9_compare 74 = .ok (.iaload, 1) := by decide +kernel
theorem dX9_compare_75 : decode cX9_compare 75 = .ok (.iload 4, 2) := by decide +kernel
theorem dX9_compare_77 : decode cX9_compare 77 = .ok (.if_icmp .gt 7, 3) := by decide +kernel
theorem dX9_compare_80 : decode cX9_compare 80 = .ok (.lconst 0, 1) := by decide +kernel
theorem dX9_compare_81 : decode cX9_compare 81 = .ok (.goto 4, 3) := by decide +kernel
theorem dX9_compare_84 : decode cX9_compare 84 = .ok (.lconst 1, 1) := by decide +kernel
theorem dX9_compare_85 : decode cX9_compare 85 = .ok (.lstore 9, 2) := by decide +kernel
theorem dX9_compare_87 : decode cX9_compare 87 = .ok (.goto 186, 3) := by decide +kernel
theorem dX9_compare_90 : decode cX9_compare 90 = .ok (.iload 6, 2) := by decide +kernel
theorem dX9_compare_92 : decode cX9_compare 92 = .ok (.bipush 104, 2) := by decide +kernel
theorem dX9_compare_94 : decode cX9_compare 94 = .ok (.if_icmp .ne 36, 3) := by decide +kernel
theorem dX9_compare_97 : decode cX9_compare 97 = .ok (.aload_n 0, 1) := by decide +kernel
theorem dX9_compare_98 : decode cX9_compare 98 = .ok (.getfield 7, 3) := by decide +kernel
theorem dX9_compare_101 : decode cX9_compare 101 = .ok (.bipush 8, 2) := by decide +kernel
theorem dX9_compare_103 : decode cX9_compare 103 = .ok (.iload_n 2, 1) := by decide +kernel
theorem dX9_compare_104 : decode cX9_compare 104 = .ok (.imul, 1) := by decide +kernel
theorem dX9_compare_105 : decode cX9_compare 105 = .ok (.iconst 3, 1) := by decide +kernel
theorem dX9_compare_106 : decode cX9_compare 106 = .ok (.iadd, 1) := by decide +kernel
theorem dX9_compare_107 : decode cX9_compare 107 = .ok (.iaload, 1) := by decide +kernel
theorem dX9_compare_108 : decode cX9_compare 108 = .ok (.ineg, 1) := by decide +kernel
theorem dX9_compare_109 : decode cX9_compare 109 = .ok (.i2l, 1) := by decide +kernel
theorem dX9_compare_110 : decode cX9_compare 110 = .ok (.lstore 7, 2) := by decide +kernel
theorem dX9_compare_112 : decode cX9_compare 112 = .ok (.aload_n 0, 1) := by decide +kernel
theorem dX9_compare_113 : decode cX9_compare 113 = .ok (.getfield 7, 3) := by decide +kernel
theorem dX9_compare_116 : decode cX9_compare 116 = .ok (.bipush 8, 2) := by decide +kernel
theorem dX9_compare_118 : decode cX9_compare 118 = .ok (.iload_n 3, 1) := by decide +kernel
theorem dX9_compare_119 : decode cX9_compare 119 = .ok (.imul, 1) := by decide +kernel
theorem dX9_compare_120 : decode cX9_compare 120 = .ok (.iconst 3, 1) := by decide +kernel
theorem dX9_compare_121 : decode cX9_compare 121 = .ok (.iadd, 1) := by decide +kernel
theorem dX9_compare_122 : decode cX9_compare 122 = .ok (.iaload, 1) := by decide +kernel
theorem dX9_compare_123 : decode cX9_compare 123 = .ok (.ineg, 1) := by decide +kernel
theorem dX9_compare_124 : decode cX9_compare 124 = .ok (.i2l, 1) := by decide +kernel
theorem dX9_compare_125 : decode cX9_compare 125 = .ok (.lstore 9, 2) := by decide +kernel
theorem dX9_compare_127 : decode cX9_compare 127 = .ok (.goto 146, 3) := by decide +kernel
theorem dX9_compare_130 : decode cX9_compare 130 = .ok (.iload 6, 2) := by decide +kernel
theorem dX9_compare_132 : decode cX9_compare 132 = .ok (.bipush 117, 2) := by decide +kernel
theorem dX9_compare_134 : decode cX9_compare 134 = .ok (.if_icmp .ne 78, 3) := by decide +kernel
theorem dX9_compare_137 : decode cX9_compare 137 = .ok (.aload_n 0, 1) := by decide +kernel
theorem dX9_compare_138 : decode cX9_compare 138 = .ok (.getfield 7, 3) := by decide +kernel
theorem dX9_compare_141 : decode cX9_compare 141 = .ok (.bipush 8, 2) := by decide +kernel
theorem dX9_compare_143 : decode cX9_compare 143 = .ok (.iload_n 2, 1) := by decide +kernel
theorem dX9_compare_144 : decode cX9_compare 144 = .ok (.imul, 1) := by decide +kernel
theorem dX9_compare_145 : decode cX9_compare 145 = .ok (.iconst 5, 1) := by decide +kernel
theorem dX9_compare_146 : decode cX9_compare 146 = .ok (.iadd, 1) := by decide +kernel
theorem dX9_compare_147 : decode cX9_compare 147 = .ok (.iaload, 1) := by decide +kernel
theorem dX9_compare_148 : decode cX9_compare 148 = .ok (.ifCond .ge 22, 3) := by decide +kernel
theorem dX9_compare_151 : decode cX9_compare 151 = .ok (.aload_n 0, 1) := by decide +kernel
theorem dX9_compare_152 : decode cX9_compare 152 = .ok (.getfield 7, 3) := by decide +kernel
theorem dX9_compare_155 : decode cX9_compare 155 = .ok (.bipush 8, 2) := by decide +kernel
theorem dX9_compare_157 : decode cX9_compare 157 = .ok (.iload_n 2, 1) := by decide +kernel
theorem dX9_compare_158 : decode cX9_compare 158 = .ok (.imul, 1) := by decide +kernel
theorem dX9_compare_159 : decode cX9_compare 159 = .ok (.bipush 6, 2) := by decide +kernel
theorem dX9_compare_161 : decode cX9_compare 161 = .ok (.iadd, 1) := by decide +kernel
theorem dX9_compare_162 : decode cX9_compare 162 = .ok (.iaload, 1) := by decide +kernel
theorem dX9_compare_163 : decode cX9_compare 163 = .ok (.ifCond .ne 7, 3) := by decide +kernel
theorem dX9_compare_166 : decode cX9_compare 166 = .ok (.lconst 0, 1) := by decide +kernel
theorem dX9_compare_167 : decode cX9_compare 167 = .ok (.goto 4, 3) := by decide +kernel
theorem dX9_compare_170 : decode cX9_compare 170 = .ok (.lconst 1, 1) := by decide +kernel
theorem dX9_compare_171 : decode cX9_compare 171 = .ok (.lstore 7, 2) := by decide +kernel
theorem dX9_compare_173 : decode cX9_compare 173 = .ok (.aload_n 0, 1) := by decide +kernel
theorem dX9_compare_174 : decode cX9_compare 174 = .ok (.getfield 7, 3) := by decide +kernel
theorem dX9_compare_177 : decode cX9_compare 177 = .ok (.bipush 8, 2) := by decide +kernel
theorem dX9_compare_179 : decode cX9_compare 179 = .ok (.iload_n 3, 1) := by decide +kernel
theorem dX9_compare_180 : decode cX9_compare 180 = .ok (.imul, 1) := by decide +kernel
theorem dX9_compare_181 : decode cX9_compare 181 = .ok (.iconst 5, 1) := by decide +kernel
theorem dX9_compare_182 : decode cX9_compare 182 = .ok (.iadd, 1) := by decide +kernel
theorem dX9_compare_183 : decode cX9_compare 183 = .ok (.iaload, 1) := by decide +kernel
theorem dX9_compare_184 : decode cX9_compare 184 = .ok (.ifCond .ge 22, 3) := by decide +kernel
theorem dX9_compare_187 : decode cX9_compare 187 = .ok (.aload_n 0, 1) := by decide +kernel
theorem dX9_compare_188 : decode cX9_compare 188 = .ok (.getfield 7, 3) := by decide +kernel
theorem dX9_compare_191 : decode cX9_compare 191 = .ok (.bipush 8, 2) := by decide +kernel
theorem dX9_compare_193 : decode cX9_compare 193 = .ok (.iload_n 3, 1) := by decide +kernel
theorem dX9_compare_194 : decode cX9_compare 194 = .ok (.imul, 1) := by decide +kernel
theorem dX9_compare_195 : decode cX9_compare 195 = .ok (.bipush 6, 2) := by decide +kernel
theorem dX9_compare_197 : decode cX9_compare 197 = .ok (.iadd, 1) := by decide +kernel
theorem dX9_compare_198 : decode cX9_compare 198 = .ok (.iaload, 1) := by decide +kernel
theorem dX9_compare_199 : decode cX9_compare 199 = .ok (.ifCond .ne 7, 3) := by decide +kernel
theorem dX9_compare_202 : decode cX9_compare 202 = .ok (.lconst 0, 1) := by decide +kernel
theorem dX9_compare_203 : decode cX9_compare 203 = .ok (.goto 4, 3) := by decide +kernel
theorem dX9_compare_206 : decode cX9_compare 206 = .ok (.lconst 1, 1) := by decide +kernel
theorem dX9_compare_207 : decode cX9_compare 207 = .ok (.lstore 9, 2) := by decide +kernel
theorem dX9_compare_209 : decode cX9_compare 209 = .ok (.goto 64, 3) := by decide +kernel
theorem dX9_compare_212 : decode cX9_compare 212 = .ok (.iload 6, 2) := by decide +kernel
theorem dX9_compare_214 : decode cX9_compare 214 = .ok (.bipush 111, 2) := by decide +kernel
theorem dX9_compare_216 : decode cX9_compare 216 = .ok (.if_icmp .ne 34, 3) := by decide +kernel
theorem dX9_compare_219 : decode cX9_compare 219 = .ok (.aload_n 0, 1) := by decide +kernel
theorem dX9_compare_220 : decode cX9_compare 220 = .ok (.getfield 7, 3) := by decide +kernel
theorem dX9_compare_223 : decode cX9_compare 223 = .ok (.bipush 8, 2) := by decide +kernel
theorem dX9_compare_225 : decode cX9_compare 225 = .ok (.iload_n 2, 1) := by decide +kernel
theorem dX9_compare_226 : decode cX9_compare 226 = .ok (.imul, 1) := by decide +kernel
theorem dX9_compare_227 : decode cX9_compare 227 = .ok (.iconst 1, 1) := by decide +kernel
theorem dX9_compare_228 : decode cX9_compare 228 = .ok (.iadd, 1) := by decide +kernel
theorem dX9_compare_229 : decode cX9_compare 229 = .ok (.iaload, 1) := by decide +kernel
theorem dX9_compare_230 : decode cX9_compare 230 = .ok (.i2l, 1) := by decide +kernel
theorem dX9_compare_231 : decode cX9_compare 231 = .ok (.lstore 7, 2) := by decide +kernel
theorem dX9_compare_233 : decode cX9_compare 233 = .ok (.aload_n 0, 1) := by decide +kernel
theorem dX9_compare_234 : decode cX9_compare 234 = .ok (.getfield 7, 3) := by decide +kernel
theorem dX9_compare_237 : decode cX9_compare 237 = .ok (.bipush 8, 2) := by decide +kernel
theorem dX9_compare_239 : decode cX9_compare 239 = .ok (.iload_n 3, 1) := by decide +kernel
theorem dX9_compare_240 : decode cX9_compare 240 = .ok (.imul, 1) := by decide +kernel
theorem dX9_compare_241 : decode cX9_compare 241 = .ok (.iconst 1, 1) := by decide +kernel
theorem dX9_compare_242 : decode cX9_compare 242 = .ok (.iadd, 1) := by decide +kernel
theorem dX9_compare_243 : decode cX9_compare 243 = .ok (.iaload, 1) := by decide +kernel
theorem dX9_compare_244 : decode cX9_compare 244 = .ok (.i2l, 1) := by decide +kernel
theorem dX9_compare_245 : decode cX9_compare 245 = .ok (.lstore 9, 2) := by decide +kernel
theorem dX9_compare_247 : decode cX9_compare 247 = .ok (.goto 26, 3) := by decide +kernel
theorem dX9_compare_250 : decode cX9_compare 250 = .ok (.iload 6, 2) := by decide +kernel
theorem dX9_compare_252 : decode cX9_compare 252 = .ok (.bipush 108, 2) := by decide +kernel
theorem dX9_compare_254 : decode cX9_compare 254 = .ok (.if_icmp .ne 19, 3) := by decide +kernel
theorem dX9_compare_257 : decode cX9_compare 257 = .ok (.aload_n 0, 1) := by decide +kernel
theorem dX9_compare_258 : decode cX9_compare 258 = .ok (.iload_n 2, 1) := by decide +kernel
theorem dX9_compare_259 : decode cX9_compare 259 = .ok (.invokevirtual 137, 3) := by decide +kernel
theorem dX9_compare_262 : decode cX9_compare 262 = .ok (.lneg, 1) := by decide +kernel
theorem dX9_compare_263 : decode cX9_compare 263 = .ok (.lstore 7, 2) := by decide +kernel
theorem dX9_compare_265 : decode cX9_compare 265 = .ok (.aload_n 0, 1) := by decide +kernel
theorem dX9_compare_266 : decode cX9_compare 266 = .ok (.iload_n 3, 1) := by decide +kernel
theorem dX9_compare_267 : decode cX9_compare 267 = .ok (.invokevirtual 137, 3) := by decide +kernel
theorem dX9_compare_270 : decode cX9_compare 270 = .ok (.lneg, 1) := by decide +kernel
theorem dX9_compare_271 : decode cX9_compare 271 = .ok (.lstore 9, 2) := by decide +kernel
theorem dX9_compare_273 : decode cX9_compare 273 = .ok (.lload 7, 2) := by decide +kernel
theorem dX9_compare_275 : decode cX9_compare 275 = .ok (.lload 9, 2) := by decide +kernel
theorem dX9_compare_277 : decode cX9_compare 277 = .ok (.lcmp, 1) := by decide +kernel
theorem dX9_compare_278 : decode cX9_compare 278 = .ok (.ifCond .eq 17, 3) := by decide +kernel
theorem dX9_compare_281 : decode cX9_compare 281 = .ok (.lload 7, 2) := by decide +kernel
theorem dX9_compare_283 : decode cX9_compare 283 = .ok (.lload 9, 2) := by decide +kernel
theorem dX9_compare_285 : decode cX9_compare 285 = .ok (.lcmp, 1) := by decide +kernel
theorem dX9_compare_286 : decode cX9_compare 286 = .ok (.ifCond .ge 7, 3) := by decide +kernel
theorem dX9_compare_289 : decode cX9_compare 289 = .ok (.iconst (-1), 1) := by decide +kernel
theorem dX9_compare_290 : decode cX9_compare 290 = .ok (.goto 4, 3) := by decide +kernel
theorem dX9_compare_293 : decode cX9_compare 293 = .ok (.iconst 1, 1) := by decide +kernel
theorem dX9_compare_294 : decode cX9_compare 294 = .ok (.ireturn, 1) := by decide +kernel
theorem dX9_compare_295 : decode cX9_compare 295 = .ok (.iinc 5 1, 3) := by decide +kernel
theorem dX9_compare_298 : decode cX9_compare 298 = .ok (.goto (-295), 3) := by decide +kernel
theorem dX9_compare_301 : decode cX9_compare 301 = .ok (.iconst 0, 1) := by decide +kernel
theorem dX9_compare_302 : decode cX9_compare 302 = .ok (.ireturn, 1) := by decide +kernel
theorem dX9_findOrder_0 : decode cX9_findOrder 0 = .ok (.iconst 0, 1) := by decide +kernel
theorem dX9_findOrder_1 : decode cX9_findOrder 1 = .ok (.istore_n 3, 1) := by decide +kernel
theorem dX9_findOrder_2 : decode cX9_findOrder 2 = .ok (.iconst 0, 1) := by decide +kernel
theorem dX9_findOrder_3 : decode cX9_findOrder 3 = .ok (.istore 4, 2) := by decide +kernel
theorem dX9_findOrder_5 : decode cX9_findOrder 5 = .ok (.iload 4, 2) := by decide +kernel
theorem dX9_findOrder_7 : decode cX9_findOrder 7 = .ok (.aload_n 0, 1) := by decide +kernel
theorem dX9_findOrder_8 : decode cX9_findOrder 8 = .ok (.getfield 87, 3) := by decide +kernel
theorem dX9_findOrder_11 : decode cX9_findOrder 11 = .ok (.if_icmp .ge 102, 3) := by decide +kernel
theorem dX9_findOrder_14 : decode cX9_findOrder 14 = .ok (.aload_n 0, 1) := by decide +kernel
theorem dX9_findOrder_15 : decode cX9_findOrder 15 = .ok (.iload 4, 2) := by decide +kernel
theorem dX9_findOrder_17 : decode cX9_findOrder 17 = .ok (.invokevirtual 137, 3) := by decide +kernel
theorem dX9_findOrder_20 : decode cX9_findOrder 20 = .ok (.lconst 0, 1) := by decide +kernel
theorem dX9_findOrder_21 : decode cX9_findOrder 21 = .ok (.lcmp, 1) := by decide +kernel
theorem dX9_findOrder_22 : decode cX9_findOrder 22 = .ok (.ifCond .le 85, 3) := by decide +kernel
theorem dX9_findOrder_25 : decode cX9_findOrder 25 = .ok (.aload_n 0, 1) := by decide +kernel
theorem dX9_findOrder_26 : decode cX9_findOrder 26 = .ok (.iload_n 1, 1) := by decide +kernel
theorem dX9_findOrder_27 : decode cX9_findOrder 27 = .ok (.bipush 120, 2) := by decide +kernel
theorem dX9_findOrder_29 : decode cX9_findOrder 29 = .ok (.invokevirtual 141, 3) := by decide +kernel
theorem dX9_findOrder_32 : decode cX9_findOrder 32 = .ok (.ifCond .eq 13, 3) := by decide +kernel
theorem dX9_findOrder_35 : decode cX9_findOrder 35 = .ok (.aload_n 0, 1) := by decide +kernel
theorem dX9_findOrder_36 : decode cX9_findOrder 36 = .ok (.getfield 47, 3) := by decide +kernel
theorem dX9_findOrder_39 : decode cX9_findOrder 39 = .ok (.iload 4, 2) := by decide +kernel
theorem dX9_findOrder_41 : decode cX9_findOrder 41 = .ok (.baload, 1) := by decide +kernel
theorem dX9_findOrder_42 : decode cX9_findOrder 42 = .ok (.ifCond .ne 65, 3) := by decide +kernel
theorem dX9_findOrder_45 : decode cX9_findOrder 45 = .ok (.iload_n 3, 1) := by decide +kernel
theorem dX9_findOrder_46 : decode cX9_findOrder 46 = .ok (.istore 5, 2) := by decide +kernel
theorem dX9_findOrder_48 : decode cX9_findOrder 48 = .ok (.iload 5, 2) := by decide +kernel
theorem dX9_findOrder_50 : decode cX9_findOrder 50 = .ok (.ifCond .le 45, 3) := by decide +kernel
theorem dX9_findOrder_53 : decode cX9_findOrder 53 = .ok (.aload_n 0, 1) := by decide +kernel
theorem dX9_findOrder_54 : decode cX9_findOrder 54 = .ok (.iload_n 1, 1) := by decide +kernel
theorem dX9_findOrder_55 : decode cX9_findOrder 55 = .ok (.iload 4, 2) := by decide +kernel
theorem dX9_findOrder_57 : decode cX9_findOrder 57 = .ok (.aload_n 0, 1) := by decide +kernel
theorem dX9_findOrder_58 : decode cX9_findOrder 58 = .ok (.getfield 51, 3) := by decide +kernel
theorem dX9_findOrder_61 : decode cX9_findOrder 61 = .ok (.iload 5, 2) := by decide +kernel
theorem dX9_findOrder_63 : decode cX9_findOrder 63 = .ok (.iconst 1, 1) := by decide +kernel
theorem dX9_findOrder_64 : decode cX9_findOrder 64 = .ok (.isub, 1) := by decide +kernel
theorem dX9_findOrder_65 : decode cX9_findOrder 65 = .ok (.iaload, 1) := by decide +kernel
theorem dX9_findOrder_66 : decode cX9_findOrder 66 = .ok (.iload_n 2, 1) := by decide +kernel
theorem dX9_findOrder_67 : decode cX9_findOrder 67 = .ok (.invokevirtual 145, 3) := by decide +kernel
theorem dX9_findOrder_70 : decode cX9_findOrder 70 = .ok (.ifCond .ge 25, 3) := by decide +kernel
theorem dX9_findOrder_73 : decode cX9_findOrder 73 = .ok (.aload_n 0, 1) := by decide +kernel
theorem dX9_findOrder_74 : decode cX9_findOrder 74 = .ok (.getfield 51, 3) := by decide +kernel
theorem dX9_findOrder_77 : decode cX9_findOrder 77 = .ok (.iload 5, 2) := by decide +kernel
theorem dX9_findOrder_79 : decode cX9_findOrder 79 = .ok (.aload_n 0, 1) := by decide +kernel
theorem dX9_findOrder_80 : decode cX9_findOrder 80 = .ok (.getfield 51, 3) := by decide +kernel
theorem dX9_findOrder_83 : decode cX9_findOrder 83 = .ok (.iload 5, 2) := by decide +kernel
theorem dX9_findOrder_85 : decode cX9_findOrder 85 = .ok (.iconst 1, 1) := by decide +kernel
theorem dX9_findOrder_86 : decode cX9_findOrder 86 = .ok (.isub, 1) := by decide +kernel
theorem dX9_findOrder_87 : decode cX9_findOrder 87 = .ok (.iaload, 1) := by decide +kernel
theorem dX9_findOrder_88 : decode cX9_findOrder 88 = .ok (.iastore, 1) := by decide +kernel
theorem dX9_findOrder_89 : decode cX9_findOrder 89 = .ok (.iinc 5 (-1), 3) := by decide +kernel
theorem dX9_findOrder_92 : decode cX9_findOrder 92 = .ok (.goto (-44), 3) := by decide +kernel
theorem dX9_findOrder_95 : decode cX9_findOrder 95 = .ok (.aload_n 0, 1) := by decide +kernel
theorem dX9_findOrder_96 : decode cX9_findOrder 96 = .ok (.getfield 51, 3) := by decide +kernel
theorem dX9_findOrder_99 : decode cX9_findOrder 99 = .ok (.iload 5, 2) := by decide +kernel
theorem dX9_findOrder_101 : decode cX9_findOrder 101 = .ok (.iload 4, 2) := by decide +kernel
theorem dX9_findOrder_103 : decode cX9_findOrder 103 = .ok (.iastore, 1) := by decide +kernel
theorem dX9_findOrder_104 : decode cX9_findOrder 104 = .ok (.iinc 3 1, 3) := by decide +kernel
theorem dX9_findOrder_107 : decode cX9_findOrder 107 = .ok (.iinc 4 1, 3) := by decide +kernel
theorem dX9_findOrder_110 : decode cX9_findOrder 110 = .ok (.goto (-105), 3) := by decide +kernel
theorem dX9_findOrder_113 : decode cX9_findOrder 113 = .ok (.iload_n 3, 1) := by decide +kernel
theorem dX9_findOrder_114 : decode cX9_findOrder 114 = .ok (.ireturn, 1) := by decide +kernel
theorem dX9_putParts_0 : decode cX9_putParts 0 = .ok (.lconst 0, 1) := by decide +kernel
theorem dX9_putParts_1 : decode cX9_putParts 1 = .ok (.lstore 5, 2) := by decide +kernel
theorem dX9_putParts_3 : decode cX9_putParts 3 = .ok (.iload_n 2, 1) := by decide +kernel
theorem dX9_putParts_4 : decode cX9_putParts 4 = .ok (.istore 7, 2) := by decide +kernel
theorem dX9_putParts_6 : decode cX9_putParts 6 = .ok (.iload 7, 2) := by decide +kernel
theorem dX9_putParts_8 : decode cX9_putParts 8 = .ok (.iload_n 3, 1) := by decide +kernel
theorem dX9_putParts_9 : decode cX9_putParts 9 = .ok (.if_icmp .ge 25, 3) := by decide +kernel
theorem dX9_putParts_12 : decode cX9_putParts 12 = .ok (.lload 5, 2) := by decide +kernel
theorem dX9_putParts_14 : decode cX9_putParts 14 = .ok (.aload_n 0, 1) := by decide +kernel
theorem dX9_putParts_15 : decode cX9_putParts 15 = .ok (.aload_n 0, 1) := by decide +kernel
theorem dX9_putParts_16 : decode cX9_putParts 16 = .ok (.getfield 51, 3) := by decide +kernel
theorem dX9_putParts_19 : decode cX9_putParts 19 = .ok (.iload 7, 2) := by decide +kernel
theorem dX9_putParts_21 : decode cX9_putParts 21 = .ok (.iaload, 1) := by decide +kernel
theorem dX9_putParts_22 : decode cX9_putParts 22 = .ok (.invokevirtual 137, 3) := by decide +kernel
theorem dX9_putParts_25 : decode cX9_putParts 25 = .ok (.ladd, 1) := by decide +kernel
theorem dX9_putParts_26 : decode cX9_putParts 26 = .ok (.lstore 5, 2) := by decide +kernel
theorem dX9_putParts_28 : decode cX9_putParts 28 = .ok (.iinc 7 1, 3) := by decide +kernel
theorem dX9_putParts_31 : decode cX9_putParts 31 = .ok (.goto (-25), 3) := by decide +kernel
theorem dX9_putParts_34 : decode cX9_putParts 34 = .ok (.aload_n 0, 1) := by decide +kernel
theorem dX9_putParts_35 : decode cX9_putParts 35 = .ok (.getfield 149, 3) := by decide +kernel
theorem dX9_putParts_38 : decode cX9_putParts 38 = .ok (.lload 5, 2) := by decide +kernel
theorem dX9_putParts_40 : decode cX9_putParts 40 = .ok (.lcmp, 1) := by decide +kernel
theorem dX9_putParts_41 : decode cX9_putParts 41 = .ok (.ifCond .ge 10, 3) := by decide +kernel
theorem dX9_putParts_44 : decode cX9_putParts 44 = .ok (.aload_n 0, 1) := by decide +kernel
theorem dX9_putParts_45 : decode cX9_putParts 45 = .ok (.getfield 149, 3) := by decide +kernel
theorem dX9_putParts_48 : decode cX9_putParts 48 = .ok (.goto 5, 3) := by decide +kernel
theorem dX9_putParts_51 : decode cX9_putParts 51 = .ok (.lload 5, 2) := by decide +kernel
theorem dX9_putParts_53 : decode cX9_putParts 53 = .ok (.lstore 7, 2) := by decide +kernel
theorem dX9_putParts_55 : decode cX9_putParts 55 = .ok (.aload_n 0, 1) := by decide +kernel
theorem dX9_putParts_56 : decode cX9_putParts 56 = .ok (.dup, 1) := by decide +kernel
theorem dX9_putParts_57 : decode cX9_putParts 57 = .ok (.getfield 149, 3) := by decide +kernel
theorem dX9_putParts_60 : decode cX9_putParts 60 = .ok (.lload 7, 2) := by decide +kernel
theorem dX9_putParts_62 : decode cX9_putParts 62 = .ok (.lsub, 1) := by decide +kernel
theorem dX9_putParts_63 : decode cX9_putParts 63 = .ok (.putfield 149, 3) := by decide +kernel
theorem dX9_putParts_66 : decode cX9_putParts 66 = .ok (.lload 7, 2) := by decide +kernel
theorem dX9_putParts_68 : decode cX9_putParts 68 = .ok (.lstore 9, 2) := by decide +kernel
theorem dX9_putParts_70 : decode cX9_putParts 70 = .ok (.iload_n 2, 1) := by decide +kernel
theorem dX9_putParts_71 : decode cX9_putParts 71 = .ok (.istore 11, 2) := by decide +kernel
theorem dX9_putParts_73 : decode cX9_putParts 73 = .ok (.iload 11, 2) := by decide +kernel
theorem dX9_putParts_75 : decode cX9_putParts 75 = .ok (.iload_n 3, 1) := by decide +kernel
theorem dX9_putParts_76 : decode cX9_putParts 76 = .ok (.if_icmp .ge 44, 3) := by decide +kernel
theorem dX9_putParts_79 : decode cX9_putParts 79 = .ok (.aload_n 0, 1) := by decide +kernel
theorem dX9_putParts_80 : decode cX9_putParts 80 = .ok (.getfield 54, 3) := by decide +kernel
theorem dX9_putParts_83 : decode cX9_putParts 83 = .ok (.iload 11, 2) := by decide +kernel
theorem dX9_putParts_85 : decode cX9_putParts 85 = .ok (.lload 5, 2) := by decide +kernel
theorem dX9_putParts_87 : decode cX9_putParts 87 = .ok (.lconst 0, 1) := by decide +kernel
theorem dX9_putParts_88 : decode cX9_putParts 88 = .ok (.lcmp, 1) := by decide +kernel
theorem dX9_putParts_89 : decode cX9_putParts 89 = .ok (.ifCond .ne 7, 3) := by decide +kernel
theorem dX9_putParts_92 : decode cX9_putParts 92 = .ok (.lconst 0, 1) := by decide +kernel
theorem dX9_putParts_93 : decode cX9_putParts 93 = .ok (.goto 20, 3) := by decide +kernel
theorem dX9_putParts_96 : decode cX9_putParts 96 = .ok (.lload 7, 2) := by decide +kernel
theorem dX9_putParts_98 : decode cX9_putParts 98 = .ok (.aload_n 0, 1) := by decide +kernel
theorem dX9_putParts_99 : decode cX9_putParts 99 = .ok (.aload_n 0, 1) := by decide +kernel
theorem dX9_putParts_100 : decode cX9_putParts 100 = .ok (.getfield 51, 3) := by decide +kernel
theorem dX9_putParts_103 : decode cX9_putParts 103 = .ok (.iload 11, 2) := by decide +kernel
theorem dX9_putParts_105 : decode cX9_putParts 105 = .ok (.iaload, 1) := by decide +kernel
theorem dX9_putParts_106 : decode cX9_putParts 106 = .ok (.invokevirtual 137, 3) := by decide +kernel
theorem dX9_putParts_109 : decode cX9_putParts 109 = .ok (.lmul, 1) := by decide +kernel
theorem dX9_putParts_110 : decode cX9_putParts 110 = .ok (.lload 5, 2) := by decide +kernel
theorem dX9_putParts_112 : decode cX9_putParts 112 = .ok (.ldiv, 1) := by decide +kernel
theorem dX9_putParts_113 : decode cX9_putParts 113 = .ok (.lastore, 1) := by decide +kernel
theorem dX9_putParts_114 : decode cX9_putParts 114 = .ok (.iinc 11 1, 3) := by decide +kernel
theorem dX9_putParts_117 : decode cX9_putParts 117 = .ok (.goto (-44), 3) := by decide +kernel
theorem dX9_putParts_120 : decode cX9_putParts 120 = .ok (.iload_n 2, 1) := by decide +kernel
theorem dX9_putParts_121 : decode cX9_putParts 121 = .ok (.istore 11, 2) := by decide +kernel
theorem dX9_putParts_123 : decode cX9_putParts 123 = .ok (.iload 11, 2) := by decide +kernel
theorem dX9_putParts_125 : decode cX9_putParts 125 = .ok (.iload_n 3, 1) := by decide +kernel
theorem dX9_putParts_126 : decode cX9_putParts 126 = .ok (.if_icmp .ge 35, 3) := by decide +kernel
theorem dX9_putParts_129 : decode cX9_putParts 129 = .ok (.lload 9, 2) := by decide +kernel
theorem dX9_putParts_131 : decode cX9_putParts 131 = .ok (.aload_n 0, 1) := by decide +kernel
theorem dX9_putParts_132 : decode cX9_putParts 132 = .ok (.iload_n 1, 1) := by decide +kernel
theorem dX9_putParts_133 : decode cX9_putParts 133 = .ok (.aload_n 0, 1) := by decide +kernel
theorem dX9_putParts_134 : decode cX9_putParts 134 = .ok (.getfield 51, 3) := by decide +kernel
theorem dX9_putParts_137 : decode cX9_putParts 137 = .ok (.iload 11, 2) := by decide +kernel
theorem dX9_putParts_139 : decode cX9_putParts 139 = .ok (.iaload, 1) := by decide +kernel
theorem dX9_putParts_140 : decode cX9_putParts 140 = .ok (.aload_n 0, 1) := by decide +kernel
theorem dX9_putParts_141 : decode cX9_putParts 141 = .ok (.getfield 54, 3) := by decide +kernel
theorem dX9_putParts_144 : decode cX9_putParts 144 = .ok (.iload 11, 2) := by decide +kernel
theorem dX9_putParts_146 : decode cX9_putParts 146 = .ok (.laload, 1) := by decide +kernel
theorem dX9_putParts_147 : decode cX9_putParts 147 = .ok (.iload 4, 2) := by decide +kernel
theorem dX9_putParts_149 : decode cX9_putParts 149 = .ok (.invokevirtual 153, 3) := by decide +kernel
theorem dX9_putParts_152 : decode cX9_putParts 152 = .ok (.lsub, 1) := by decide +kernel
theorem dX9_putParts_153 : decode cX9_putParts 153 = .ok (.lstore 9, 2) := by decide +kernel
theorem dX9_putParts_155 : decode cX9_putParts 155 = .ok (.iinc 11 1, 3) := by decide +kernel
theorem dX9_putParts_158 : decode cX9_putParts 158 = .ok (.goto (-35), 3) := by decide +kernel
theorem dX9_putParts_161 : decode cX9_putParts 161 = .ok (.iload_n 2, 1) := by decide +kernel
theorem dX9_putParts_162 : decode cX9_putParts 162 = .ok (.istore 11, 2) := by decide +kernel
theorem dX9_putParts_164 : decode cX9_putParts 164 = .ok (.iload 11, 2) := by decide +kernel
theorem dX9_putParts_166 : decode cX9_putParts 166 = .ok (.iload_n 3, 1) := by decide +kernel
theorem dX9_putParts_167 : decode cX9_putParts 167 = .ok (.if_icmp .ge 37, 3) := by decide +kernel
theorem dX9_putParts_170 : decode cX9_putParts 170 = .ok (.lload 9, 2) := by decide +kernel
theorem dX9_putParts_172 : decode cX9_putParts 172 = .ok (.lconst 0, 1) := by decide +kernel
theorem dX9_putParts_173 : decode cX9_putParts 173 = .ok (.lcmp, 1) := by decide +kernel
theorem dX9_putParts_174 : decode cX9_putParts 174 = .ok (.ifCond .le 30, 3) := by decide +kernel
theorem dX9_putParts_177 : decode cX9_putParts 177 = .ok (.lload 9, 2) := by decide +kernel
theorem dX9_putParts_179 : decode cX9_putParts 179 = .ok (.aload_n 0, 1) := by decide +kernel
theorem dX9_putParts_180 : decode cX9_putParts 180 = .ok (.iload_n 1, 1) := by decide +kernel
theorem dX9_putParts_181 : decode cX9_putParts 181 = .ok (.aload_n 0, 1) := by decide +kernel
theorem dX9_putParts_182 : decode cX9_putParts 182 = .ok (.getfield 51, 3) := by decide +kernel
theorem dX9_putParts_185 : decode cX9_putParts 185 = .ok (.iload 11, 2) := by decide +kernel
theorem dX9_putParts_187 : decode cX9_putParts 187 = .ok (.iaload, 1) := by decide +kernel
theorem dX9_putParts_188 : decode cX9_putParts 188 = .ok (.lload 9, 2) := by decide +kernel
theorem dX9_putParts_190 : decode cX9_putParts 190 = .ok (.iload 4, 2) := by decide +kernel
theorem dX9_putParts_192 : decode cX9_putParts 192 = .ok (.invokevirtual 153, 3) := by decide +kernel
theorem dX9_putParts_195 : decode cX9_putParts 195 = .ok (.lsub, 1) := by decide +kernel
theorem dX9_putParts_196 : decode cX9_putParts 196 = .ok (.lstore 9, 2) := by decide +kernel
theorem dX9_putParts_198 : decode cX9_putParts 198 = .ok (.iinc 11 1, 3) := by decide +kernel
theorem dX9_putParts_201 : decode cX9_putParts 201 = .ok (.goto (-37), 3) := by decide +kernel
theorem dX9_putParts_204 : decode cX9_putParts 204 = .ok (.return_, 1) := by decide +kernel
theorem dX9_putAll_0 : decode cX9_putAll 0 = .ok (.iconst 0, 1) := by decide +kernel
theorem dX9_putAll_1 : decode cX9_putAll 1 = .ok (.istore 7, 2) := by decide +kernel
theorem dX9_putAll_3 : decode cX9_putAll 3 = .ok (.iload 7, 2) := by decide +kernel
theorem dX9_putAll_5 : decode cX9_putAll 5 = .ok (.aload_n 0, 1) := by decide +kernel
theorem dX9_putAll_6 : decode cX9_putAll 6 = .ok (.getfield 87, 3) := by decide +kernel
theorem dX9_putAll_9 : decode cX9_putAll 9 = .ok (.if_icmp .ge 40, 3) := by decide +kernel
theorem dX9_putAll_12 : decode cX9_putAll 12 = .ok (.aload_n 0, 1) := by decide +kernel
theorem dX9_putAll_13 : decode cX9_putAll 13 = .ok (.getfield 41, 3) := by decide +kernel
theorem dX9_putAll_16 : decode cX9_putAll 16 = .ok (.iload 7, 2) := by decide +kernel
theorem dX9_putAll_18 : decode cX9_putAll 18 = .ok (.lconst 0, 1) := by decide +kernel
theorem dX9_putAll_19 : decode cX9_putAll 19 = .ok (.lastore, 1) := by decide +kernel
theorem dX9_putAll_20 : decode cX9_putAll 20 = .ok (.aload_n 0, 1) := by decide +kernel
theorem dX9_putAll_21 : decode cX9_putAll 21 = .ok (.getfield 44, 3) := by decide +kernel
theorem dX9_putAll_24 : decode cX9_putAll 24 = .ok (.iload 7, 2) := by decide +kernel
theorem dX9_putAll_26 : decode cX9_putAll 26 = .ok (.lconst 0, 1) := by decide +kernel
theorem dX9_putAll_27 : decode cX9_putAll 27 = .ok (.lastore, 1) := by decide +kernel
theorem dX9_putAll_28 : decode cX9_putAll 28 = .ok (.aload_n 0, 1) := by decide +kernel
theorem dX9_putAll_29 : decode cX9_putAll 29 = .ok (.getfield 47, 3) := by decide +kernel
theorem dX9_putAll_32 : decode cX9_putAll 32 = .ok (.iload 7, 2) := by decide +kernel
theorem dX9_putAll_34 : decode cX9_putAll 34 = .ok (.aload_n 0, 1) := by decide +kernel
theorem dX9_putAll_35 : decode cX9_putAll 35 = .ok (.iload 7, 2) := by decide +kernel
theorem dX9_putAll_37 : decode cX9_putAll 37 = .ok (.iload 6, 2) := by decide +kernel
theorem dX9_putAll_39 : decode cX9_putAll 39 = .ok (.invokevirtual 157, 3) := by decide +kernel
theorem dX9_putAll_42 : decode cX9_putAll 42 = .ok (.bastore, 1) := by decide +kernel
theorem dX9_putAll_43 : decode cX9_putAll 43 = .ok (.iinc 7 1, 3) := by decide +kernel
theorem dX9_putAll_46 : decode cX9_putAll 46 = .ok (.goto (-43), 3) := by decide +kernel
theorem dX9_putAll_49 : decode cX9_putAll 49 = .ok (.aload_n 0, 1) := by decide +kernel
theorem dX9_putAll_50 : decode cX9_putAll 50 = .ok (.lload_n 2, 1) := by decide +kernel
theorem dX9_putAll_51 : decode cX9_putAll 51 = .ok (.putfield 149, 3) := by decide +kernel
theorem dX9_putAll_54 : decode cX9_putAll 54 = .ok (.aload_n 0, 1) := by decide +kernel
theorem dX9_putAll_55 : decode cX9_putAll 55 = .ok (.iload_n 1, 1) := by decide +kernel
theorem dX9_putAll_56 : decode cX9_putAll 56 = .ok (.bipush 99, 2) := by decide +kernel
theorem dX9_putAll_58 : decode cX9_putAll 58 = .ok (.invokevirtual 141, 3) := by decide +kernel
theorem dX9_putAll_61 : decode cX9_putAll 61 = .ok (.ifCond .eq 24, 3) := by decide +kernel
theorem dX9_putAll_64 : decode cX9_putAll 64 = .ok (.iload 4, 2) := by decide +kernel
theorem dX9_putAll_66 : decode cX9_putAll 66 = .ok (.ifCond .lt 19, 3) := by decide +kernel
theorem dX9_putAll_69 : decode cX9_putAll 69 = .ok (.aload_n 0, 1) := by decide +kernel
theorem dX9_putAll_70 : decode cX9_putAll 70 = .ok (.iload 4, 2) := by decide +kernel
theorem dX9_putAll_72 : decode cX9_putAll 72 = .ok (.invokevirtual 137, 3) := by decide +kernel
theorem dX9_putAll_75 : decode cX9_putAll 75 = .ok (.lconst 0, 1) := by decide +kernel
theorem dX9_putAll_76 : decode cX9_putAll 76 = .ok (.lcmp, 1) := by decide +kernel
theorem dX9_putAll_77 : decode cX9_putAll 77 = .ok (.ifCond .le 8, 3) := by decide +kernel
theorem dX9_putAll_80 : decode cX9_putAll 80 = .ok (.iload 4, 2) := by decide +kernel
theorem dX9_putAll_82 : decode cX9_putAll 82 = .ok (.goto 36, 3) := by decide +kernel
theorem dX9_putAll_85 : decode cX9_putAll 85 = .ok (.aload_n 0, 1) := by decide +kernel
theorem dX9_putAll_86 : decode cX9_putAll 86 = .ok (.iload_n 1, 1) := by decide +kernel
theorem dX9_putAll_87 : decode cX9_putAll 87 = .ok (.bipush 116, 2) := by decide +kernel
theorem dX9_putAll_89 : decode cX9_putAll 89 = .ok (.invokevirtual 141, 3) := by decide +kernel
theorem dX9_putAll_92 : decode cX9_putAll 92 = .ok (.ifCond .eq 24, 3) := by decide +kernel
theorem dX9_putAll_95 : decode cX9_putAll 95 = .ok (.iload 5, 2) := by decide +kernel
theorem dX9_putAll_97 : decode cX9_putAll 97 = .ok (.ifCond .lt 19, 3) := by decide +kernel
theorem dX9_putAll_100 : decode cX9_putAll 100 = .ok (.aload_n 0, 1) := by decide +kernel
theorem dX9_putAll_101 : decode cX9_putAll 101 = .ok (.iload 5, 2) := by decide +kernel
theorem dX9_putAll_103 : decode cX9_putAll 103 = .ok (.invokevirtual 137, 3) := by decide +kernel
theorem dX9_putAll_106 : decode cX9_putAll 106 = .ok (.lconst 0, 1) := by decide +kernel
theorem dX9_putAll_107 : decode cX9_putAll 107 = .ok (.lcmp, 1) := by decide +kernel
theorem dX9_putAll_108 : decode cX9_putAll 108 = .ok (.ifCond .le 8, 3) := by decide +kernel
theorem dX9_putAll_111 : decode cX9_putAll 111 = .ok (.iload 5, 2) := by decide +kernel
theorem dX9_putAll_113 : decode cX9_putAll 113 = .ok (.goto 5, 3) := by decide +kernel
theorem dX9_putAll_116 : decode cX9_putAll 116 = .ok (.bipush (-4), 2) := by decide +kernel
theorem dX9_putAll_118 : decode cX9_putAll 118 = .ok (.istore 7, 2) := by decide +kernel
theorem dX9_putAll_120 : decode cX9_putAll 120 = .ok (.iload 7, 2) := by decide +kernel
theorem dX9_putAll_122 : decode cX9_putAll 122 = .ok (.ifCond .lt 25, 3) := by decide +kernel
theorem dX9_putAll_125 : decode cX9_putAll 125 = .ok (.aload_n 0, 1) := by decide +kernel
theorem dX9_putAll_126 : decode cX9_putAll 126 = .ok (.dup, 1) := by decide +kernel
theorem dX9_putAll_127 : decode cX9_putAll 127 = .ok (.getfield 149, 3) := by decide +kernel
theorem dX9_putAll_130 : decode cX9_putAll 130 = .ok (.aload_n 0, 1) := by decide +kernel
theorem dX9_putAll_131 : decode cX9_putAll 131 = .ok (.iload_n 1, 1) := by decide +kernel
theorem dX9_putAll_132 : decode cX9_putAll 132 = .ok (.iload 7, 2) := by decide +kernel
theorem dX9_putAll_134 : decode cX9_putAll 134 = .ok (.aload_n 0, 1) := by decide +kernel
theorem dX9_putAll_135 : decode cX9_putAll 135 = .ok (.getfield 149, 3) := by decide +kernel
theorem dX9_putAll_138 : decode cX9_putAll 138 = .ok (.iload 6, 2) := by decide +kernel
theorem dX9_putAll_140 : decode cX9_putAll 140 = .ok (.invokevirtual 153, 3) := by decide +kernel
theorem dX9_putAll_143 : decode cX9_putAll 143 = .ok (.lsub, 1) := by decide +kernel
theorem dX9_putAll_144 : decode cX9_putAll 144 = .ok (.putfield 149, 3) := by decide +kernel
theorem dX9_putAll_147 : decode cX9_putAll 147 = .ok (.aload_n 0, 1) := by decide +kernel
theorem dX9_putAll_148 : decode cX9_putAll 148 = .ok (.iload_n 1, 1) := by decide +kernel
theorem dX9_putAll_149 : decode cX9_putAll 149 = .ok (.iload 6, 2) := by decide +kernel
theorem dX9_putAll_151 : decode cX9_putAll 151 = .ok (.invokevirtual 160, 3) := by decide +kernel
theorem dX9_putAll_154 : decode cX9_putAll 154 = .ok (.istore 8, 2) := by decide +kernel
theorem dX9_putAll_156 : decode cX9_putAll 156 = .ok (.iconst 0, 1) := by decide +kernel
theorem dX9_putAll_157 : decode cX9_putAll 157 = .ok (.istore 9, 2) := by decide +kernel
theorem dX9_putAll_159 : decode cX9_putAll 159 = .ok (.iload 9, 2) := by decide +kernel
theorem dX9_putAll_161 : decode cX9_putAll 161 = .ok (.iload 8, 2) := by decide +kernel
theorem dX9_putAll_163 : decode cX9_putAll 163 = .ok (.if_icmp .ge 61, 3) := by decide +kernel
theorem dX9_putAll_166 : decode cX9_putAll 166 = .ok (.aload_n 0, 1) := by decide +kernel
theorem dX9_putAll_167 : decode cX9_putAll 167 = .ok (.getfield 57, 3) := by decide +kernel
theorem dX9_putAll_170 : decode cX9_putAll 170 = .ok (.iload 9, 2) := by decide +kernel
theorem dX9_putAll_172 : decode cX9_putAll 172 = .ok (.iload 9, 2) := by decide +kernel
theorem dX9_putAll_174 : decode cX9_putAll 174 = .ok (.ifCond .le 41, 3) := by decide +kernel
theorem dX9_putAll_177 : decode cX9_putAll 177 = .ok (.aload_n 0, 1) := by decide +kernel
theorem dX9_putAll_178 : decode cX9_putAll 178 = .ok (.iload_n 1, 1) := by decide +kernel
theorem dX9_putAll_179 : decode cX9_putAll 179 = .ok (.aload_n 0, 1) := by decide +kernel
theorem dX9_putAll_180 : decode cX9_putAll 180 = .ok (.getfield 51, 3) := by decide +kernel
theorem dX9_putAll_183 : decode cX9_putAll 183 = .ok (.iload 9, 2) := by decide +kernel
theorem dX9_putAll_185 : decode cX9_putAll 185 = .ok (.iconst 1, 1) := by decide +kernel
theorem dX9_putAll_186 : decode cX9_putAll 186 = .ok (.isub, 1) := by decide +kernel
theorem dX9_putAll_187 : decode cX9_putAll 187 = .ok (.iaload, 1) := by decide +kernel
theorem dX9_putAll_188 : decode cX9_putAll 188 = .ok (.aload_n 0, 1) := by decide +kernel
theorem dX9_putAll_189 : decode cX9_putAll 189 = .ok (.getfield 51, 3) := by decide +kernel
theorem dX9_putAll_192 : decode cX9_putAll 192 = .ok (.iload 9, 2) := by decide +kernel
theorem dX9_putAll_194 : decode cX9_putAll 194 = .ok (.iaload, 1) := by decide +kernel
theorem dX9_putAll_195 : decode cX9_putAll 195 = .ok (.iload 6, 2) := by decide +kernel
theorem dX9_putAll_197 : decode cX9_putAll 197 = .ok (.invokevirtual 145, 3) := by decide +kernel
theorem dX9_putAll_200 : decode cX9_putAll 200 = .ok (.ifCond .ne 15, 3) := by decide +kernel
theorem dX9_putAll_203 : decode cX9_putAll 203 = .ok (.aload_n 0, 1) := by decide +kernel
theorem dX9_putAll_204 : decode cX9_putAll 204 = .ok (.getfield 57, 3) := by decide +kernel
theorem dX9_putAll_207 : decode cX9_putAll 207 = .ok (.iload 9, 2) := by decide +kernel
theorem dX9_putAll_209 : decode cX9_putAll 209 = .ok (.iconst 1, 1) := by decide +kernel
theorem dX9_putAll_210 : decode cX9_putAll 210 = .ok (.isub, 1) := by decide +kernel
theorem dX9_putAll_211 : decode cX9_putAll 211 = .ok (.iaload, 1) := by decide +kernel
theorem dX9_putAll_212 : decode cX9_putAll 212 = .ok (.goto 5, 3) := by decide +kernel
theorem dX9_putAll_215 : decode cX9_putAll 215 = .ok (.iload 9, 2) := by decide +kernel
theorem dX9_putAll_217 : decode cX9_putAll 217 = .ok (.iastore, 1) := by decide +kernel
theorem dX9_putAll_218 : decode cX9_putAll 218 = .ok (.iinc 9 1, 3) := by decide +kernel
theorem dX9_putAll_221 : decode cX9_putAll 221 = .ok (.goto (-62), 3) := by decide +kernel
theorem dX9_putAll_224 : decode cX9_putAll 224 = .ok (.iconst 0, 1) := by decide +kernel
theorem dX9_putAll_225 : decode cX9_putAll 225 = .ok (.istore 9, 2) := by decide +kernel
theorem dX9_putAll_227 : decode cX9_putAll 227 = .ok (.iload 9, 2) := by decide +kernel
theorem dX9_putAll_229 : decode cX9_putAll 229 = .ok (.iload 8, 2) := by decide +kernel
theorem dX9_putAll_231 : decode cX9_putAll 231 = .ok (.if_icmp .ge 103, 3) := by decide +kernel
theorem dX9_putAll_234 : decode cX9_putAll 234 = .ok (.aload_n 0, 1) := by decide +kernel
theorem dX9_putAll_235 : decode cX9_putAll 235 = .ok (.iload_n 1, 1) := by decide +kernel
theorem dX9_putAll_236 : decode cX9_putAll 236 = .ok (.bipush 112, 2) := by decide +kernel
theorem dX9_putAll_238 : decode cX9_putAll 238 = .ok (.invokevirtual 141, 3) := by decide +kernel
theorem dX9_putAll_241 : decode cX9_putAll 241 = .ok (.ifCond .ne 33, 3) := by decide +kernel
theorem dX9_putAll_244 : decode cX9_putAll 244 = .ok (.aload_n 0, 1) := by decide +kernel
theorem dX9_putAll_245 : decode cX9_putAll 245 = .ok (.dup, 1) := by decide +kernel
theorem dX9_putAll_246 : decode cX9_putAll 246 = .ok (.getfield 149, 3) := by decide +kernel
theorem dX9_putAll_249 : decode cX9_putAll 249 = .ok (.aload_n 0, 1) := by decide +kernel
theorem dX9_putAll_250 : decode cX9_putAll 250 = .ok (.iload_n 1, 1) := by decide +kernel
theorem dX9_putAll_251 : decode cX9_putAll 251 = .ok (.aload_n 0, 1) := by decide +kernel
theorem dX9_putAll_252 : decode cX9_putAll 252 = .ok (.getfield 51, 3) := by decide +kernel
theorem dX9_putAll_255 : decode cX9_putAll 255 = .ok (.iload 9, 2) := by decide +kernel
theorem dX9_putAll_257 : decode cX9_putAll 257 = .ok (.iaload, 1) := by decide +kernel
theorem dX9_putAll_258 : decode cX9_putAll 258 = .ok (.aload_n 0, 1) := by decide +kernel
theorem dX9_putAll_259 : decode cX9_putAll 259 = .ok (.getfield 149, 3) := by decide +kernel
theorem dX9_putAll_262 : decode cX9_putAll 262 = .ok (.iload 6, 2) := by decide +kernel
theorem dX9_putAll_264 : decode cX9_putAll 264 = .ok (.invokevirtual 153, 3) := by decide +kernel
theorem dX9_putAll_267 : decode cX9_putAll 267 = .ok (.lsub, 1) := by decide +kernel
theorem dX9_putAll_268 : decode cX9_putAll 268 = .ok (.putfield 149, 3) := by decide +kernel
theorem dX9_putAll_271 : decode cX9_putAll 271 = .ok (.goto 57, 3) := by decide +kernel
theorem dX9_putAll_274 : decode cX9_putAll 274 = .ok (.aload_n 0, 1) := by decide +kernel
theorem dX9_putAll_275 : decode cX9_putAll 275 = .ok (.getfield 57, 3) := by decide +kernel
theorem dX9_putAll_278 : decode cX9_putAll 278 = .ok (.iload 9, 2) := by decide +kernel
theorem dX9_putAll_280 : decode cX9_putAll 280 = .ok (.iaload, 1) := by decide +kernel
theorem dX9_putAll_281 : decode cX9_putAll 281 = .ok (.iload 9, 2) := by decide +kernel
theorem dX9_putAll_283 : decode cX9_putAll 283 = .ok (.if_icmp .ne 45, 3) := by decide +kernel
theorem dX9_putAll_286 : decode cX9_putAll 286 = .ok (.iload 9, 2) := by decide +kernel
theorem dX9_putAll_288 : decode cX9_putAll 288 = .ok (.iconst 1, 1) := by decide +kernel
theorem dX9_putAll_289 : decode cX9_putAll 289 = .ok (.iadd, 1) := by decide +kernel
theorem dX9_putAll_290 : decode cX9_putAll 290 = .ok (.istore 10, 2) := by decide +kernel
theorem dX9_putAll_292 : decode cX9_putAll 292 = .ok (.iload 10, 2) := by decide +kernel
theorem dX9_putAll_294 : decode cX9_putAll 294 = .ok (.iload 8, 2) := by decide +kernel
theorem dX9_putAll_296 : decode cX9_putAll 296 = .ok (.if_icmp .ge 21, 3) := by decide +kernel
theorem dX9_putAll_299 : decode cX9_putAll 299 = .ok (.aload_n 0, 1) := by decide +kernel
theorem dX9_putAll_300 : decode cX9_putAll 300 = .ok (.getfield 57, 3) := by decide +kernel
theorem dX9_putAll_303 : decode cX9_putAll 303 = .ok (.iload 10, 2) := by decide +kernel
theorem dX9_putAll_305 : decode cX9_putAll 305 = .ok (.iaload, 1) := by decide +kernel
theorem dX9_putAll_306 : decode cX9_putAll 306 = .ok (.iload 9, 2) := by decide +kernel
theorem dX9_putAll_308 : decode cX9_putAll 308 = .ok (.if_icmp .ne 9, 3) := by decide +kernel
theorem dX9_putAll_311 : decode cX9_putAll 311 = .ok (.iinc 10 1, 3) := by decide +kernel
theorem dX9_putAll_314 : decode cX9_putAll 314 = .ok (.goto (-22), 3) := by decide +kernel
theorem dX9_putAll_317 : decode cX9_putAll 317 = .ok (.aload_n 0, 1) := by decide +kernel
theorem dX9_putAll_318 : decode cX9_putAll 318 = .ok (.iload_n 1, 1) := by decide +kernel
theorem dX9_putAll_319 : decode cX9_putAll 319 = .ok (.iload 9, 2) := by decide +kernel
theorem dX9_putAll_321 : decode cX9_putAll 321 = .ok (.iload 10, 2) := by decide +kernel
theorem dX9_putAll_323 : decode cX9_putAll 323 = .ok (.iload 6, 2) := by decide +kernel
theorem dX9_putAll_325 : decode cX9_putAll 325 = .ok (.invokevirtual 164, 3) := by decide +kernel
theorem dX9_putAll_328 : decode cX9_putAll 328 = .ok (.iinc 9 1, 3) := by decide +kernel
theorem dX9_putAll_331 : decode cX9_putAll 331 = .ok (.goto (-104), 3) := by decide +kernel
theorem dX9_putAll_334 : decode cX9_putAll 334 = .ok (.return_, 1) := by decide +kernel
theorem dX9_putPayment_0 : decode cX9_putPayment 0 = .ok (.aload_n 0, 1) := by decide +kernel
theorem dX9_putPayment_1 : decode cX9_putPayment 1 = .ok (.iload_n 1, 1) := by decide +kernel
theorem dX9_putPayment_2 : decode cX9_putPayment 2 = .ok (.ldc2_w 135, 3) := by decide +kernel
theorem dX9_putPayment_5 : decode cX9_putPayment 5 = .ok (.aload_n 0, 1) := by decide +kernel
theorem dX9_putPayment_6 : decode cX9_putPayment 6 = .ok (.getfield 13, 3) := by decide +kernel
theorem dX9_putPayment_9 : decode cX9_putPayment 9 = .ok (.iconst 4, 1) := by decide +kernel
theorem dX9_putPayment_10 : decode cX9_putPayment 10 = .ok (.iload_n 2, 1) := by decide +kernel
theorem dX9_putPayment_11 : decode cX9_putPayment 11 = .ok (.imul, 1) := by decide +kernel
theorem dX9_putPayment_12 : decode cX9_putPayment 12 = .ok (.iconst 1, 1) := by decide +kernel
theorem dX9_putPayment_13 : decode cX9_putPayment 13 = .ok (.iadd, 1) := by decide +kernel
theorem dX9_putPayment_14 : decode cX9_putPayment 14 = .ok (.iaload, 1) := by decide +kernel
theorem dX9_putPayment_15 : decode cX9_putPayment 15 = .ok (.i2l, 1) := by decide +kernel
theorem dX9_putPayment_16 : decode cX9_putPayment 16 = .ok (.lmul, 1) := by decide +kernel
theorem dX9_putPayment_17 : decode cX9_putPayment 17 = .ok (.aload_n 0, 1) := by decide +kernel
theorem dX9_putPayment_18 : decode cX9_putPayment 18 = .ok (.getfield 13, 3) := by decide +kernel
theorem dX9_putPayment_21 : decode cX9_putPayment 21 = .ok (.iconst 4, 1) := by decide +kernel
theorem dX9_putPayment_22 : decode cX9_putPayment 22 = .ok (.iload_n 2, 1) := by decide +kernel
theorem dX9_putPayment_23 : decode cX9_putPayment 23 = .ok (.imul, 1) := by decide +kernel
theorem dX9_putPayment_24 : decode cX9_putPayment 24 = .ok (.iconst 2, 1) := by decide +kernel
theorem dX9_putPayment_25 : decode cX9_putPayment 25 = .ok (.iadd, 1) := by decide +kernel
theorem dX9_putPayment_26 : decode cX9_putPayment 26 = .ok (.iaload, 1) := by decide +kernel
theorem dX9_putPayment_27 : decode cX9_putPayment 27 = .ok (.aload_n 0, 1) := by decide +kernel
theorem dX9_putPayment_28 : decode cX9_putPayment 28 = .ok (.getfield 13, 3) := by decide +kernel
theorem dX9_putPayment_31 : decode cX9_putPayment 31 = .ok (.iconst 4, 1) := by decide +kernel
theorem dX9_putPayment_32 : decode cX9_putPayment 32 = .ok (.iload_n 2, 1) := by decide +kernel
theorem dX9_putPayment_33 : decode cX9_putPayment 33 = .ok (.imul, 1) := by decide +kernel
theorem dX9_putPayment_34 : decode cX9_putPayment 34 = .ok (.iconst 3, 1) := by decide +kernel
theorem dX9_putPayment_35 : decode cX9_putPayment 35 = .ok (.iadd, 1) := by decide +kernel
theorem dX9_putPayment_36 : decode cX9_putPayment 36 = .ok (.iaload, 1) := by decide +kernel
theorem dX9_putPayment_37 : decode cX9_putPayment 37 = .ok (.iload_n 3, 1) := by decide +kernel
theorem dX9_putPayment_38 : decode cX9_putPayment 38 = .ok (.invokevirtual 168, 3) := by decide +kernel
theorem dX9_putPayment_41 : decode cX9_putPayment 41 = .ok (.return_, 1) := by decide +kernel
theorem dX9_goDay_0 : decode cX9_goDay 0 = .ok (.aload_n 0, 1) := by decide +kernel
theorem dX9_goDay_1 : decode cX9_goDay 1 = .ok (.iload_n 2, 1) := by decide +kernel
theorem dX9_goDay_2 : decode cX9_goDay 2 = .ok (.invokevirtual 172, 3) := by decide +kernel
theorem dX9_goDay_5 : decode cX9_goDay 5 = .ok (.iconst 0, 1) := by decide +kernel
theorem dX9_goDay_6 : decode cX9_goDay 6 = .ok (.istore_n 3, 1) := by decide +kernel
theorem dX9_goDay_7 : decode cX9_goDay 7 = .ok (.iload_n 3, 1) := by decide +kernel
theorem dX9_goDay_8 : decode cX9_goDay 8 = .ok (.aload_n 0, 1) := by decide +kernel
theorem dX9_goDay_9 : decode cX9_goDay 9 = .ok (.getfield 91, 3) := by decide +kernel
theorem dX9_goDay_12 : decode cX9_goDay 12 = .ok (.if_icmp .ge 28, 3) := by decide +kernel
theorem dX9_goDay_15 : decode cX9_goDay 15 = .ok (.aload_n 0, 1) := by decide +kernel
theorem dX9_goDay_16 : decode cX9_goDay 16 = .ok (.getfield 13, 3) := by decide +kernel
theorem dX9_goDay_19 : decode cX9_goDay 19 = .ok (.iconst 4, 1) := by decide +kernel
theorem dX9_goDay_20 : decode cX9_goDay 20 = .ok (.iload_n 3, 1) := by decide +kernel
theorem dX9_goDay_21 : decode cX9_goDay 21 = .ok (.imul, 1) := by decide +kernel
theorem dX9_goDay_22 : decode cX9_goDay 22 = .ok (.iaload, 1) := by decide +kernel
theorem dX9_goDay_23 : decode cX9_goDay 23 = .ok (.iload_n 2, 1) := by decide +kernel
theorem dX9_goDay_24 : decode cX9_goDay 24 = .ok (.if_icmp .ne 10, 3) := by decide +kernel
theorem dX9_goDay_27 : decode cX9_goDay 27 = .ok (.aload_n 0, 1) := by decide +kernel
theorem dX9_goDay_28 : decode cX9_goDay 28 = .ok (.iload_n 1, 1) := by decide +kernel
theorem dX9_goDay_29 : decode cX9_goDay 29 = .ok (.iload_n 3, 1) := by decide +kernel
theorem dX9_goDay_30 : decode cX9_goDay 30 = .ok (.iload_n 2, 1) := by decide +kernel
theorem dX9_goDay_31 : decode cX9_goDay 31 = .ok (.invokevirtual 176, 3) := by decide +kernel
theorem dX9_goDay_34 : decode cX9_goDay 34 = .ok (.iinc 3 1, 3) := by decide +kernel
theorem dX9_goDay_37 : decode cX9_goDay 37 = .ok (.goto (-30), 3) := by decide +kernel
theorem dX9_goDay_40 : decode cX9_goDay 40 = .ok (.return_, 1) := by decide +kernel
theorem dX9_goTo_0 : decode cX9_goTo 0 = .ok (.aload_n 0, 1) := by decide +kernel
theorem dX9_goTo_1 : decode cX9_goTo 1 = .ok (.invokevirtual 180, 3) := by decide +kernel
theorem dX9_goTo_4 : decode cX9_goTo 4 = .ok (.iconst 0, 1) := by decide +kernel
theorem dX9_goTo_5 : decode cX9_goTo 5 = .ok (.istore_n 3, 1) := by decide +kernel
theorem dX9_goTo_6 : decode cX9_goTo 6 = .ok (.iload_n 3, 1) := by decide +kernel
theorem dX9_goTo_7 : decode cX9_goTo 7 = .ok (.iload_n 2, 1) := by decide +kernel
theorem dX9_goTo_8 : decode cX9_goTo 8 = .ok (.if_icmp .gt 15, 3) := by decide +kernel
theorem dX9_goTo_11 : decode cX9_goTo 11 = .ok (.aload_n 0, 1) := by decide +kernel
theorem dX9_goTo_12 : decode cX9_goTo 12 = .ok (.iload_n 1, 1) := by decide +kernel
theorem dX9_goTo_13 : decode cX9_goTo 13 = .ok (.iload_n 3, 1) := by decide +kernel
theorem dX9_goTo_14 : decode cX9_goTo 14 = .ok (.invokevirtual 183, 3) := by decide +kernel
theorem dX9_goTo_17 : decode cX9_goTo 17 = .ok (.iinc 3 1, 3) := by decide +kernel
theorem dX9_goTo_20 : decode cX9_goTo 20 = .ok (.goto (-14), 3) := by decide +kernel
theorem dX9_goTo_23 : decode cX9_goTo 23 = .ok (.return_, 1) := by decide +kernel
theorem dX9_owedNow_0 : decode cX9_owedNow 0 = .ok (.lconst 0, 1) := by decide +kernel
theorem dX9_owedNow_1 : decode cX9_owedNow 1 = .ok (.lstore_n 1, 1) := by decide +kernel
theorem dX9_owedNow_2 : decode cX9_owedNow 2 = .ok (.iconst 0, 1) := by decide +kernel
theorem dX9_owedNow_3 : decode cX9_owedNow 3 = .ok (.istore_n 3, 1) := by decide +kernel
theorem dX9_owedNow_4 : decode cX9_owedNow 4 = .ok (.iload_n 3, 1) := by decide +kernel
theorem dX9_owedNow_5 : decode cX9_owedNow 5 = .ok (.aload_n 0, 1) := by decide +kernel
theorem dX9_owedNow_6 : decode cX9_owedNow 6 = .ok (.getfield 87, 3) := by decide +kernel
theorem dX9_owedNow_9 : decode cX9_owedNow 9 = .ok (.if_icmp .ge 17, 3) := by decide +kernel
theorem dX9_owedNow_12 : decode cX9_owedNow 12 = .ok (.lload_n 1, 1) := by decide +kernel
theorem dX9_owedNow_13 : decode cX9_owedNow 13 = .ok (.aload_n 0, 1) := by decide +kernel
theorem dX9_owedNow_14 : decode cX9_owedNow 14 = .ok (.iload_n 3, 1) := by decide +kernel
theorem dX9_owedNow_15 : decode cX9_owedNow 15 = .ok (.invokevirtual 137, 3) := by decide +kernel
theorem dX9_owedNow_18 : decode cX9_owedNow 18 = .ok (.ladd, 1) := by decide +kernel
theorem dX9_owedNow_19 : decode cX9_owedNow 19 = .ok (.lstore_n 1, 1) := by decide +kernel
theorem dX9_owedNow_20 : decode cX9_owedNow 20 = .ok (.iinc 3 1, 3) := by decide +kernel
theorem dX9_owedNow_23 : decode cX9_owedNow 23 = .ok (.goto (-19), 3) := by decide +kernel
theorem dX9_owedNow_26 : decode cX9_owedNow 26 = .ok (.lload_n 1, 1) := by decide +kernel
theorem dX9_owedNow_27 : decode cX9_owedNow 27 = .ok (.lreturn, 1) := by decide +kernel
theorem dX9_owedOn_0 : decode cX9_owedOn 0 = .ok (.aload_n 0, 1) := by decide +kernel
theorem dX9_owedOn_1 : decode cX9_owedOn 1 = .ok (.iload_n 1, 1) := by decide +kernel
theorem dX9_owedOn_2 : decode cX9_owedOn 2 = .ok (.iload_n 2, 1) := by decide +kernel
theorem dX9_owedOn_3 : decode cX9_owedOn 3 = .ok (.invokevirtual 186, 3) := by decide +kernel
theorem dX9_owedOn_6 : decode cX9_owedOn 6 = .ok (.aload_n 0, 1) := by decide +kernel
theorem dX9_owedOn_7 : decode cX9_owedOn 7 = .ok (.invokevirtual 189, 3) := by decide +kernel
theorem dX9_owedOn_10 : decode cX9_owedOn 10 = .ok (.lreturn, 1) := by decide +kernel
theorem dX9_left_0 : decode cX9_left 0 = .ok (.iload_n 1, 1) := by decide +kernel
theorem dX9_left_1 : decode cX9_left 1 = .ok (.invokestatic 129, 3) := by decide +kernel
theorem dX9_left_4 : decode cX9_left 4 = .ok (.ifCond .eq 31, 3) := by decide +kernel
theorem dX9_left_7 : decode cX9_left 7 = .ok (.aload_n 0, 1) := by decide +kernel
theorem dX9_left_8 : decode cX9_left 8 = .ok (.iload_n 2, 1) := by decide +kernel
theorem dX9_left_9 : decode cX9_left 9 = .ok (.invokevirtual 102, 3) := by decide +kernel
theorem dX9_left_12 : decode cX9_left 12 = .ok (.ifCond .eq 23, 3) := by decide +kernel
theorem dX9_left_15 : decode cX9_left 15 = .ok (.iload_n 3, 1) := by decide +kernel
theorem dX9_left_16 : decode cX9_left 16 = .ok (.invokestatic 96, 3) := by decide +kernel
theorem dX9_left_19 : decode cX9_left 19 = .ok (.ifCond .eq 16, 3) := by decide +kernel
theorem dX9_left_22 : decode cX9_left 22 = .ok (.iload 4, 2) := by decide +kernel
theorem dX9_left_24 : decode cX9_left 24 = .ok (.i2l, 1) := by decide +kernel
theorem dX9_left_25 : decode cX9_left 25 = .ok (.lconst 0, 1) := by decide +kernel
theorem dX9_left_26 : decode cX9_left 26 = .ok (.ldc2_w 193, 3) := by decide +kernel
theorem dX9_left_29 : decode cX9_left 29 = .ok (.invokestatic 83, 3) := by decide +kernel
theorem dX9_left_32 : decode cX9_left 32 = .ok (.ifCond .ne 7, 3) := by decide +kernel
theorem dX9_left_35 : decode cX9_left 35 = .ok (.ldc2_w 107, 3) := by decide +kernel
theorem dX9_left_38 : decode cX9_left 38 = .ok (.lreturn, 1) := by decide +kernel
theorem dX9_left_39 : decode cX9_left 39 = .ok (.aload_n 0, 1) := by decide +kernel
theorem dX9_left_40 : decode cX9_left 40 = .ok (.iload_n 1, 1) := by decide +kernel
theorem dX9_left_41 : decode cX9_left 41 = .ok (.iload_n 3, 1) := by decide +kernel
theorem dX9_left_42 : decode cX9_left 42 = .ok (.invokevirtual 186, 3) := by decide +kernel
theorem dX9_left_45 : decode cX9_left 45 = .ok (.iload 4, 2) := by decide +kernel
theorem dX9_left_47 : decode cX9_left 47 = .ok (.ifCond .ne 12, 3) := by decide +kernel
theorem dX9_left_50 : decode cX9_left 50 = .ok (.aload_n 0, 1) := by decide +kernel
theorem dX9_left_51 : decode cX9_left 51 = .ok (.getfield 28, 3) := by decide +kernel
theorem dX9_left_54 : decode cX9_left 54 = .ok (.iload_n 2, 1) := by decide +kernel
theorem dX9_left_55 : decode cX9_left 55 = .ok (.laload, 1) := by decide +kernel
theorem dX9_left_56 : decode cX9_left 56 = .ok (.goto 23, 3) := by decide +kernel
theorem dX9_left_59 : decode cX9_left 59 = .ok (.iload 4, 2) := by decide +kernel
theorem dX9_left_61 : decode cX9_left 61 = .ok (.iconst 1, 1) := by decide +kernel
theorem dX9_left_62 : decode cX9_left 62 = .ok (.if_icmp .ne 12, 3) := by decide +kernel
theorem dX9_left_65 : decode cX9_left 65 = .ok (.aload_n 0, 1) := by decide +kernel
theorem dX9_left_66 : decode cX9_left 66 = .ok (.getfield 32, 3) := by decide +kernel
theorem dX9_left_69 : decode cX9_left 69 = .ok (.iload_n 2, 1) := by decide +kernel
theorem dX9_left_70 : decode cX9_left 70 = .ok (.laload, 1) := by decide +kernel
theorem dX9_left_71 : decode cX9_left 71 = .ok (.goto 8, 3) := by decide +kernel
theorem dX9_left_74 : decode cX9_left 74 = .ok (.aload_n 0, 1) := by decide +kernel
theorem dX9_left_75 : decode cX9_left 75 = .ok (.iload_n 2, 1) := by decide +kernel
theorem dX9_left_76 : decode cX9_left 76 = .ok (.invokevirtual 137, 3) := by decide +kernel
theorem dX9_left_79 : decode cX9_left 79 = .ok (.lreturn, 1) := by decide +kernel
theorem dX9_owed_0 : decode cX9_owed 0 = .ok (.iload_n 1, 1) := by decide +kernel
theorem dX9_owed_1 : decode cX9_owed 1 = .ok (.invokestatic 129, 3) := by decide +kernel
theorem dX9_owed_4 : decode cX9_owed 4 = .ok (.ifCond .eq 19, 3) := by decide +kernel
theorem dX9_owed_7 : decode cX9_owed 7 = .ok (.iload_n 2, 1) := by decide +kernel
theorem dX9_owed_8 : decode cX9_owed 8 = .ok (.invokestatic 96, 3) := by decide +kernel
theorem dX9_owed_11 : decode cX9_owed 11 = .ok (.ifCond .eq 12, 3) := by decide +kernel
theorem dX9_owed_14 : decode cX9_owed 14 = .ok (.aload_n 0, 1) := by decide +kernel
theorem dX9_owed_15 : decode cX9_owed 15 = .ok (.iload_n 1, 1) := by decide +kernel
theorem dX9_owed_16 : decode cX9_owed 16 = .ok (.iload_n 2, 1) := by decide +kernel
theorem dX9_owed_17 : decode cX9_owed 17 = .ok (.invokevirtual 195, 3) := by decide +kernel
theorem dX9_owed_20 : decode cX9_owed 20 = .ok (.goto 6, 3) := by decide +kernel
theorem dX9_owed_23 : decode cX9_owed 23 = .ok (.ldc2_w 107, 3) := by decide +kernel
theorem dX9_owed_26 : decode cX9_owed 26 = .ok (.lreturn, 1) := by decide +kernel
theorem dX9_put_0 : decode cX9_put 0 = .ok (.iload_n 1, 1) := by decide +kernel
theorem dX9_put_1 : decode cX9_put 1 = .ok (.invokestatic 129, 3) := by decide +kernel
theorem dX9_put_4 : decode cX9_put 4 = .ok (.ifCond .eq 40, 3) := by decide +kernel
theorem dX9_put_7 : decode cX9_put 7 = .ok (.aload_n 0, 1) := by decide +kernel
theorem dX9_put_8 : decode cX9_put 8 = .ok (.iload_n 2, 1) := by decide +kernel
theorem dX9_put_9 : decode cX9_put 9 = .ok (.invokevirtual 113, 3) := by decide +kernel
theorem dX9_put_12 : decode cX9_put 12 = .ok (.ifCond .eq 32, 3) := by decide +kernel
theorem dX9_put_15 : decode cX9_put 15 = .ok (.iload_n 3, 1) := by decide +kernel
theorem dX9_put_16 : decode cX9_put 16 = .ok (.i2l, 1) := by decide +kernel
theorem dX9_put_17 : decode cX9_put 17 = .ok (.ldc2_w 107, 3) := by decide +kernel
theorem dX9_put_20 : decode cX9_put 20 = .ok (.aload_n 0, 1) := by decide +kernel
theorem dX9_put_21 : decode cX9_put 21 = .ok (.getfield 87, 3) := by decide +kernel
theorem dX9_put_24 : decode cX9_put 24 = .ok (.iconst 1, 1) := by decide +kernel
theorem dX9_put_25 : decode cX9_put 25 = .ok (.isub, 1) := by decide +kernel
theorem dX9_put_26 : decode cX9_put 26 = .ok (.i2l, 1) := by decide +kernel
theorem dX9_put_27 : decode cX9_put 27 = .ok (.invokestatic 83, 3) := by decide +kernel
theorem dX9_put_30 : decode cX9_put 30 = .ok (.ifCond .eq 14, 3) := by decide +kernel
theorem dX9_put_33 : decode cX9_put 33 = .ok (.iload 4, 2) := by decide +kernel
theorem dX9_put_35 : decode cX9_put 35 = .ok (.i2l, 1) := by decide +kernel
theorem dX9_put_36 : decode cX9_put 36 = .ok (.lconst 0, 1) := by decide +kernel
theorem dX9_put_37 : decode cX9_put 37 = .ok (.lconst 1, 1) := by decide +kernel
theorem dX9_put_38 : decode cX9_put 38 = .ok (.invokestatic 83, 3) := by decide +kernel
theorem dX9_put_41 : decode cX9_put 41 = .ok (.ifCond .ne 7, 3) := by decide +kernel
theorem dX9_put_44 : decode cX9_put 44 = .ok (.ldc2_w 107, 3) := by decide +kernel
theorem dX9_put_47 : decode cX9_put 47 = .ok (.lreturn, 1) := by decide +kernel
theorem dX9_put_48 : decode cX9_put 48 = .ok (.aload_n 0, 1) := by decide +kernel
theorem dX9_put_49 : decode cX9_put 49 = .ok (.getfield 13, 3) := by decide +kernel
theorem dX9_put_52 : decode cX9_put 52 = .ok (.iconst 4, 1) := by decide +kernel
theorem dX9_put_53 : decode cX9_put 53 = .ok (.iload_n 2, 1) := by decide +kernel
theorem dX9_put_54 : decode cX9_put 54 = .ok (.imul, 1) := by decide +kernel
theorem dX9_put_55 : decode cX9_put 55 = .ok (.iaload, 1) := by decide +kernel
theorem dX9_put_56 : decode cX9_put 56 = .ok (.istore 5, 2) := by decide +kernel
theorem dX9_put_58 : decode cX9_put 58 = .ok (.aload_n 0, 1) := by decide +kernel
theorem dX9_put_59 : decode cX9_put 59 = .ok (.invokevirtual 180, 3) := by decide +kernel
theorem dX9_put_62 : decode cX9_put 62 = .ok (.iconst 0, 1) := by decide +kernel
theorem dX9_put_63 : decode cX9_put 63 = .ok (.istore 6, 2) := by decide +kernel
theorem dX9_put_65 : decode cX9_put 65 = .ok (.iload 6, 2) := by decide +kernel
theorem dX9_put_67 : decode cX9_put 67 = .ok (.iload 5, 2) := by decide +kernel
theorem dX9_put_69 : decode cX9_put 69 = .ok (.if_icmp .ge 16, 3) := by decide +kernel
theorem dX9_put_72 : decode cX9_put 72 = .ok (.aload_n 0, 1) := by decide +kernel
theorem dX9_put_73 : decode cX9_put 73 = .ok (.iload_n 1, 1) := by decide +kernel
theorem dX9_put_74 : decode cX9_put 74 = .ok (.iload 6, 2) := by decide +kernel
theorem dX9_put_76 : decode cX9_put 76 = .ok (.invokevirtual 183, 3) := by decide +kernel
theorem dX9_put_79 : decode cX9_put 79 = .ok (.iinc 6 1, 3) := by decide +kernel
theorem dX9_put_82 : decode cX9_put 82 = .ok (.goto (-17), 3) := by decide +kernel
theorem dX9_put_85 : decode cX9_put 85 = .ok (.aload_n 0, 1) := by decide +kernel
theorem dX9_put_86 : decode cX9_put 86 = .ok (.iload 5, 2) := by decide +kernel
theorem dX9_put_88 : decode cX9_put 88 = .ok (.invokevirtual 172, 3) := by decide +kernel
theorem dX9_put_91 : decode cX9_put 91 = .ok (.iconst 0, 1) := by decide +kernel
theorem dX9_put_92 : decode cX9_put 92 = .ok (.istore 6, 2) := by decide +kernel
theorem dX9_put_94 : decode cX9_put 94 = .ok (.iload 6, 2) := by decide +kernel
theorem dX9_put_96 : decode cX9_put 96 = .ok (.iload_n 2, 1) := by decide +kernel
theorem dX9_put_97 : decode cX9_put 97 = .ok (.if_icmp .gt 32, 3) := by decide +kernel
theorem dX9_put_100 : decode cX9_put 100 = .ok (.aload_n 0, 1) := by decide +kernel
theorem dX9_put_101 : decode cX9_put 101 = .ok (.getfield 13, 3) := by decide +kernel
theorem dX9_put_104 : decode cX9_put 104 = .ok (.iconst 4, 1) := by decide +kernel
theorem dX9_put_105 : decode cX9_put 105 = .ok (.iload 6, 2) := by decide +kernel
theorem dX9_put_107 : decode cX9_put 107 = .ok (.imul, 1) := by decide +kernel
theorem dX9_put_108 : decode cX9_put 108 = .ok (.iaload, 1) := by decide +kernel
theorem dX9_put_109 : decode cX9_put 109 = .ok (.iload 5, 2) := by decide +kernel
theorem dX9_put_111 : decode cX9_put 111 = .ok (.if_icmp .ne 12, 3) := by decide +kernel
theorem dX9_put_114 : decode cX9_put 114 = .ok (.aload_n 0, 1) := by decide +kernel
theorem dX9_put_115 : decode cX9_put 115 = .ok (.iload_n 1, 1) := by decide +kernel
theorem dX9_put_116 : decode cX9_put 116 = .ok (.iload 6, 2) := by decide +kernel
theorem dX9_put_118 : decode cX9_put 118 = .ok (.iload 5, 2) := by decide +kernel
theorem dX9_put_120 : decode cX9_put 120 = .ok (.invokevirtual 176, 3) := by decide +kernel
theorem dX9_put_123 : decode cX9_put 123 = .ok (.iinc 6 1, 3) := by decide +kernel
theorem dX9_put_126 : decode cX9_put 126 = .ok (.goto (-32), 3) := by decide +kernel
theorem dX9_put_129 : decode cX9_put 129 = .ok (.iload_n 3, 1) := by decide +kernel
theorem dX9_put_130 : decode cX9_put 130 = .ok (.ifCond .ge 10, 3) := by decide +kernel
theorem dX9_put_133 : decode cX9_put 133 = .ok (.aload_n 0, 1) := by decide +kernel
theorem dX9_put_134 : decode cX9_put 134 = .ok (.getfield 149, 3) := by decide +kernel
theorem dX9_put_137 : decode cX9_put 137 = .ok (.goto 23, 3) := by decide +kernel
theorem dX9_put_140 : decode cX9_put 140 = .ok (.iload 4, 2) := by decide +kernel
theorem dX9_put_142 : decode cX9_put 142 = .ok (.ifCond .ne 12, 3) := by decide +kernel
theorem dX9_put_145 : decode cX9_put 145 = .ok (.aload_n 0, 1) := by decide +kernel
theorem dX9_put_146 : decode cX9_put 146 = .ok (.getfield 41, 3) := by decide +kernel
theorem dX9_put_149 : decode cX9_put 149 = .ok (.iload_n 3, 1) := by decide +kernel
theorem dX9_put_150 : decode cX9_put 150 = .ok (.laload, 1) := by decide +kernel
theorem dX9_put_151 : decode cX9_put 151 = .ok (.goto 9, 3) := by decide +kernel
theorem dX9_put_154 : decode cX9_put 154 = .ok (.aload_n 0, 1) := by decide +kernel
theorem dX9_put_155 : decode cX9_put 155 = .ok (.getfield 44, 3) := by decide +kernel
theorem dX9_put_158 : decode cX9_put 158 = .ok (.iload_n 3, 1) := by decide +kernel
theorem dX9_put_159 : decode cX9_put 159 = .ok (.laload, 1) := by decide +kernel
theorem dX9_put_160 : decode cX9_put 160 = .ok (.lreturn, 1) := by decide +kernel
theorem dX9_paid_0 : decode cX9_paid 0 = .ok (.iload_n 1, 1) := by decide +kernel
theorem dX9_paid_1 : decode cX9_paid 1 = .ok (.invokestatic 129, 3) := by decide +kernel
theorem dX9_paid_4 : decode cX9_paid 4 = .ok (.ifCond .eq 11, 3) := by decide +kernel
theorem dX9_paid_7 : decode cX9_paid 7 = .ok (.aload_n 0, 1) := by decide +kernel
theorem dX9_paid_8 : decode cX9_paid 8 = .ok (.iload_n 2, 1) := by decide +kernel
theorem dX9_paid_9 : decode cX9_paid 9 = .ok (.invokevirtual 102, 3) := by decide +kernel
theorem dX9_paid_12 : decode cX9_paid 12 = .ok (.ifCond .ne 5, 3) := by decide +kernel
theorem dX9_paid_15 : decode cX9_paid 15 = .ok (.iconst (-1), 1) := by decide +kernel
theorem dX9_paid_16 : decode cX9_paid 16 = .ok (.ireturn, 1) := by decide +kernel
theorem dX9_paid_17 : decode cX9_paid 17 = .ok (.aload_n 0, 1) := by decide +kernel
theorem dX9_paid_18 : decode cX9_paid 18 = .ok (.invokevirtual 180, 3) := by decide +kernel
theorem dX9_paid_21 : decode cX9_paid 21 = .ok (.iconst 0, 1) := by decide +kernel
theorem dX9_paid_22 : decode cX9_paid 22 = .ok (.istore_n 3, 1) := by decide +kernel
theorem dX9_paid_23 : decode cX9_paid 23 = .ok (.iload_n 3, 1) := by decide +kernel
theorem dX9_paid_24 : decode cX9_paid 24 = .ok (.sipush 299, 3) := by decide +kernel
theorem dX9_paid_27 : decode cX9_paid 27 = .ok (.if_icmp .gt 42, 3) := by decide +kernel
theorem dX9_paid_30 : decode cX9_paid 30 = .ok (.aload_n 0, 1) := by decide +kernel
theorem dX9_paid_31 : decode cX9_paid 31 = .ok (.iload_n 1, 1) := by decide +kernel
theorem dX9_paid_32 : decode cX9_paid 32 = .ok (.iload_n 3, 1) := by decide +kernel
theorem dX9_paid_33 : decode cX9_paid 33 = .ok (.invokevirtual 183, 3) := by decide +kernel
theorem dX9_paid_36 : decode cX9_paid 36 = .ok (.iload_n 3, 1) := by decide +kernel
theorem dX9_paid_37 : decode cX9_paid 37 = .ok (.aload_n 0, 1) := by decide +kernel
theorem dX9_paid_38 : decode cX9_paid 38 = .ok (.getfield 7, 3) := by decide +kernel
theorem dX9_paid_41 : decode cX9_paid 41 = .ok (.bipush 8, 2) := by decide +kernel
theorem dX9_paid_43 : decode cX9_paid 43 = .ok (.iload_n 2, 1) := by decide +kernel
theorem dX9_paid_44 : decode cX9_paid 44 = .ok (.imul, 1) := by decide +kernel
theorem dX9_paid_45 : decode cX9_paid 45 = .ok (.iconst 1, 1) := by decide +kernel
theorem dX9_paid_46 : decode cX9_paid 46 = .ok (.iadd, 1) := by decide +kernel
theorem dX9_paid_47 : decode cX9_paid 47 = .ok (.iaload, 1) := by decide +kernel
theorem dX9_paid_48 : decode cX9_paid 48 = .ok (.if_icmp .lt 15, 3) := by decide +kernel
theorem dX9_paid_51 : decode cX9_paid 51 = .ok (.aload_n 0, 1) := by decide +kernel
theorem dX9_paid_52 : decode cX9_paid 52 = .ok (.iload_n 2, 1) := by decide +kernel
theorem dX9_paid_53 : decode cX9_paid 53 = .ok (.invokevirtual 137, 3) := by decide +kernel
theorem dX9_paid_56 : decode cX9_paid 56 = .ok (.lconst 0, 1) := by decide +kernel
theorem dX9_paid_57 : decode cX9_paid 57 = .ok (.lcmp, 1) := by decide +kernel
theorem dX9_paid_58 : decode cX9_paid 58 = .ok (.ifCond .ne 5, 3) := by decide +kernel
theorem dX9_paid_61 : decode cX9_paid 61 = .ok (.iload_n 3, 1) := by decide +kernel
theorem dX9_paid_62 : decode cX9_paid 62 = .ok (.ireturn, 1) := by decide +kernel
theorem dX9_paid_63 : decode cX9_paid 63 = .ok (.iinc 3 1, 3) := by decide +kernel
theorem dX9_paid_66 : decode cX9_paid 66 = .ok (.goto (-43), 3) := by decide +kernel
theorem dX9_paid_69 : decode cX9_paid 69 = .ok (.bipush (-4), 2) := by decide +kernel
theorem dX9_paid_71 : decode cX9_paid 71 = .ok (.ireturn, 1) := by decide +kernel
theorem dX9_dead_0 : decode cX9_dead 0 = .ok (.iload_n 1, 1) := by decide +kernel
theorem dX9_dead_1 : decode cX9_dead 1 = .ok (.invokestatic 129, 3) := by decide +kernel
theorem dX9_dead_4 : decode cX9_dead 4 = .ok (.ifCond .eq 18, 3) := by decide +kernel
theorem dX9_dead_7 : decode cX9_dead 7 = .ok (.aload_n 0, 1) := by decide +kernel
theorem dX9_dead_8 : decode cX9_dead 8 = .ok (.iload_n 2, 1) := by decide +kernel
theorem dX9_dead_9 : decode cX9_dead 9 = .ok (.invokevirtual 102, 3) := by decide +kernel
theorem dX9_dead_12 : decode cX9_dead 12 = .ok (.ifCond .eq 10, 3) := by decide +kernel
theorem dX9_dead_15 : decode cX9_dead 15 = .ok (.iload_n 3, 1) := by decide +kernel
theorem dX9_dead_16 : decode cX9_dead 16 = .ok (.invokestatic 96, 3) := by decide +kernel
theorem dX9_dead_19 : decode cX9_dead 19 = .ok (.ifCond .ne 5, 3) := by decide +kernel
theorem dX9_dead_22 : decode cX9_dead 22 = .ok (.iconst (-1), 1) := by decide +kernel
theorem dX9_dead_23 : decode cX9_dead 23 = .ok (.ireturn, 1) := by decide +kernel
theorem dX9_dead_24 : decode cX9_dead 24 = .ok (.aload_n 0, 1) := by decide +kernel
theorem dX9_dead_25 : decode cX9_dead 25 = .ok (.invokevirtual 180, 3) := by decide +kernel
theorem dX9_dead_28 : decode cX9_dead 28 = .ok (.iconst 0, 1) := by decide +kernel
theorem dX9_dead_29 : decode cX9_dead 29 = .ok (.istore 4, 2) := by decide +kernel
theorem dX9_dead_31 : decode cX9_dead 31 = .ok (.iload 4, 2) := by decide +kernel
theorem dX9_dead_33 : decode cX9_dead 33 = .ok (.iload_n 3, 1) := by decide +kernel
theorem dX9_dead_34 : decode cX9_dead 34 = .ok (.if_icmp .ge 16, 3) := by decide +kernel
theorem dX9_dead_37 : decode cX9_dead 37 = .ok (.aload_n 0, 1) := by decide +kernel
theorem dX9_dead_38 : decode cX9_dead 38 = .ok (.iload_n 1, 1) := by decide +kernel
theorem dX9_dead_39 : decode cX9_dead 39 = .ok (.iload 4, 2) := by decide +kernel
theorem dX9_dead_41 : decode cX9_dead 41 = .ok (.invokevirtual 183, 3) := by decide +kernel
theorem dX9_dead_44 : decode cX9_dead 44 = .ok (.iinc 4 1, 3) := by decide +kernel
theorem dX9_dead_47 : decode cX9_dead 47 = .ok (.goto (-16), 3) := by decide +kernel
theorem dX9_dead_50 : decode cX9_dead 50 = .ok (.aload_n 0, 1) := by decide +kernel
theorem dX9_dead_51 : decode cX9_dead 51 = .ok (.iload_n 3, 1) := by decide +kernel
theorem dX9_dead_52 : decode cX9_dead 52 = .ok (.invokevirtual 172, 3) := by decide +kernel
theorem dX9_dead_55 : decode cX9_dead 55 = .ok (.aload_n 0, 1) := by decide +kernel
theorem dX9_dead_56 : decode cX9_dead 56 = .ok (.iload_n 2, 1) := by decide +kernel
theorem dX9_dead_57 : decode cX9_dead 57 = .ok (.iload_n 3, 1) := by decide +kernel
theorem dX9_dead_58 : decode cX9_dead 58 = .ok (.invokevirtual 157, 3) := by decide +kernel
theorem dX9_dead_61 : decode cX9_dead 61 = .ok (.ifCond .eq 7, 3) := by decide +kernel
theorem dX9_dead_64 : decode cX9_dead 64 = .ok (.iconst 1, 1) := by decide +kernel
theorem dX9_dead_65 : decode cX9_dead 65 = .ok (.goto 4, 3) := by decide +kernel
theorem dX9_dead_68 : decode cX9_dead 68 = .ok (.iconst 0, 1) := by decide +kernel
theorem dX9_dead_69 : decode cX9_dead 69 = .ok (.ireturn, 1) := by decide +kernel
theorem dX9_wakes_0 : decode cX9_wakes 0 = .ok (.iload_n 1, 1) := by decide +kernel
theorem dX9_wakes_1 : decode cX9_wakes 1 = .ok (.invokestatic 129, 3) := by decide +kernel
theorem dX9_wakes_4 : decode cX9_wakes 4 = .ok (.ifCond .eq 11, 3) := by decide +kernel
theorem dX9_wakes_7 : decode cX9_wakes 7 = .ok (.aload_n 0, 1) := by decide +kernel
theorem dX9_wakes_8 : decode cX9_wakes 8 = .ok (.iload_n 2, 1) := by decide +kernel
theorem dX9_wakes_9 : decode cX9_wakes 9 = .ok (.invokevirtual 102, 3) := by decide +kernel
theorem dX9_wakes_12 : decode cX9_wakes 12 = .ok (.ifCond .ne 5, 3) := by decide +kernel
theorem dX9_wakes_15 : decode cX9_wakes 15 = .ok (.iconst (-1), 1) := by decide +kernel
theorem dX9_wakes_16 : decode cX9_wakes 16 = .ok (.ireturn, 1) := by decide +kernel
theorem dX9_wakes_17 : decode cX9_wakes 17 = .ok (.aload_n 0, 1) := by decide +kernel
theorem dX9_wakes_18 : decode cX9_wakes 18 = .ok (.iload_n 1, 1) := by decide +kernel
theorem dX9_wakes_19 : decode cX9_wakes 19 = .ok (.sipush 299, 3) := by decide +kernel
theorem dX9_wakes_22 : decode cX9_wakes 22 = .ok (.invokevirtual 186, 3) := by decide +kernel
theorem dX9_wakes_25 : decode cX9_wakes 25 = .ok (.aload_n 0, 1) := by decide +kernel
theorem dX9_wakes_26 : decode cX9_wakes 26 = .ok (.getfield 38, 3) := by decide +kernel
theorem dX9_wakes_29 : decode cX9_wakes 29 = .ok (.iload_n 2, 1) := by decide +kernel
theorem dX9_wakes_30 : decode cX9_wakes 30 = .ok (.iaload, 1) := by decide +kernel
theorem dX9_wakes_31 : decode cX9_wakes 31 = .ok (.ireturn, 1) := by decide +kernel
theorem dX9_free_0 : decode cX9_free 0 = .ok (.iload_n 1, 1) := by decide +kernel
theorem dX9_free_1 : decode cX9_free 1 = .ok (.invokestatic 129, 3) := by decide +kernel
theorem dX9_free_4 : decode cX9_free 4 = .ok (.ifCond .eq 15, 3) := by decide +kernel
theorem dX9_free_7 : decode cX9_free 7 = .ok (.iload_n 2, 1) := by decide +kernel
theorem dX9_free_8 : decode cX9_free 8 = .ok (.i2l, 1) := by decide +kernel
theorem dX9_free_9 : decode cX9_free 9 = .ok (.lconst 0, 1) := by decide +kernel
theorem dX9_free_10 : decode cX9_free 10 = .ok (.ldc2_w 105, 3) := by decide +kernel
theorem dX9_free_13 : decode cX9_free 13 = .ok (.invokestatic 83, 3) := by decide +kernel
theorem dX9_free_16 : decode cX9_free 16 = .ok (.ifCond .ne 5, 3) := by decide +kernel
theorem dX9_free_19 : decode cX9_free 19 = .ok (.iconst (-1), 1) := by decide +kernel
theorem dX9_free_20 : decode cX9_free 20 = .ok (.ireturn, 1) := by decide +kernel
theorem dX9_free_21 : decode cX9_free 21 = .ok (.iconst 0, 1) := by decide +kernel
theorem dX9_free_22 : decode cX9_free 22 = .ok (.istore_n 3, 1) := by decide +kernel
theorem dX9_free_23 : decode cX9_free 23 = .ok (.iconst 0, 1) := by decide +kernel
theorem dX9_free_24 : decode cX9_free 24 = .ok (.istore 4, 2) := by decide +kernel
theorem dX9_free_26 : decode cX9_free 26 = .ok (.iload 4, 2) := by decide +kernel
theorem dX9_free_28 : decode cX9_free 28 = .ok (.aload_n 0, 1) := by decide +kernel
theorem dX9_free_29 : decode cX9_free 29 = .ok (.getfield 87, 3) := by decide +kernel
theorem dX9_free_32 : decode cX9_free 32 = .ok (.if_icmp .ge 33, 3) := by decide +kernel
theorem dX9_free_35 : decode cX9_free 35 = .ok (.iload_n 3, 1) := by decide +kernel
theorem dX9_free_36 : decode cX9_free 36 = .ok (.aload_n 0, 1) := by decide +kernel
theorem dX9_free_37 : decode cX9_free 37 = .ok (.getfield 7, 3) := by decide +kernel
theorem dX9_free_40 : decode cX9_free 40 = .ok (.bipush 8, 2) := by decide +kernel
theorem dX9_free_42 : decode cX9_free 42 = .ok (.iload 4, 2) := by decide +kernel
theorem dX9_free_44 : decode cX9_free 44 = .ok (.imul, 1) := by decide +kernel
theorem dX9_free_45 : decode cX9_free 45 = .ok (.iconst 5, 1) := by decide +kernel
theorem dX9_free_46 : decode cX9_free 46 = .ok (.iadd, 1) := by decide +kernel
theorem dX9_free_47 : decode cX9_free 47 = .ok (.iaload, 1) := by decide +kernel
theorem dX9_free_48 : decode cX9_free 48 = .ok (.iload_n 2, 1) := by decide +kernel
theorem dX9_free_49 : decode cX9_free 49 = .ok (.if_icmp .ne 7, 3) := by decide +kernel
theorem dX9_free_52 : decode cX9_free 52 = .ok (.iconst 1, 1) := by decide +kernel
theorem dX9_free_53 : decode cX9_free 53 = .ok (.goto 4, 3) := by decide +kernel
theorem dX9_free_56 : decode cX9_free 56 = .ok (.iconst 0, 1) := by decide +kernel
theorem dX9_free_57 : decode cX9_free 57 = .ok (.iadd, 1) := by decide +kernel
theorem dX9_free_58 : decode cX9_free 58 = .ok (.istore_n 3, 1) := by decide +kernel
theorem dX9_free_59 : decode cX9_free 59 = .ok (.iinc 4 1, 3) := by decide +kernel
theorem dX9_free_62 : decode cX9_free 62 = .ok (.goto (-36), 3) := by decide +kernel
theorem dX9_free_65 : decode cX9_free 65 = .ok (.iload_n 3, 1) := by decide +kernel
theorem dX9_free_66 : decode cX9_free 66 = .ok (.ifCond .ne 6, 3) := by decide +kernel
theorem dX9_free_69 : decode cX9_free 69 = .ok (.bipush (-2), 2) := by decide +kernel
theorem dX9_free_71 : decode cX9_free 71 = .ok (.ireturn, 1) := by decide +kernel
theorem dX9_free_72 : decode cX9_free 72 = .ok (.iconst 0, 1) := by decide +kernel
theorem dX9_free_73 : decode cX9_free 73 = .ok (.istore 4, 2) := by decide +kernel
theorem dX9_free_75 : decode cX9_free 75 = .ok (.aload_n 0, 1) := by decide +kernel
theorem dX9_free_76 : decode cX9_free 76 = .ok (.invokevirtual 180, 3) := by decide +kernel
theorem dX9_free_79 : decode cX9_free 79 = .ok (.iconst 0, 1) := by decide +kernel
theorem dX9_free_80 : decode cX9_free 80 = .ok (.istore 5, 2) := by decide +kernel
theorem dX9_free_82 : decode cX9_free 82 = .ok (.iload 5, 2) := by decide +kernel
theorem dX9_free_84 : decode cX9_free 84 = .ok (.sipush 299, 3) := by decide +kernel
theorem dX9_free_87 : decode cX9_free 87 = .ok (.if_icmp .gt 101, 3) := by decide +kernel
theorem dX9_free_90 : decode cX9_free 90 = .ok (.aload_n 0, 1) := by decide +kernel
theorem dX9_free_91 : decode cX9_free 91 = .ok (.iload_n 1, 1) := by decide +kernel
theorem dX9_free_92 : decode cX9_free 92 = .ok (.iload 5, 2) := by decide +kernel
theorem dX9_free_94 : decode cX9_free 94 = .ok (.invokevirtual 183, 3) := by decide +kernel
theorem dX9_free_97 : decode cX9_free 97 = .ok (.iconst 0, 1) := by decide +kernel
theorem dX9_free_98 : decode cX9_free 98 = .ok (.istore 6, 2) := by decide +kernel
theorem dX9_free_100 : decode cX9_free 100 = .ok (.iload 6, 2) := by decide +kernel
theorem dX9_free_102 : decode cX9_free 102 = .ok (.aload_n 0, 1) := by decide +kernel
theorem dX9_free_103 : decode cX9_free 103 = .ok (.getfield 87, 3) := by decide +kernel
theorem dX9_free_106 : decode cX9_free 106 = .ok (.if_icmp .ge 76, 3) := by decide +kernel
theorem dX9_free_109 : decode cX9_free 109 = .ok (.aload_n 0, 1) := by decide +kernel
theorem dX9_free_110 : decode cX9_free 110 = .ok (.getfield 7, 3) := by decide +kernel
theorem dX9_free_113 : decode cX9_free 113 = .ok (.bipush 8, 2) := by decide +kernel
theorem dX9_free_115 : decode cX9_free 115 = .ok (.iload 6, 2) := by decide +kernel
theorem dX9_free_117 : decode cX9_free 117 = .ok (.imul, 1) := by decide +kernel
theorem dX9_free_118 : decode cX9_free 118 = .ok (.iconst 5, 1) := by decide +kernel
theorem dX9_free_119 : decode cX9_free 119 = .ok (.iadd, 1) := by decide +kernel
theorem dX9_free_120 : decode cX9_free 120 = .ok (.iaload, 1) := by decide +kernel
theorem dX9_free_121 : decode cX9_free 121 = .ok (.iload_n 2, 1) := by decide +kernel
theorem dX9_free_122 : decode cX9_free 122 = .ok (.if_icmp .ne 35, 3) := by decide +kernel
theorem dX9_free_125 : decode cX9_free 125 = .ok (.iload 5, 2) := by decide +kernel
theorem dX9_free_127 : decode cX9_free 127 = .ok (.aload_n 0, 1) := by decide +kernel
theorem dX9_free_128 : decode cX9_free 128 = .ok (.getfield 7, 3) := by decide +kernel
theorem dX9_free_131 : decode cX9_free 131 = .ok (.bipush 8, 2) := by decide +kernel
theorem dX9_free_133 : decode cX9_free 133 = .ok (.iload 6, 2) := by decide +kernel
theorem dX9_free_135 : decode cX9_free 135 = .ok (.imul, 1) := by decide +kernel
theorem dX9_free_136 : decode cX9_free 136 = .ok (.iconst 1, 1) := by decide +kernel
theorem dX9_free_137 : decode cX9_free 137 = .ok (.iadd, 1) := by decide +kernel
theorem dX9_free_138 : decode cX9_free 138 = .ok (.iaload, 1) := by decide +kernel
theorem dX9_free_139 : decode cX9_free 139 = .ok (.if_icmp .lt 14, 3) := by decide +kernel
theorem dX9_free_142 : decode cX9_free 142 = .ok (.aload_n 0, 1) := by decide +kernel
theorem dX9_free_143 : decode cX9_free 143 = .ok (.iload 6, 2) := by decide +kernel
theorem dX9_free_145 : decode cX9_free 145 = .ok (.invokevirtual 137, 3) := by decide +kernel
theorem dX9_free_148 : decode cX9_free 148 = .ok (.lconst 0, 1) := by decide +kernel
theorem dX9_free_149 : decode cX9_free 149 = .ok (.lcmp, 1) := by decide +kernel
theorem dX9_free_150 : decode cX9_free 150 = .ok (.ifCond .le 7, 3) := by decide +kernel
theorem dX9_free_153 : decode cX9_free 153 = .ok (.iconst 1, 1) := by decide +kernel
theorem dX9_free_154 : decode cX9_free 154 = .ok (.goto 4, 3) := by decide +kernel
theorem dX9_free_157 : decode cX9_free 157 = .ok (.iconst 0, 1) := by decide +kernel
theorem dX9_free_158 : decode cX9_free 158 = .ok (.istore 7, 2) := by decide +kernel
theorem dX9_free_160 : decode cX9_free 160 = .ok (.iload 7, 2) := by decide +kernel
theorem dX9_free_162 : decode cX9_free 162 = .ok (.ifCond .eq 10, 3) := by decide +kernel
theorem dX9_free_165 : decode cX9_free 165 = .ok (.iload 5, 2) := by decide +kernel
theorem dX9_free_167 : decode cX9_free 167 = .ok (.iconst 1, 1) := by decide +kernel
theorem dX9_free_168 : decode cX9_free 168 = .ok (.iadd, 1) := by decide +kernel
theorem dX9_free_169 : decode cX9_free 169 = .ok (.goto 5, 3) := by decide +kernel
theorem dX9_free_172 : decode cX9_free 172 = .ok (.iload 4, 2) := by decide +kernel
theorem dX9_free_174 : decode cX9_free 174 = .ok (.istore 4, 2) := by decide +kernel
theorem dX9_free_176 : decode cX9_free 176 = .ok (.iinc 6 1, 3) := by decide +kernel
theorem dX9_free_179 : decode cX9_free 179 = .ok (.goto (-79), 3) := by decide +kernel
theorem dX9_free_182 : decode cX9_free 182 = .ok (.iinc 5 1, 3) := by decide +kernel
theorem dX9_free_185 : decode cX9_free 185 = .ok (.goto (-103), 3) := by decide +kernel
theorem dX9_free_188 : decode cX9_free 188 = .ok (.iload 4, 2) := by decide +kernel
theorem dX9_free_190 : decode cX9_free 190 = .ok (.sipush 299, 3) := by decide +kernel
theorem dX9_free_193 : decode cX9_free 193 = .ok (.if_icmp .le 8, 3) := by decide +kernel
theorem dX9_free_196 : decode cX9_free 196 = .ok (.bipush (-4), 2) := by decide +kernel
theorem dX9_free_198 : decode cX9_free 198 = .ok (.goto 5, 3) := by decide +kernel
theorem dX9_free_201 : decode cX9_free 201 = .ok (.iload 4, 2) := by decide +kernel
theorem dX9_free_203 : decode cX9_free 203 = .ok (.ireturn, 1) := by decide +kernel
theorem dX9_rank_0 : decode cX9_rank 0 = .ok (.iload_n 1, 1) := by decide +kernel
theorem dX9_rank_1 : decode cX9_rank 1 = .ok (.invokestatic 129, 3) := by decide +kernel
theorem dX9_rank_4 : decode cX9_rank 4 = .ok (.ifCond .eq 14, 3) := by decide +kernel
theorem dX9_rank_7 : decode cX9_rank 7 = .ok (.iload_n 2, 1) := by decide +kernel
theorem dX9_rank_8 : decode cX9_rank 8 = .ok (.invokestatic 96, 3) := by decide +kernel
theorem dX9_rank_11 : decode cX9_rank 11 = .ok (.ifCond .eq 7, 3) := by decide +kernel
theorem dX9_rank_14 : decode cX9_rank 14 = .ok (.iload_n 3, 1) := by decide +kernel
theorem dX9_rank_15 : decode cX9_rank 15 = .ok (.ifCond .ge 5, 3) := by decide +kernel
theorem dX9_rank_18 : decode cX9_rank 18 = .ok (.iconst (-1), 1) := by decide +kernel
theorem dX9_rank_19 : decode cX9_rank 19 = .ok (.ireturn, 1) := by decide +kernel
theorem dX9_rank_20 : decode cX9_rank 20 = .ok (.aload_n 0, 1) := by decide +kernel
theorem dX9_rank_21 : decode cX9_rank 21 = .ok (.iload_n 1, 1) := by decide +kernel
theorem dX9_rank_22 : decode cX9_rank 22 = .ok (.iload_n 2, 1) := by decide +kernel
theorem dX9_rank_23 : decode cX9_rank 23 = .ok (.invokevirtual 186, 3) := by decide +kernel
theorem dX9_rank_26 : decode cX9_rank 26 = .ok (.iconst 0, 1) := by decide +kernel
theorem dX9_rank_27 : decode cX9_rank 27 = .ok (.istore 4, 2) := by decide +kernel
theorem dX9_rank_29 : decode cX9_rank 29 = .ok (.iload 4, 2) := by decide +kernel
theorem dX9_rank_31 : decode cX9_rank 31 = .ok (.aload_n 0, 1) := by decide +kernel
theorem dX9_rank_32 : decode cX9_rank 32 = .ok (.getfield 87, 3) := by decide +kernel
theorem dX9_rank_35 : decode cX9_rank 35 = .ok (.if_icmp .ge 23, 3) := by decide +kernel
theorem dX9_rank_38 : decode cX9_rank 38 = .ok (.aload_n 0, 1) := by decide +kernel
theorem dX9_rank_39 : decode cX9_rank 39 = .ok (.getfield 47, 3) := by decide +kernel
theorem dX9_rank_42 : decode cX9_rank 42 = .ok (.iload 4, 2) := by decide +kernel
theorem dX9_rank_44 : decode cX9_rank 44 = .ok (.aload_n 0, 1) := by decide +kernel
theorem dX9_rank_45 : decode cX9_rank 45 = .ok (.iload 4, 2) := by decide +kernel
theorem dX9_rank_47 : decode cX9_rank 47 = .ok (.iload_n 2, 1) := by decide +kernel
theorem dX9_rank_48 : decode cX9_rank 48 = .ok (.invokevirtual 157, 3) := by decide +kernel
theorem dX9_rank_51 : decode cX9_rank 51 = .ok (.bastore, 1) := by decide +kernel
theorem dX9_rank_52 : decode cX9_rank 52 = .ok (.iinc 4 1, 3) := by decide +kernel
theorem dX9_rank_55 : decode cX9_rank 55 = .ok (.goto (-26), 3) := by decide +kernel
theorem dX9_rank_58 : decode cX9_rank 58 = .ok (.aload_n 0, 1) := by decide +kernel
theorem dX9_rank_59 : decode cX9_rank 59 = .ok (.iload_n 1, 1) := by decide +kernel
theorem dX9_rank_60 : decode cX9_rank 60 = .ok (.iload_n 2, 1) := by decide +kernel
theorem dX9_rank_61 : decode cX9_rank 61 = .ok (.invokevirtual 160, 3) := by decide +kernel
theorem dX9_rank_64 : decode cX9_rank 64 = .ok (.istore 4, 2) := by decide +kernel
theorem dX9_rank_66 : decode cX9_rank 66 = .ok (.iload_n 3, 1) := by decide +kernel
theorem dX9_rank_67 : decode cX9_rank 67 = .ok (.iload 4, 2) := by decide +kernel
theorem dX9_rank_69 : decode cX9_rank 69 = .ok (.if_icmp .ge 12, 3) := by decide +kernel
theorem dX9_rank_72 : decode cX9_rank 72 = .ok (.aload_n 0, 1) := by decide +kernel
theorem dX9_rank_73 : decode cX9_rank 73 = .ok (.getfield 51, 3) := by decide +kernel
theorem dX9_rank_76 : decode cX9_rank 76 = .ok (.iload_n 3, 1) := by decide +kernel
theorem dX9_rank_77 : decode cX9_rank 77 = .ok (.iaload, 1) := by decide +kernel
theorem dX9_rank_78 : decode cX9_rank 78 = .ok (.goto 5, 3) := by decide +kernel
theorem dX9_rank_81 : decode cX9_rank 81 = .ok (.bipush (-4), 2) := by decide +kernel
theorem dX9_rank_83 : decode cX9_rank 83 = .ok (.ireturn, 1) := by decide +kernel
theorem dX9_findWords_0 : decode cX9_findWords 0 = .ok (.iconst 1, 1) := by decide +kernel
theorem dX9_findWords_1 : decode cX9_findWords 1 = .ok (.istore 4, 2) := by decide +kernel
theorem dX9_findWords_3 : decode cX9_findWords 3 = .ok (.iconst 0, 1) := by decide +kernel
theorem dX9_findWords_4 : decode cX9_findWords 4 = .ok (.istore 5, 2) := by decide +kernel
theorem dX9_findWords_6 : decode cX9_findWords 6 = .ok (.iload 5, 2) := by decide +kernel
theorem dX9_findWords_8 : decode cX9_findWords 8 = .ok (.iload_n 2, 1) := by decide +kernel
theorem dX9_findWords_9 : decode cX9_findWords 9 = .ok (.if_icmp .ge 38, 3) := by decide +kernel
theorem dX9_findWords_12 : decode cX9_findWords 12 = .ok (.aload_n 0, 1) := by decide +kernel
theorem dX9_findWords_13 : decode cX9_findWords 13 = .ok (.getfield 63, 3) := by decide +kernel
theorem dX9_findWords_16 : decode cX9_findWords 16 = .ok (.iload 5, 2) := by decide +kernel
theorem dX9_findWords_18 : decode cX9_findWords 18 = .ok (.aload_n 0, 1) := by decide +kernel
theorem dX9_findWords_19 : decode cX9_findWords 19 = .ok (.getfield 13, 3) := by decide +kernel
theorem dX9_findWords_22 : decode cX9_findWords 22 = .ok (.iconst 4, 1) := by decide +kernel
theorem dX9_findWords_23 : decode cX9_findWords 23 = .ok (.iload 5, 2) := by decide +kernel
theorem dX9_findWords_25 : decode cX9_findWords 25 = .ok (.imul, 1) := by decide +kernel
theorem dX9_findWords_26 : decode cX9_findWords 26 = .ok (.iconst 2, 1) := by decide +kernel
theorem dX9_findWords_27 : decode cX9_findWords 27 = .ok (.iadd, 1) := by decide +kernel
theorem dX9_findWords_28 : decode cX9_findWords 28 = .ok (.iaload, 1) := by decide +kernel
theorem dX9_findWords_29 : decode cX9_findWords 29 = .ok (.iastore, 1) := by decide +kernel
theorem dX9_findWords_30 : decode cX9_findWords 30 = .ok (.iload 4, 2) := by decide +kernel
theorem dX9_findWords_32 : decode cX9_findWords 32 = .ok (.aload_n 0, 1) := by decide +kernel
theorem dX9_findWords_33 : decode cX9_findWords 33 = .ok (.getfield 87, 3) := by decide +kernel
theorem dX9_findWords_36 : decode cX9_findWords 36 = .ok (.iconst 1, 1) := by decide +kernel
theorem dX9_findWords_37 : decode cX9_findWords 37 = .ok (.iadd, 1) := by decide +kernel
theorem dX9_findWords_38 : decode cX9_findWords 38 = .ok (.imul, 1) := by decide +kernel
theorem dX9_findWords_39 : decode cX9_findWords 39 = .ok (.istore 4, 2) := by decide +kernel
theorem dX9_findWords_41 : decode cX9_findWords 41 = .ok (.iinc 5 1, 3) := by decide +kernel
theorem dX9_findWords_44 : decode cX9_findWords 44 = .ok (.goto (-38), 3) := by decide +kernel
theorem dX9_findWords_47 : decode cX9_findWords 47 = .ok (.aload_n 0, 1) := by decide +kernel
theorem dX9_findWords_48 : decode cX9_findWords 48 = .ok (.ldc2_w 107, 3) := by decide +kernel
theorem dX9_findWords_51 : decode cX9_findWords 51 = .ok (.putfield 199, 3) := by decide +kernel
theorem dX9_findWords_54 : decode cX9_findWords 54 = .ok (.iconst 0, 1) := by decide +kernel
theorem dX9_findWords_55 : decode cX9_findWords 55 = .ok (.istore 5, 2) := by decide +kernel
theorem dX9_findWords_57 : decode cX9_findWords 57 = .ok (.iload 5, 2) := by decide +kernel
theorem dX9_findWords_59 : decode cX9_findWords 59 = .ok (.iload 4, 2) := by decide +kernel
theorem dX9_findWords_61 : decode cX9_findWords 61 = .ok (.if_icmp .ge 128, 3) := by decide +kernel
theorem dX9_findWords_64 : decode cX9_findWords 64 = .ok (.iload 5, 2) := by decide +kernel
theorem dX9_findWords_66 : decode cX9_findWords 66 = .ok (.istore 6, 2) := by decide +kernel
theorem dX9_findWords_68 : decode cX9_findWords 68 = .ok (.iload_n 2, 1) := by decide +kernel
theorem dX9_findWords_69 : decode cX9_findWords 69 = .ok (.iconst 1, 1) := by decide +kernel
theorem dX9_findWords_70 : decode cX9_findWords 70 = .ok (.isub, 1) := by decide +kernel
theorem dX9_findWords_71 : decode cX9_findWords 71 = .ok (.istore 7, 2) := by decide +kernel
theorem dX9_findWords_73 : decode cX9_findWords 73 = .ok (.iload 7, 2) := by decide +kernel
theorem dX9_findWords_75 : decode cX9_findWords 75 = .ok (.ifCond .lt 42, 3) := by decide +kernel
theorem dX9_findWords_78 : decode cX9_findWords 78 = .ok (.aload_n 0, 1) := by decide +kernel
theorem dX9_findWords_79 : decode cX9_findWords 79 = .ok (.getfield 13, 3) := by decide +kernel
theorem dX9_findWords_82 : decode cX9_findWords 82 = .ok (.iconst 4, 1) := by decide +kernel
theorem dX9_findWords_83 : decode cX9_findWords 83 = .ok (.iload 7, 2) := by decide +kernel
theorem dX9_findWords_85 : decode cX9_findWords 85 = .ok (.imul, 1) := by decide +kernel
theorem dX9_findWords_86 : decode cX9_findWords 86 = .ok (.iconst 2, 1) := by decide +kernel
theorem dX9_findWords_87 : decode cX9_findWords 87 = .ok (.iadd, 1) := by decide +kernel
theorem dX9_findWords_88 : decode cX9_findWords 88 = .ok (.iload 6, 2) := by decide +kernel
theorem dX9_findWords_90 : decode cX9_findWords 90 = .ok (.aload_n 0, 1) := by decide +kernel
theorem dX9_findWords_91 : decode cX9_findWords 91 = .ok (.getfield 87, 3) := by decide +kernel
theorem dX9_findWords_94 : decode cX9_findWords 94 = .ok (.iconst 1, 1) := by decide +kernel
theorem dX9_findWords_95 : decode cX9_findWords 95 = .ok (.iadd, 1) := by decide +kernel
theorem dX9_findWords_96 : decode cX9_findWords 96 = .ok (.irem, 1) := by decide +kernel
theorem dX9_findWords_97 : decode cX9_findWords 97 = .ok (.iconst 1, 1) := by decide +kernel
theorem dX9_findWords_98 : decode cX9_findWords 98 = .ok (.isub, 1) := by decide +kernel
theorem dX9_findWords_99 : decode cX9_findWords 99 = .ok (.iastore, 1) := by decide +kernel
theorem dX9_findWords_100 : decode cX9_findWords 100 = .ok (.iload 6, 2) := by decide +kernel
theorem dX9_findWords_102 : decode cX9_findWords 102 = .ok (.aload_n 0, 1) := by decide +kernel
theorem dX9_findWords_103 : decode cX9_findWords 103 = .ok (.getfield 87, 3) := by decide +kernel
theorem dX9_findWords_106 : decode cX9_findWords 106 = .ok (.iconst 1, 1) := by decide +kernel
theorem dX9_findWords_107 : decode cX9_findWords 107 = .ok (.iadd, 1) := by decide +kernel
theorem dX9_findWords_108 : decode cX9_findWords 108 = .ok (.idiv, 1) := by decide +kernel
theorem dX9_findWords_109 : decode cX9_findWords 109 = .ok (.istore 6, 2) := by decide +kernel
theorem dX9_findWords_111 : decode cX9_findWords 111 = .ok (.iinc 7 (-1), 3) := by decide +kernel
theorem dX9_findWords_114 : decode cX9_findWords 114 = .ok (.goto (-41), 3) := by decide +kernel
theorem dX9_findWords_117 : decode cX9_findWords 117 = .ok (.aload_n 0, 1) := by decide +kernel
theorem dX9_findWords_118 : decode cX9_findWords 118 = .ok (.iload_n 1, 1) := by decide +kernel
theorem dX9_findWords_119 : decode cX9_findWords 119 = .ok (.iload_n 3, 1) := by decide +kernel
theorem dX9_findWords_120 : decode cX9_findWords 120 = .ok (.invokevirtual 195, 3) := by decide +kernel
theorem dX9_findWords_123 : decode cX9_findWords 123 = .ok (.lstore 7, 2) := by decide +kernel
theorem dX9_findWords_125 : decode cX9_findWords 125 = .ok (.aload_n 0, 1) := by decide +kernel
theorem dX9_findWords_126 : decode cX9_findWords 126 = .ok (.getfield 199, 3) := by decide +kernel
theorem dX9_findWords_129 : decode cX9_findWords 129 = .ok (.lconst 0, 1) := by decide +kernel
theorem dX9_findWords_130 : decode cX9_findWords 130 = .ok (.lcmp, 1) := by decide +kernel
theorem dX9_findWords_131 : decode cX9_findWords 131 = .ok (.ifCond .lt 13, 3) := by decide +kernel
theorem dX9_findWords_134 : decode cX9_findWords 134 = .ok (.lload 7, 2) := by decide +kernel
theorem dX9_findWords_136 : decode cX9_findWords 136 = .ok (.aload_n 0, 1) := by decide +kernel
theorem dX9_findWords_137 : decode cX9_findWords 137 = .ok (.getfield 199, 3) := by decide +kernel
theorem dX9_findWords_140 : decode cX9_findWords 140 = .ok (.lcmp, 1) := by decide +kernel
theorem dX9_findWords_141 : decode cX9_findWords 141 = .ok (.ifCond .ge 42, 3) := by decide +kernel
theorem dX9_findWords_144 : decode cX9_findWords 144 = .ok (.aload_n 0, 1) := by decide +kernel
theorem dX9_findWords_145 : decode cX9_findWords 145 = .ok (.lload 7, 2) := by decide +kernel
theorem dX9_findWords_147 : decode cX9_findWords 147 = .ok (.putfield 199, 3) := by decide +kernel
theorem dX9_findWords_150 : decode cX9_findWords 150 = .ok (.iconst 0, 1) := by decide +kernel
theorem dX9_findWords_151 : decode cX9_findWords 151 = .ok (.istore 9, 2) := by decide +kernel
theorem dX9_findWords_153 : decode cX9_findWords 153 = .ok (.iload 9, 2) := by decide +kernel
theorem dX9_findWords_155 : decode cX9_findWords 155 = .ok (.iload_n 2, 1) := by decide +kernel
theorem dX9_findWords_156 : decode cX9_findWords 156 = .ok (.if_icmp .ge 27, 3) := by decide +kernel
theorem dX9_findWords_159 : decode cX9_findWords 159 = .ok (.aload_n 0, 1) := by decide +kernel
theorem dX9_findWords_160 : decode cX9_findWords 160 = .ok (.getfield 60, 3) := by decide +kernel
theorem dX9_findWords_163 : decode cX9_findWords 163 = .ok (.iload 9, 2) := by decide +kernel
theorem dX9_findWords_165 : decode cX9_findWords 165 = .ok (.aload_n 0, 1) := by decide +kernel
theorem dX9_findWords_166 : decode cX9_findWords 166 = .ok (.getfield 13, 3) := by decide +kernel
theorem dX9_findWords_169 : decode cX9_findWords 169 = .ok (.iconst 4, 1) := by decide +kernel
theorem dX9_findWords_170 : decode cX9_findWords 170 = .ok (.iload 9, 2) := by decide +kernel
theorem dX9_findWords_172 : decode cX9_findWords 172 = .ok (.imul, 1) := by decide +kernel
theorem dX9_findWords_173 : decode cX9_findWords 173 = .ok (.iconst 2, 1) := by decide +kernel
theorem dX9_findWords_174 : decode cX9_findWords 174 = .ok (.iadd, 1) := by decide +kernel
theorem dX9_findWords_175 : decode cX9_findWords 175 = .ok (.iaload, 1) := by decide +kernel
theorem dX9_findWords_176 : decode cX9_findWords 176 = .ok (.iastore, 1) := by decide +kernel
theorem dX9_findWords_177 : decode cX9_findWords 177 = .ok (.iinc 9 1, 3) := by decide +kernel
theorem dX9_findWords_180 : decode cX9_findWords 180 = .ok (.goto (-27), 3) := by decide +kernel
theorem dX9_findWords_183 : decode cX9_findWords 183 = .ok (.iinc 5 1, 3) := by decide +kernel
theorem dX9_findWords_186 : decode cX9_findWords 186 = .ok (.goto (-129), 3) := by decide +kernel
theorem dX9_findWords_189 : decode cX9_findWords 189 = .ok (.iconst 0, 1) := by decide +kernel
theorem dX9_findWords_190 : decode cX9_findWords 190 = .ok (.istore 5, 2) := by decide +kernel
theorem dX9_findWords_192 : decode cX9_findWords 192 = .ok (.iload 5, 2) := by decide +kernel
theorem dX9_findWords_194 : decode cX9_findWords 194 = .ok (.iload_n 2, 1) := by decide +kernel
theorem dX9_findWords_195 : decode cX9_findWords 195 = .ok (.if_icmp .ge 27, 3) := by decide +kernel
theorem dX9_findWords_198 : decode cX9_findWords 198 = .ok (.aload_n 0, 1) := by decide +kernel
theorem dX9_findWords_199 : decode cX9_findWords 199 = .ok (.getfield 13, 3) := by decide +kernel
theorem dX9_findWords_202 : decode cX9_findWords 202 = .ok (.iconst 4, 1) := by decide +kernel
theorem dX9_findWords_203 : decode cX9_findWords 203 = .ok (.iload 5, 2) := by decide +kernel
theorem dX9_findWords_205 : decode cX9_findWords 205 = .ok (.imul, 1) := by decide +kernel
theorem dX9_findWords_206 : decode cX9_findWords 206 = .ok (.iconst 2, 1) := by decide +kernel
theorem dX9_findWords_207 : decode cX9_findWords 207 = .ok (.iadd, 1) := by decide +kernel
theorem dX9_findWords_208 : decode cX9_findWords 208 = .ok (.aload_n 0, 1) := by decide +kernel
theorem dX9_findWords_209 : decode cX9_findWords 209 = .ok (.getfield 63, 3) := by decide +kernel
theorem dX9_findWords_212 : decode cX9_findWords 212 = .ok (.iload 5, 2) := by decide +kernel
theorem dX9_findWords_214 : decode cX9_findWords 214 = .ok (.iaload, 1) := by decide +kernel
theorem dX9_findWords_215 : decode cX9_findWords 215 = .ok (.iastore, 1) := by decide +kernel
theorem dX9_findWords_216 : decode cX9_findWords 216 = .ok (.iinc 5 1, 3) := by decide +kernel
theorem dX9_findWords_219 : decode cX9_findWords 219 = .ok (.goto (-27), 3) := by decide +kernel
theorem dX9_findWords_222 : decode cX9_findWords 222 = .ok (.return_, 1) := by decide +kernel
theorem dX9_best_0 : decode cX9_best 0 = .ok (.iload_n 1, 1) := by decide +kernel
theorem dX9_best_1 : decode cX9_best 1 = .ok (.invokestatic 129, 3) := by decide +kernel
theorem dX9_best_4 : decode cX9_best 4 = .ok (.ifCond .eq 36, 3) := by decide +kernel
theorem dX9_best_7 : decode cX9_best 7 = .ok (.iload_n 2, 1) := by decide +kernel
theorem dX9_best_8 : decode cX9_best 8 = .ok (.i2l, 1) := by decide +kernel
theorem dX9_best_9 : decode cX9_best 9 = .ok (.lconst 1, 1) := by decide +kernel
theorem dX9_best_10 : decode cX9_best 10 = .ok (.ldc2_w 116, 3) := by decide +kernel
theorem dX9_best_13 : decode cX9_best 13 = .ok (.invokestatic 83, 3) := by decide +kernel
theorem dX9_best_16 : decode cX9_best 16 = .ok (.ifCond .eq 24, 3) := by decide +kernel
theorem dX9_best_19 : decode cX9_best 19 = .ok (.iload_n 3, 1) := by decide +kernel
theorem dX9_best_20 : decode cX9_best 20 = .ok (.invokestatic 96, 3) := by decide +kernel
theorem dX9_best_23 : decode cX9_best 23 = .ok (.ifCond .eq 17, 3) := by decide +kernel
theorem dX9_best_26 : decode cX9_best 26 = .ok (.iload 4, 2) := by decide +kernel
theorem dX9_best_28 : decode cX9_best 28 = .ok (.i2l, 1) := by decide +kernel
theorem dX9_best_29 : decode cX9_best 29 = .ok (.lconst 0, 1) := by decide +kernel
theorem dX9_best_30 : decode cX9_best 30 = .ok (.iload_n 2, 1) := by decide +kernel
theorem dX9_best_31 : decode cX9_best 31 = .ok (.iconst 1, 1) := by decide +kernel
theorem dX9_best_32 : decode cX9_best 32 = .ok (.isub, 1) := by decide +kernel
theorem dX9_best_33 : decode cX9_best 33 = .ok (.i2l, 1) := by decide +kernel
theorem dX9_best_34 : decode cX9_best 34 = .ok (.invokestatic 83, 3) := by decide +kernel
theorem dX9_best_37 : decode cX9_best 37 = .ok (.ifCond .ne 6, 3) := by decide +kernel
theorem dX9_best_40 : decode cX9_best 40 = .ok (.bipush (-101), 2) := by decide +kernel
theorem dX9_best_42 : decode cX9_best 42 = .ok (.ireturn, 1) := by decide +kernel
theorem dX9_best_43 : decode cX9_best 43 = .ok (.aload_n 0, 1) := by decide +kernel
theorem dX9_best_44 : decode cX9_best 44 = .ok (.getfield 91, 3) := by decide +kernel
theorem dX9_best_47 : decode cX9_best 47 = .ok (.iload_n 2, 1) := by decide +kernel
theorem dX9_best_48 : decode cX9_best 48 = .ok (.if_icmp .ge 6, 3) := by decide +kernel
theorem dX9_best_51 : decode cX9_best 51 = .ok (.bipush (-102), 2) := by decide +kernel
theorem dX9_best_53 : decode cX9_best 53 = .ok (.ireturn, 1) := by decide +kernel
theorem dX9_best_54 : decode cX9_best 54 = .ok (.aload_n 0, 1) := by decide +kernel
theorem dX9_best_55 : decode cX9_best 55 = .ok (.iload_n 1, 1) := by decide +kernel
theorem dX9_best_56 : decode cX9_best 56 = .ok (.iload_n 2, 1) := by decide +kernel
theorem dX9_best_57 : decode cX9_best 57 = .ok (.iload_n 3, 1) := by decide +kernel
theorem dX9_best_58 : decode cX9_best 58 = .ok (.invokevirtual 202, 3) := by decide +kernel
theorem dX9_best_61 : decode cX9_best 61 = .ok (.aload_n 0, 1) := by decide +kernel
theorem dX9_best_62 : decode cX9_best 62 = .ok (.getfield 60, 3) := by decide +kernel
theorem dX9_best_65 : decode cX9_best 65 = .ok (.iload 4, 2) := by decide +kernel
theorem dX9_best_67 : decode cX9_best 67 = .ok (.iaload, 1) := by decide +kernel
theorem dX9_best_68 : decode cX9_best 68 = .ok (.ireturn, 1) := by decide +kernel
theorem dX9_least_0 : decode cX9_least 0 = .ok (.iload_n 1, 1) := by decide +kernel
theorem dX9_least_1 : decode cX9_least 1 = .ok (.invokestatic 129, 3) := by decide +kernel
theorem dX9_least_4 : decode cX9_least 4 = .ok (.ifCond .eq 22, 3) := by decide +kernel
theorem dX9_least_7 : decode cX9_least 7 = .ok (.iload_n 2, 1) := by decide +kernel
theorem dX9_least_8 : decode cX9_least 8 = .ok (.i2l, 1) := by decide +kernel
theorem dX9_least_9 : decode cX9_least 9 = .ok (.lconst 1, 1) := by decide +kernel
theorem dX9_least_10 : decode cX9_least 10 = .ok (.ldc2_w 116, 3) := by decide +kernel
theorem dX9_least_13 : decode cX9_least 13 = .ok (.invokestatic 83, 3) := by decide +kernel
theorem dX9_least_16 : decode cX9_least 16 = .ok (.ifCond .eq 10, 3) := by decide +kernel
theorem dX9_least_19 : decode cX9_least 19 = .ok (.iload_n 3, 1) := by decide +kernel
theorem dX9_least_20 : decode cX9_least 20 = .ok (.invokestatic 96, 3) := by decide +kernel
theorem dX9_least_23 : decode cX9_least 23 = .ok (.ifCond .ne 7, 3) := by decide +kernel
theorem dX9_least_26 : decode cX9_least 26 = .ok (.ldc2_w 107, 3) := by decide +kernel
theorem dX9_least_29 : decode cX9_least 29 = .ok (.lreturn, 1) := by decide +kernel
theorem dX9_least_30 : decode cX9_least 30 = .ok (.aload_n 0, 1) := by decide +kernel
theorem dX9_least_31 : decode cX9_least 31 = .ok (.getfield 91, 3) := by decide +kernel
theorem dX9_least_34 : decode cX9_least 34 = .ok (.iload_n 2, 1) := by decide +kernel
theorem dX9_least_35 : decode cX9_least 35 = .ok (.if_icmp .ge 7, 3) := by decide +kernel
theorem dX9_least_38 : decode cX9_least 38 = .ok (.ldc2_w 205, 3) := by decide +kernel
theorem dX9_least_41 : decode cX9_least 41 = .ok (.lreturn, 1) := by decide +kernel
theorem dX9_least_42 : decode cX9_least 42 = .ok (.aload_n 0, 1) := by decide +kernel
theorem dX9_least_43 : decode cX9_least 43 = .ok (.iload_n 1, 1) := by decide +kernel
theorem dX9_least_44 : decode cX9_least 44 = .ok (.iload_n 2, 1) := by decide +kernel
theorem dX9_least_45 : decode cX9_least 45 = .ok (.iload_n 3, 1) := by decide +kernel
theorem dX9_least_46 : decode cX9_least 46 = .ok (.invokevirtual 202, 3) := by decide +kernel
theorem dX9_least_49 : decode cX9_least 49 = .ok (.aload_n 0, 1) := by decide +kernel
theorem dX9_least_50 : decode cX9_least 50 = .ok (.getfield 199, 3) := by decide +kernel
theorem dX9_least_53 : decode cX9_least 53 = .ok (.lreturn, 1) := by decide +kernel
theorem dX9_answer_0 : decode cX9_answer 0 = .ok (.iload_n 1, 1) := by decide +kernel
theorem dX9_answer_1 : decode cX9_answer 1 = .ok (.invokestatic 129, 3) := by decide +kernel
theorem dX9_answer_4 : decode cX9_answer 4 = .ok (.ifCond .eq 18, 3) := by decide +kernel
theorem dX9_answer_7 : decode cX9_answer 7 = .ok (.aload_n 0, 1) := by decide +kernel
theorem dX9_answer_8 : decode cX9_answer 8 = .ok (.iload_n 2, 1) := by decide +kernel
theorem dX9_answer_9 : decode cX9_answer 9 = .ok (.invokevirtual 113, 3) := by decide +kernel
theorem dX9_answer_12 : decode cX9_answer 12 = .ok (.ifCond .eq 10, 3) := by decide +kernel
theorem dX9_answer_15 : decode cX9_answer 15 = .ok (.iload_n 3, 1) := by decide +kernel
theorem dX9_answer_16 : decode cX9_answer 16 = .ok (.invokestatic 96, 3) := by decide +kernel
theorem dX9_answer_19 : decode cX9_answer 19 = .ok (.ifCond .ne 6, 3) := by decide +kernel
theorem dX9_answer_22 : decode cX9_answer 22 = .ok (.bipush (-101), 2) := by decide +kernel
theorem dX9_answer_24 : decode cX9_answer 24 = .ok (.ireturn, 1) := by decide +kernel
theorem dX9_answer_25 : decode cX9_answer 25 = .ok (.aload_n 0, 1) := by decide +kernel
theorem dX9_answer_26 : decode cX9_answer 26 = .ok (.getfield 13, 3) := by decide +kernel
theorem dX9_answer_29 : decode cX9_answer 29 = .ok (.iconst 4, 1) := by decide +kernel
theorem dX9_answer_30 : decode cX9_answer 30 = .ok (.iload_n 2, 1) := by decide +kernel
theorem dX9_answer_31 : decode cX9_answer 31 = .ok (.imul, 1) := by decide +kernel
theorem dX9_answer_32 : decode cX9_answer 32 = .ok (.iconst 3, 1) := by decide +kernel
theorem dX9_answer_33 : decode cX9_answer 33 = .ok (.iadd, 1) := by decide +kernel
theorem dX9_answer_34 : decode cX9_answer 34 = .ok (.iaload, 1) := by decide +kernel
theorem dX9_answer_35 : decode cX9_answer 35 = .ok (.istore 4, 2) := by decide +kernel
theorem dX9_answer_37 : decode cX9_answer 37 = .ok (.iconst (-1), 1) := by decide +kernel
theorem dX9_answer_38 : decode cX9_answer 38 = .ok (.istore 5, 2) := by decide +kernel
theorem dX9_answer_40 : decode cX9_answer 40 = .ok (.ldc2_w 107, 3) := by decide +kernel
theorem dX9_answer_43 : decode cX9_answer 43 = .ok (.lstore 6, 2) := by decide +kernel
theorem dX9_answer_45 : decode cX9_answer 45 = .ok (.iconst (-1), 1) := by decide +kernel
theorem dX9_answer_46 : decode cX9_answer 46 = .ok (.istore 8, 2) := by decide +kernel
theorem dX9_answer_48 : decode cX9_answer 48 = .ok (.iload 8, 2) := by decide +kernel
theorem dX9_answer_50 : decode cX9_answer 50 = .ok (.aload_n 0, 1) := by decide +kernel
theorem dX9_answer_51 : decode cX9_answer 51 = .ok (.getfield 87, 3) := by decide +kernel
theorem dX9_answer_54 : decode cX9_answer 54 = .ok (.if_icmp .ge 45, 3) := by decide +kernel
theorem dX9_answer_57 : decode cX9_answer 57 = .ok (.aload_n 0, 1) := by decide +kernel
theorem dX9_answer_58 : decode cX9_answer 58 = .ok (.getfield 13, 3) := by decide +kernel
theorem dX9_answer_61 : decode cX9_answer 61 = .ok (.iconst 4, 1) := by decide +kernel
theorem dX9_answer_62 : decode cX9_answer 62 = .ok (.iload_n 2, 1) := by decide +kernel
theorem dX9_answer_63 : decode cX9_answer 63 = .ok (.imul, 1) := by decide +kernel
theorem dX9_answer_64 : decode cX9_answer 64 = .ok (.iconst 3, 1) := by decide +kernel
theorem dX9_answer_65 : decode cX9_answer 65 = .ok (.iadd, 1) := by decide +kernel
theorem dX9_answer_66 : decode cX9_answer 66 = .ok (.iload 8, 2) := by decide +kernel
theorem dX9_answer_68 : decode cX9_answer 68 = .ok (.iastore, 1) := by decide +kernel
theorem dX9_answer_69 : decode cX9_answer 69 = .ok (.aload_n 0, 1) := by decide +kernel
theorem dX9_answer_70 : decode cX9_answer 70 = .ok (.iload_n 1, 1) := by decide +kernel
theorem dX9_answer_71 : decode cX9_answer 71 = .ok (.iload_n 3, 1) := by decide +kernel
theorem dX9_answer_72 : decode cX9_answer 72 = .ok (.invokevirtual 195, 3) := by decide +kernel
theorem dX9_answer_75 : decode cX9_answer 75 = .ok (.lstore 9, 2) := by decide +kernel
theorem dX9_answer_77 : decode cX9_answer 77 = .ok (.lload 9, 2) := by decide +kernel
theorem dX9_answer_79 : decode cX9_answer 79 = .ok (.lload 6, 2) := by decide +kernel
theorem dX9_answer_81 : decode cX9_answer 81 = .ok (.lcmp, 1) := by decide +kernel
theorem dX9_answer_82 : decode cX9_answer 82 = .ok (.ifCond .le 11, 3) := by decide +kernel
theorem dX9_answer_85 : decode cX9_answer 85 = .ok (.lload 9, 2) := by decide +kernel
theorem dX9_answer_87 : decode cX9_answer 87 = .ok (.lstore 6, 2) := by decide +kernel
theorem dX9_answer_89 : decode cX9_answer 89 = .ok (.iload 8, 2) := by decide +kernel
theorem dX9_answer_91 : decode cX9_answer 91 = .ok (.istore 5, 2) := by decide +kernel
theorem dX9_answer_93 : decode cX9_answer 93 = .ok (.iinc 8 1, 3) := by decide +kernel
theorem dX9_answer_96 : decode cX9_answer 96 = .ok (.goto (-48), 3) := by decide +kernel
theorem dX9_answer_99 : decode cX9_answer 99 = .ok (.aload_n 0, 1) := by decide +kernel
theorem dX9_answer_100 : decode cX9_answer 100 = .ok (.getfield 13, 3) := by decide +kernel
theorem dX9_answer_103 : decode cX9_answer 103 = .ok (.iconst 4, 1) := by decide +kernel
theorem dX9_answer_104 : decode cX9_answer 104 = .ok (.iload_n 2, 1) := by decide +kernel
theorem dX9_answer_105 : decode cX9_answer 105 = .ok (.imul, 1) := by decide +kernel
theorem dX9_answer_106 : decode cX9_answer 106 = .ok (.iconst 3, 1) := by decide +kernel
theorem dX9_answer_107 : decode cX9_answer 107 = .ok (.iadd, 1) := by decide +kernel
theorem dX9_answer_108 : decode cX9_answer 108 = .ok (.iload 4, 2) := by decide +kernel
theorem dX9_answer_110 : decode cX9_answer 110 = .ok (.iastore, 1) := by decide +kernel
theorem dX9_answer_111 : decode cX9_answer 111 = .ok (.iload 5, 2) := by decide +kernel
theorem dX9_answer_113 : decode cX9_answer 113 = .ok (.ireturn, 1) := by decide +kernel
theorem dX9_hangs_0 : decode cX9_hangs 0 = .ok (.iload_n 1, 1) := by decide +kernel
theorem dX9_hangs_1 : decode cX9_hangs 1 = .ok (.invokestatic 129, 3) := by decide +kernel
theorem dX9_hangs_4 : decode cX9_hangs 4 = .ok (.ifCond .eq 51, 3) := by decide +kernel
theorem dX9_hangs_7 : decode cX9_hangs 7 = .ok (.aload_n 0, 1) := by decide +kernel
theorem dX9_hangs_8 : decode cX9_hangs 8 = .ok (.iload_n 2, 1) := by decide +kernel
theorem dX9_hangs_9 : decode cX9_hangs 9 = .ok (.invokevirtual 113, 3) := by decide +kernel
theorem dX9_hangs_12 : decode cX9_hangs 12 = .ok (.ifCond .eq 43, 3) := by decide +kernel
theorem dX9_hangs_15 : decode cX9_hangs 15 = .ok (.iload_n 3, 1) := by decide +kernel
theorem dX9_hangs_16 : decode cX9_hangs 16 = .ok (.invokestatic 96, 3) := by decide +kernel
theorem dX9_hangs_19 : decode cX9_hangs 19 = .ok (.ifCond .eq 36, 3) := by decide +kernel
theorem dX9_hangs_22 : decode cX9_hangs 22 = .ok (.iload 4, 2) := by decide +kernel
theorem dX9_hangs_24 : decode cX9_hangs 24 = .ok (.invokestatic 96, 3) := by decide +kernel
theorem dX9_hangs_27 : decode cX9_hangs 27 = .ok (.ifCond .eq 28, 3) := by decide +kernel
theorem dX9_hangs_30 : decode cX9_hangs 30 = .ok (.iload_n 3, 1) := by decide +kernel
theorem dX9_hangs_31 : decode cX9_hangs 31 = .ok (.iload 4, 2) := by decide +kernel
theorem dX9_hangs_33 : decode cX9_hangs 33 = .ok (.if_icmp .gt 22, 3) := by decide +kernel
theorem dX9_hangs_36 : decode cX9_hangs 36 = .ok (.iload 5, 2) := by decide +kernel
theorem dX9_hangs_38 : decode cX9_hangs 38 = .ok (.invokestatic 96, 3) := by decide +kernel
theorem dX9_hangs_41 : decode cX9_hangs 41 = .ok (.ifCond .eq 14, 3) := by decide +kernel
theorem dX9_hangs_44 : decode cX9_hangs 44 = .ok (.iload 6, 2) := by decide +kernel
theorem dX9_hangs_46 : decode cX9_hangs 46 = .ok (.i2l, 1) := by decide +kernel
theorem dX9_hangs_47 : decode cX9_hangs 47 = .ok (.lconst 0, 1) := by decide +kernel
theorem dX9_hangs_48 : decode cX9_hangs 48 = .ok (.lconst 1, 1) := by decide +kernel
theorem dX9_hangs_49 : decode cX9_hangs 49 = .ok (.invokestatic 83, 3) := by decide +kernel
theorem dX9_hangs_52 : decode cX9_hangs 52 = .ok (.ifCond .ne 7, 3) := by decide +kernel
theorem dX9_hangs_55 : decode cX9_hangs 55 = .ok (.ldc2_w 107, 3) := by decide +kernel
theorem dX9_hangs_58 : decode cX9_hangs 58 = .ok (.lreturn, 1) := by decide +kernel
theorem dX9_hangs_59 : decode cX9_hangs 59 = .ok (.aload_n 0, 1) := by decide +kernel
theorem dX9_hangs_60 : decode cX9_hangs 60 = .ok (.getfield 13, 3) := by decide +kernel
theorem dX9_hangs_63 : decode cX9_hangs 63 = .ok (.iconst 4, 1) := by decide +kernel
theorem dX9_hangs_64 : decode cX9_hangs 64 = .ok (.iload_n 2, 1) := by decide +kernel
theorem dX9_hangs_65 : decode cX9_hangs 65 = .ok (.imul, 1) := by decide +kernel
theorem dX9_hangs_66 : decode cX9_hangs 66 = .ok (.iaload, 1) := by decide +kernel
theorem dX9_hangs_67 : decode cX9_hangs 67 = .ok (.istore 7, 2) := by decide +kernel
theorem dX9_hangs_69 : decode cX9_hangs 69 = .ok (.ldc2_w 107, 3) := by decide +kernel
theorem dX9_hangs_72 : decode cX9_hangs 72 = .ok (.lstore 8, 2) := by decide +kernel
theorem dX9_hangs_74 : decode cX9_hangs 74 = .ok (.iload_n 3, 1) := by decide +kernel
theorem dX9_hangs_75 : decode cX9_hangs 75 = .ok (.istore 10, 2) := by decide +kernel
theorem dX9_hangs_77 : decode cX9_hangs 77 = .ok (.iload 10, 2) := by decide +kernel
theorem dX9_hangs_79 : decode cX9_hangs 79 = .ok (.iload 4, 2) := by decide +kernel
theorem dX9_hangs_81 : decode cX9_hangs 81 = .ok (.if_icmp .gt 68, 3) := by decide +kernel
theorem dX9_hangs_84 : decode cX9_hangs 84 = .ok (.aload_n 0, 1) := by decide +kernel
theorem dX9_hangs_85 : decode cX9_hangs 85 = .ok (.getfield 13, 3) := by decide +kernel
theorem dX9_hangs_88 : decode cX9_hangs 88 = .ok (.iconst 4, 1) := by decide +kernel
theorem dX9_hangs_89 : decode cX9_hangs 89 = .ok (.iload_n 2, 1) := by decide +kernel
theorem dX9_hangs_90 : decode cX9_hangs 90 = .ok (.imul, 1) := by decide +kernel
theorem dX9_hangs_91 : decode cX9_hangs 91 = .ok (.iload 10, 2) := by decide +kernel
theorem dX9_hangs_93 : decode cX9_hangs 93 = .ok (.iastore, 1) := by decide +kernel
theorem dX9_hangs_94 : decode cX9_hangs 94 = .ok (.aload_n 0, 1) := by decide +kernel
theorem dX9_hangs_95 : decode cX9_hangs 95 = .ok (.iload_n 1, 1) := by decide +kernel
theorem dX9_hangs_96 : decode cX9_hangs 96 = .ok (.iload 5, 2) := by decide +kernel
theorem dX9_hangs_98 : decode cX9_hangs 98 = .ok (.invokevirtual 195, 3) := by decide +kernel
theorem dX9_hangs_101 : decode cX9_hangs 101 = .ok (.lstore 11, 2) := by decide +kernel
theorem dX9_hangs_103 : decode cX9_hangs 103 = .ok (.lload 8, 2) := by decide +kernel
theorem dX9_hangs_105 : decode cX9_hangs 105 = .ok (.lconst 0, 1) := by decide +kernel
theorem dX9_hangs_106 : decode cX9_hangs 106 = .ok (.lcmp, 1) := by decide +kernel
theorem dX9_hangs_107 : decode cX9_hangs 107 = .ok (.ifCond .lt 27, 3) := by decide +kernel
theorem dX9_hangs_110 : decode cX9_hangs 110 = .ok (.iload 6, 2) := by decide +kernel
theorem dX9_hangs_112 : decode cX9_hangs 112 = .ok (.ifCond .ne 14, 3) := by decide +kernel
theorem dX9_hangs_115 : decode cX9_hangs 115 = .ok (.lload 11, 2) := by decide +kernel
theorem dX9_hangs_117 : decode cX9_hangs 117 = .ok (.lload 8, 2) := by decide +kernel
theorem dX9_hangs_119 : decode cX9_hangs 119 = .ok (.lcmp, 1) := by decide +kernel
theorem dX9_hangs_120 : decode cX9_hangs 120 = .ok (.ifCond .ge 19, 3) := by decide +kernel
theorem dX9_hangs_123 : decode cX9_hangs 123 = .ok (.goto 11, 3) := by decide +kernel
theorem dX9_hangs_126 : decode cX9_hangs 126 = .ok (.lload 11, 2) := by decide +kernel
theorem dX9_hangs_128 : decode cX9_hangs 128 = .ok (.lload 8, 2) := by decide +kernel
theorem dX9_hangs_130 : decode cX9_hangs 130 = .ok (.lcmp, 1) := by decide +kernel
theorem dX9_hangs_131 : decode cX9_hangs 131 = .ok (.ifCond .le 8, 3) := by decide +kernel
theorem dX9_hangs_134 : decode cX9_hangs 134 = .ok (.lload 11, 2) := by decide +kernel
theorem dX9_hangs_136 : decode cX9_hangs 136 = .ok (.goto 5, 3) := by decide +kernel
theorem dX9_hangs_139 : decode cX9_hangs 139 = .ok (.lload 8, 2) := by decide +kernel
theorem dX9_hangs_141 : decode cX9_hangs 141 = .ok (.lstore 8, 2) := by decide +kernel
theorem dX9_hangs_143 : decode cX9_hangs 143 = .ok (.iinc 10 1, 3) := by decide +kernel
theorem dX9_hangs_146 : decode cX9_hangs 146 = .ok (.goto (-69), 3) := by decide +kernel
theorem dX9_hangs_149 : decode cX9_hangs 149 = .ok (.aload_n 0, 1) := by decide +kernel
theorem dX9_hangs_150 : decode cX9_hangs 150 = .ok (.getfield 13, 3) := by decide +kernel
theorem dX9_hangs_153 : decode cX9_hangs 153 = .ok (.iconst 4, 1) := by decide +kernel
theorem dX9_hangs_154 : decode cX9_hangs 154 = .ok (.iload_n 2, 1) := by decide +kernel
theorem dX9_hangs_155 : decode cX9_hangs 155 = .ok (.imul, 1) := by decide +kernel
theorem dX9_hangs_156 : decode cX9_hangs 156 = .ok (.iload 7, 2) := by decide +kernel
theorem dX9_hangs_158 : decode cX9_hangs 158 = .ok (.iastore, 1) := by decide +kernel
theorem dX9_hangs_159 : decode cX9_hangs 159 = .ok (.lload 8, 2) := by decide +kernel
theorem dX9_hangs_161 : decode cX9_hangs 161 = .ok (.lreturn, 1) := by decide +kernel
theorem dX9_plan_0 : decode cX9_plan 0 = .ok (.iload_n 1, 1) := by decide +kernel
theorem dX9_plan_1 : decode cX9_plan 1 = .ok (.invokestatic 129, 3) := by decide +kernel
theorem dX9_plan_4 : decode cX9_plan 4 = .ok (.ifCond .eq 46, 3) := by decide +kernel
theorem dX9_plan_7 : decode cX9_plan 7 = .ok (.iload_n 2, 1) := by decide +kernel
theorem dX9_plan_8 : decode cX9_plan 8 = .ok (.i2l, 1) := by decide +kernel
theorem dX9_plan_9 : decode cX9_plan 9 = .ok (.lconst 1, 1) := by decide +kernel
theorem dX9_plan_10 : decode cX9_plan 10 = .ok (.ldc2_w 94, 3) := by decide +kernel
theorem dX9_plan_13 : decode cX9_plan 13 = .ok (.invokestatic 83, 3) := by decide +kernel
theorem dX9_plan_16 : decode cX9_plan 16 = .ok (.ifCond .eq 34, 3) := by decide +kernel
theorem dX9_plan_19 : decode cX9_plan 19 = .ok (.iload_n 3, 1) := by decide +kernel
theorem dX9_plan_20 : decode cX9_plan 20 = .ok (.invokestatic 96, 3) := by decide +kernel
theorem dX9_plan_23 : decode cX9_plan 23 = .ok (.ifCond .eq 27, 3) := by decide +kernel
theorem dX9_plan_26 : decode cX9_plan 26 = .ok (.iload 4, 2) := by decide +kernel
theorem dX9_plan_28 : decode cX9_plan 28 = .ok (.i2l, 1) := by decide +kernel
theorem dX9_plan_29 : decode cX9_plan 29 = .ok (.lconst 1, 1) := by decide +kernel
theorem dX9_plan_30 : decode cX9_plan 30 = .ok (.ldc2_w 207, 3) := by decide +kernel
theorem dX9_plan_33 : decode cX9_plan 33 = .ok (.invokestatic 83, 3) := by decide +kernel
theorem dX9_plan_36 : decode cX9_plan 36 = .ok (.ifCond .eq 14, 3) := by decide +kernel
theorem dX9_plan_39 : decode cX9_plan 39 = .ok (.iload 5, 2) := by decide +kernel
theorem dX9_plan_41 : decode cX9_plan 41 = .ok (.i2l, 1) := by decide +kernel
theorem dX9_plan_42 : decode cX9_plan 42 = .ok (.lconst 0, 1) := by decide +kernel
theorem dX9_plan_43 : decode cX9_plan 43 = .ok (.lconst 1, 1) := by decide +kernel
theorem dX9_plan_44 : decode cX9_plan 44 = .ok (.invokestatic 83, 3) := by decide +kernel
theorem dX9_plan_47 : decode cX9_plan 47 = .ok (.ifCond .ne 7, 3) := by decide +kernel
theorem dX9_plan_50 : decode cX9_plan 50 = .ok (.ldc2_w 107, 3) := by decide +kernel
theorem dX9_plan_53 : decode cX9_plan 53 = .ok (.lreturn, 1) := by decide +kernel
theorem dX9_plan_54 : decode cX9_plan 54 = .ok (.aload_n 0, 1) := by decide +kernel
theorem dX9_plan_55 : decode cX9_plan 55 = .ok (.invokevirtual 180, 3) := by decide +kernel
theorem dX9_plan_58 : decode cX9_plan 58 = .ok (.iconst 0, 1) := by decide +kernel
theorem dX9_plan_59 : decode cX9_plan 59 = .ok (.istore 6, 2) := by decide +kernel
theorem dX9_plan_61 : decode cX9_plan 61 = .ok (.iload 6, 2) := by decide +kernel
theorem dX9_plan_63 : decode cX9_plan 63 = .ok (.sipush 299, 3) := by decide +kernel
theorem dX9_plan_66 : decode cX9_plan 66 = .ok (.if_icmp .gt 72, 3) := by decide +kernel
theorem dX9_plan_69 : decode cX9_plan 69 = .ok (.aload_n 0, 1) := by decide +kernel
theorem dX9_plan_70 : decode cX9_plan 70 = .ok (.iload_n 1, 1) := by decide +kernel
theorem dX9_plan_71 : decode cX9_plan 71 = .ok (.iload 6, 2) := by decide +kernel
theorem dX9_plan_73 : decode cX9_plan 73 = .ok (.invokevirtual 183, 3) := by decide +kernel
theorem dX9_plan_76 : decode cX9_plan 76 = .ok (.iload 6, 2) := by decide +kernel
theorem dX9_plan_78 : decode cX9_plan 78 = .ok (.iload_n 3, 1) := by decide +kernel
theorem dX9_plan_79 : decode cX9_plan 79 = .ok (.if_icmp .lt 53, 3) := by decide +kernel
theorem dX9_plan_82 : decode cX9_plan 82 = .ok (.iload 6, 2) := by decide +kernel
theorem dX9_plan_84 : decode cX9_plan 84 = .ok (.iload_n 3, 1) := by decide +kernel
theorem dX9_plan_85 : decode cX9_plan 85 = .ok (.isub, 1) := by decide +kernel
theorem dX9_plan_86 : decode cX9_plan 86 = .ok (.iload 4, 2) := by decide +kernel
theorem dX9_plan_88 : decode cX9_plan 88 = .ok (.irem, 1) := by decide +kernel
theorem dX9_plan_89 : decode cX9_plan 89 = .ok (.ifCond .ne 43, 3) := by decide +kernel
theorem dX9_plan_92 : decode cX9_plan 92 = .ok (.aload_n 0, 1) := by decide +kernel
theorem dX9_plan_93 : decode cX9_plan 93 = .ok (.iload_n 1, 1) := by decide +kernel
theorem dX9_plan_94 : decode cX9_plan 94 = .ok (.ldc2_w 135, 3) := by decide +kernel
theorem dX9_plan_97 : decode cX9_plan 97 = .ok (.iload_n 2, 1) := by decide +kernel
theorem dX9_plan_98 : decode cX9_plan 98 = .ok (.i2l, 1) := by decide +kernel
theorem dX9_plan_99 : decode cX9_plan 99 = .ok (.lmul, 1) := by decide +kernel
theorem dX9_plan_100 : decode cX9_plan 100 = .ok (.iconst (-1), 1) := by decide +kernel
theorem dX9_plan_101 : decode cX9_plan 101 = .ok (.iconst (-1), 1) := by decide +kernel
theorem dX9_plan_102 : decode cX9_plan 102 = .ok (.iload 6, 2) := by decide +kernel
theorem dX9_plan_104 : decode cX9_plan 104 = .ok (.invokevirtual 168, 3) := by decide +kernel
theorem dX9_plan_107 : decode cX9_plan 107 = .ok (.aload_n 0, 1) := by decide +kernel
theorem dX9_plan_108 : decode cX9_plan 108 = .ok (.invokevirtual 189, 3) := by decide +kernel
theorem dX9_plan_111 : decode cX9_plan 111 = .ok (.lconst 0, 1) := by decide +kernel
theorem dX9_plan_112 : decode cX9_plan 112 = .ok (.lcmp, 1) := by decide +kernel
theorem dX9_plan_113 : decode cX9_plan 113 = .ok (.ifCond .ne 19, 3) := by decide +kernel
theorem dX9_plan_116 : decode cX9_plan 116 = .ok (.iload 5, 2) := by decide +kernel
theorem dX9_plan_118 : decode cX9_plan 118 = .ok (.ifCond .ne 9, 3) := by decide +kernel
theorem dX9_plan_121 : decode cX9_plan 121 = .ok (.iload 6, 2) := by decide +kernel
theorem dX9_plan_123 : decode cX9_plan 123 = .ok (.i2l, 1) := by decide +kernel
theorem dX9_plan_124 : decode cX9_plan 124 = .ok (.goto 7, 3) := by decide +kernel
theorem dX9_plan_127 : decode cX9_plan 127 = .ok (.aload_n 0, 1) := by decide +kernel
theorem dX9_plan_128 : decode cX9_plan 128 = .ok (.getfield 149, 3) := by decide +kernel
theorem dX9_plan_131 : decode cX9_plan 131 = .ok (.lreturn, 1) := by decide +kernel
theorem dX9_plan_132 : decode cX9_plan 132 = .ok (.iinc 6 1, 3) := by decide +kernel
theorem dX9_plan_135 : decode cX9_plan 135 = .ok (.goto (-74), 3) := by decide +kernel
theorem dX9_plan_138 : decode cX9_plan 138 = .ok (.ldc2_w 209, 3) := by decide +kernel
theorem dX9_plan_141 : decode cX9_plan 141 = .ok (.lreturn, 1) := by decide +kernel
theorem dX9_parts_0 : decode cX9_parts 0 = .ok (.aload_n 0, 1) := by decide +kernel
theorem dX9_parts_1 : decode cX9_parts 1 = .ok (.invokevirtual 180, 3) := by decide +kernel
theorem dX9_parts_4 : decode cX9_parts 4 = .ok (.iconst 0, 1) := by decide +kernel
theorem dX9_parts_5 : decode cX9_parts 5 = .ok (.istore_n 1, 1) := by decide +kernel
theorem dX9_parts_6 : decode cX9_parts 6 = .ok (.iload_n 1, 1) := by decide +kernel
theorem dX9_parts_7 : decode cX9_parts 7 = .ok (.sipush 299, 3) := by decide +kernel
theorem dX9_parts_10 : decode cX9_parts 10 = .ok (.if_icmp .gt 47, 3) := by decide +kernel
theorem dX9_parts_13 : decode cX9_parts 13 = .ok (.aload_n 0, 1) := by decide +kernel
theorem dX9_parts_14 : decode cX9_parts 14 = .ok (.iconst 0, 1) := by decide +kernel
theorem dX9_parts_15 : decode cX9_parts 15 = .ok (.iload_n 1, 1) := by decide +kernel
theorem dX9_parts_16 : decode cX9_parts 16 = .ok (.invokevirtual 183, 3) := by decide +kernel
theorem dX9_parts_19 : decode cX9_parts 19 = .ok (.iconst 0, 1) := by decide +kernel
theorem dX9_parts_20 : decode cX9_parts 20 = .ok (.istore_n 2, 1) := by decide +kernel
theorem dX9_parts_21 : decode cX9_parts 21 = .ok (.iload_n 2, 1) := by decide +kernel
theorem dX9_parts_22 : decode cX9_parts 22 = .ok (.aload_n 0, 1) := by decide +kernel
theorem dX9_parts_23 : decode cX9_parts 23 = .ok (.getfield 87, 3) := by decide +kernel
theorem dX9_parts_26 : decode cX9_parts 26 = .ok (.if_icmp .ge 25, 3) := by decide +kernel
theorem dX9_parts_29 : decode cX9_parts 29 = .ok (.aload_n 0, 1) := by decide +kernel
theorem dX9_parts_30 : decode cX9_parts 30 = .ok (.getfield 66, 3) := by decide +kernel
theorem dX9_parts_33 : decode cX9_parts 33 = .ok (.bipush 8, 2) := by decide +kernel
theorem dX9_parts_35 : decode cX9_parts 35 = .ok (.iload_n 1, 1) := by decide +kernel
theorem dX9_parts_36 : decode cX9_parts 36 = .ok (.imul, 1) := by decide +kernel
theorem dX9_parts_37 : decode cX9_parts 37 = .ok (.iload_n 2, 1) := by decide +kernel
theorem dX9_parts_38 : decode cX9_parts 38 = .ok (.iadd, 1) := by decide +kernel
theorem dX9_parts_39 : decode cX9_parts 39 = .ok (.aload_n 0, 1) := by decide +kernel
theorem dX9_parts_40 : decode cX9_parts 40 = .ok (.iload_n 2, 1) := by decide +kernel
theorem dX9_parts_41 : decode cX9_parts 41 = .ok (.invokevirtual 137, 3) := by decide +kernel
theorem dX9_parts_44 : decode cX9_parts 44 = .ok (.lastore, 1) := by decide +kernel
theorem dX9_parts_45 : decode cX9_parts 45 = .ok (.iinc 2 1, 3) := by decide +kernel
theorem dX9_parts_48 : decode cX9_parts 48 = .ok (.goto (-27), 3) := by decide +kernel
theorem dX9_parts_51 : decode cX9_parts 51 = .ok (.iinc 1 1, 3) := by decide +kernel
theorem dX9_parts_54 : decode cX9_parts 54 = .ok (.goto (-48), 3) := by decide +kernel
theorem dX9_parts_57 : decode cX9_parts 57 = .ok (.aload_n 0, 1) := by decide +kernel
theorem dX9_parts_58 : decode cX9_parts 58 = .ok (.invokevirtual 180, 3) := by decide +kernel
theorem dX9_parts_61 : decode cX9_parts 61 = .ok (.iconst 0, 1) := by decide +kernel
theorem dX9_parts_62 : decode cX9_parts 62 = .ok (.istore_n 1, 1) := by decide +kernel
theorem dX9_parts_63 : decode cX9_parts 63 = .ok (.iload_n 1, 1) := by decide +kernel
theorem dX9_parts_64 : decode cX9_parts 64 = .ok (.sipush 299, 3) := by decide +kernel
theorem dX9_parts_67 : decode cX9_parts 67 = .ok (.if_icmp .gt 53, 3) := by decide +kernel
theorem dX9_parts_70 : decode cX9_parts 70 = .ok (.aload_n 0, 1) := by decide +kernel
theorem dX9_parts_71 : decode cX9_parts 71 = .ok (.iconst 1, 1) := by decide +kernel
theorem dX9_parts_72 : decode cX9_parts 72 = .ok (.iload_n 1, 1) := by decide +kernel
theorem dX9_parts_73 : decode cX9_parts 73 = .ok (.invokevirtual 183, 3) := by decide +kernel
theorem dX9_parts_76 : decode cX9_parts 76 = .ok (.iconst 0, 1) := by decide +kernel
theorem dX9_parts_77 : decode cX9_parts 77 = .ok (.istore_n 2, 1) := by decide +kernel
theorem dX9_parts_78 : decode cX9_parts 78 = .ok (.iload_n 2, 1) := by decide +kernel
theorem dX9_parts_79 : decode cX9_parts 79 = .ok (.aload_n 0, 1) := by decide +kernel
theorem dX9_parts_80 : decode cX9_parts 80 = .ok (.getfield 87, 3) := by decide +kernel
theorem dX9_parts_83 : decode cX9_parts 83 = .ok (.if_icmp .ge 31, 3) := by decide +kernel
theorem dX9_parts_86 : decode cX9_parts 86 = .ok (.aload_n 0, 1) := by decide +kernel
theorem dX9_parts_87 : decode cX9_parts 87 = .ok (.getfield 66, 3) := by decide +kernel
theorem dX9_parts_90 : decode cX9_parts 90 = .ok (.bipush 8, 2) := by decide +kernel
theorem dX9_parts_92 : decode cX9_parts 92 = .ok (.iload_n 1, 1) := by decide +kernel
theorem dX9_parts_93 : decode cX9_parts 93 = .ok (.imul, 1) := by decide +kernel
theorem dX9_parts_94 : decode cX9_parts 94 = .ok (.iload_n 2, 1) := by decide +kernel
theorem dX9_parts_95 : decode cX9_parts 95 = .ok (.iadd, 1) := by decide +kernel
theorem dX9_parts_96 : decode cX9_parts 96 = .ok (.laload, 1) := by decide +kernel
theorem dX9_parts_97 : decode cX9_parts 97 = .ok (.aload_n 0, 1) := by decide +kernel
theorem dX9_parts_98 : decode cX9_parts 98 = .ok (.iload_n 2, 1) := by decide +kernel
theorem dX9_parts_99 : decode cX9_parts 99 = .ok (.invokevirtual 137, 3) := by decide +kernel
theorem dX9_parts_102 : decode cX9_parts 102 = .ok (.lcmp, 1) := by decide +kernel
theorem dX9_parts_103 : decode cX9_parts 103 = .ok (.ifCond .eq 5, 3) := by decide +kernel
theorem dX9_parts_106 : decode cX9_parts 106 = .ok (.iload_n 1, 1) := by decide +kernel
theorem dX9_parts_107 : decode cX9_parts 107 = .ok (.ireturn, 1) := by decide +kernel
theorem dX9_parts_108 : decode cX9_parts 108 = .ok (.iinc 2 1, 3) := by decide +kernel
theorem dX9_parts_111 : decode cX9_parts 111 = .ok (.goto (-33), 3) := by decide +kernel
theorem dX9_parts_114 : decode cX9_parts 114 = .ok (.iinc 1 1, 3) := by decide +kernel
theorem dX9_parts_117 : decode cX9_parts 117 = .ok (.goto (-54), 3) := by decide +kernel
theorem dX9_parts_120 : decode cX9_parts 120 = .ok (.bipush (-4), 2) := by decide +kernel
theorem dX9_parts_122 : decode cX9_parts 122 = .ok (.ireturn, 1) := by decide +kernel
theorem dX9_gap_0 : decode cX9_gap 0 = .ok (.iload_n 1, 1) := by decide +kernel
theorem dX9_gap_1 : decode cX9_gap 1 = .ok (.invokestatic 96, 3) := by decide +kernel
theorem dX9_gap_4 : decode cX9_gap 4 = .ok (.ifCond .eq 19, 3) := by decide +kernel
theorem dX9_gap_7 : decode cX9_gap 7 = .ok (.aload_n 0, 1) := by decide +kernel
theorem dX9_gap_8 : decode cX9_gap 8 = .ok (.iconst 1, 1) := by decide +kernel
theorem dX9_gap_9 : decode cX9_gap 9 = .ok (.iload_n 1, 1) := by decide +kernel
theorem dX9_gap_10 : decode cX9_gap 10 = .ok (.invokevirtual 195, 3) := by decide +kernel
theorem dX9_gap_13 : decode cX9_gap 13 = .ok (.aload_n 0, 1) := by decide +kernel
theorem dX9_gap_14 : decode cX9_gap 14 = .ok (.iconst 0, 1) := by decide +kernel
theorem dX9_gap_15 : decode cX9_gap 15 = .ok (.iload_n 1, 1) := by decide +kernel
theorem dX9_gap_16 : decode cX9_gap 16 = .ok (.invokevirtual 195, 3) := by decide +kernel
theorem dX9_gap_19 : decode cX9_gap 19 = .ok (.lsub, 1) := by decide +kernel
theorem dX9_gap_20 : decode cX9_gap 20 = .ok (.goto 6, 3) := by decide +kernel
theorem dX9_gap_23 : decode cX9_gap 23 = .ok (.ldc2_w 211, 3) := by decide +kernel
theorem dX9_gap_26 : decode cX9_gap 26 = .ok (.lreturn, 1) := by decide +kernel
theorem dX9_carry_0 : decode cX9_carry 0 = .ok (.iconst 0, 1) := by decide +kernel
theorem dX9_carry_1 : decode cX9_carry 1 = .ok (.istore_n 2, 1) := by decide +kernel
theorem dX9_carry_2 : decode cX9_carry 2 = .ok (.iconst 0, 1) := by decide +kernel
theorem dX9_carry_3 : decode cX9_carry 3 = .ok (.istore_n 3, 1) := by decide +kernel
theorem dX9_carry_4 : decode cX9_carry 4 = .ok (.iload_n 3, 1) := by decide +kernel
theorem dX9_carry_5 : decode cX9_carry 5 = .ok (.bipush 64, 2) := by decide +kernel
theorem dX9_carry_7 : decode cX9_carry 7 = .ok (.if_icmp .ge 49, 3) := by decide +kernel
theorem dX9_carry_10 : decode cX9_carry 10 = .ok (.aload_n 0, 1) := by decide +kernel
theorem dX9_carry_11 : decode cX9_carry 11 = .ok (.getfield 69, 3) := by decide +kernel
theorem dX9_carry_14 : decode cX9_carry 14 = .ok (.iload_n 2, 1) := by decide +kernel
theorem dX9_carry_15 : decode cX9_carry 15 = .ok (.iload_n 1, 1) := by decide +kernel
theorem dX9_carry_16 : decode cX9_carry 16 = .ok (.ifCond .eq 12, 3) := by decide +kernel
theorem dX9_carry_19 : decode cX9_carry 19 = .ok (.aload_n 0, 1) := by decide +kernel
theorem dX9_carry_20 : decode cX9_carry 20 = .ok (.getfield 69, 3) := by decide +kernel
theorem dX9_carry_23 : decode cX9_carry 23 = .ok (.iload_n 2, 1) := by decide +kernel
theorem dX9_carry_24 : decode cX9_carry 24 = .ok (.iaload, 1) := by decide +kernel
theorem dX9_carry_25 : decode cX9_carry 25 = .ok (.goto 9, 3) := by decide +kernel
theorem dX9_carry_28 : decode cX9_carry 28 = .ok (.aload_n 0, 1) := by decide +kernel
theorem dX9_carry_29 : decode cX9_carry 29 = .ok (.getfield 7, 3) := by decide +kernel
theorem dX9_carry_32 : decode cX9_carry 32 = .ok (.iload_n 3, 1) := by decide +kernel
theorem dX9_carry_33 : decode cX9_carry 33 = .ok (.iaload, 1) := by decide +kernel
theorem dX9_carry_34 : decode cX9_carry 34 = .ok (.iastore, 1) := by decide +kernel
theorem dX9_carry_35 : decode cX9_carry 35 = .ok (.aload_n 0, 1) := by decide +kernel
theorem dX9_carry_36 : decode cX9_carry 36 = .ok (.getfield 7, 3) := by decide +kernel
theorem dX9_carry_39 : decode cX9_carry 39 = .ok (.iload_n 3, 1) := by decide +kernel
theorem dX9_carry_40 : decode cX9_carry 40 = .ok (.aload_n 0, 1) := by decide +kernel
theorem dX9_carry_41 : decode cX9_carry 41 = .ok (.getfield 69, 3) := by decide +kernel
theorem dX9_carry_44 : decode cX9_carry 44 = .ok (.iload_n 2, 1) := by decide +kernel
theorem dX9_carry_45 : decode cX9_carry 45 = .ok (.iaload, 1) := by decide +kernel
theorem dX9_carry_46 : decode cX9_carry 46 = .ok (.iastore, 1) := by decide +kernel
theorem dX9_carry_47 : decode cX9_carry 47 = .ok (.iinc 2 1, 3) := by decide +kernel
theorem dX9_carry_50 : decode cX9_carry 50 = .ok (.iinc 3 1, 3) := by decide +kernel
theorem dX9_carry_53 : decode cX9_carry 53 = .ok (.goto (-49), 3) := by decide +kernel
theorem dX9_carry_56 : decode cX9_carry 56 = .ok (.iconst 0, 1) := by decide +kernel
theorem dX9_carry_57 : decode cX9_carry 57 = .ok (.istore_n 3, 1) := by decide +kernel
theorem dX9_carry_58 : decode cX9_carry 58 = .ok (.iload_n 3, 1) := by decide +kernel
theorem dX9_carry_59 : decode cX9_carry 59 = .ok (.bipush 48, 2) := by decide +kernel
theorem dX9_carry_61 : decode cX9_carry 61 = .ok (.if_icmp .ge 49, 3) := by decide +kernel
theorem dX9_carry_64 : decode cX9_carry 64 = .ok (.aload_n 0, 1) := by decide +kernel
theorem dX9_carry_65 : decode cX9_carry 65 = .ok (.getfield 69, 3) := by decide +kernel
theorem dX9_carry_68 : decode cX9_carry 68 = .ok (.iload_n 2, 1) := by decide +kernel
theorem dX9_carry_69 : decode cX9_carry 69 = .ok (.iload_n 1, 1) := by decide +kernel
theorem dX9_carry_70 : decode cX9_carry 70 = .ok (.ifCond .eq 12, 3) := by decide +kernel
theorem dX9_carry_73 : decode cX9_carry 73 = .ok (.aload_n 0, 1) := by decide +kernel
theorem dX9_carry_74 : decode cX9_carry 74 = .ok (.getfield 69, 3) := by decide +kernel
theorem dX9_carry_77 : decode cX9_carry 77 = .ok (.iload_n 2, 1) := by decide +kernel
theorem dX9_carry_78 : decode cX9_carry 78 = .ok (.iaload, 1) := by decide +kernel
theorem dX9_carry_79 : decode cX9_carry 79 = .ok (.goto 9, 3) := by decide +kernel
theorem dX9_carry_82 : decode cX9_carry 82 = .ok (.aload_n 0, 1) := by decide +kernel
theorem dX9_carry_83 : decode cX9_carry 83 = .ok (.getfield 13, 3) := by decide +kernel
theorem dX9_carry_86 : decode cX9_carry 86 = .ok (.iload_n 3, 1) := by decide +kernel
theorem dX9_carry_87 : decode cX9_carry 87 = .ok (.iaload, 1) := by decide +kernel
theorem dX9_carry_88 : decode cX9_carry 88 = .ok (.iastore, 1) := by decide +kernel
theorem dX9_carry_89 : decode cX9_carry 89 = .ok (.aload_n 0, 1) := by decide +kernel
theorem dX9_carry_90 : decode cX9_carry 90 = .ok (.getfield 13, 3) := by decide +kernel
theorem dX9_carry_93 : decode cX9_carry 93 = .ok (.iload_n 3, 1) := by decide +kernel
theorem dX9_carry_94 : decode cX9_carry 94 = .ok (.aload_n 0, 1) := by decide +kernel
theorem dX9_carry_95 : decode cX9_carry 95 = .ok (.getfield 69, 3) := by decide +kernel
theorem dX9_carry_98 : decode cX9_carry 98 = .ok (.iload_n 2, 1) := by decide +kernel
theorem dX9_carry_99 : decode cX9_carry 99 = .ok (.iaload, 1) := by decide +kernel
theorem dX9_carry_100 : decode cX9_carry 100 = .ok (.iastore, 1) := by decide +kernel
theorem dX9_carry_101 : decode cX9_carry 101 = .ok (.iinc 2 1, 3) := by decide +kernel
theorem dX9_carry_104 : decode cX9_carry 104 = .ok (.iinc 3 1, 3) := by decide +kernel
theorem dX9_carry_107 : decode cX9_carry 107 = .ok (.goto (-49), 3) := by decide +kernel
theorem dX9_carry_110 : decode cX9_carry 110 = .ok (.iconst 0, 1) := by decide +kernel
theorem dX9_carry_111 : decode cX9_carry 111 = .ok (.istore_n 3, 1) := by decide +kernel
theorem dX9_carry_112 : decode cX9_carry 112 = .ok (.iload_n 3, 1) := by decide +kernel
theorem dX9_carry_113 : decode cX9_carry 113 = .ok (.bipush 24, 2) := by decide +kernel
theorem dX9_carry_115 : decode cX9_carry 115 = .ok (.if_icmp .ge 49, 3) := by decide +kernel
theorem dX9_carry_118 : decode cX9_carry 118 = .ok (.aload_n 0, 1) := by decide +kernel
theorem dX9_carry_119 : decode cX9_carry 119 = .ok (.getfield 69, 3) := by decide +kernel
theorem dX9_carry_122 : decode cX9_carry 122 = .ok (.iload_n 2, 1) := by decide +kernel
theorem dX9_carry_123 : decode cX9_carry 123 = .ok (.iload_n 1, 1) := by decide +kernel
theorem dX9_carry_124 : decode cX9_carry 124 = .ok (.ifCond .eq 12, 3) := by decide +kernel
theorem dX9_carry_127 : decode cX9_carry 127 = .ok (.aload_n 0, 1) := by decide +kernel
theorem dX9_carry_128 : decode cX9_carry 128 = .ok (.getfield 69, 3) := by decide +kernel
theorem dX9_carry_131 : decode cX9_carry 131 = .ok (.iload_n 2, 1) := by decide +kernel
theorem dX9_carry_132 : decode cX9_carry 132 = .ok (.iaload, 1) := by decide +kernel
theorem dX9_carry_133 : decode cX9_carry 133 = .ok (.goto 9, 3) := by decide +kernel
theorem dX9_carry_136 : decode cX9_carry 136 = .ok (.aload_n 0, 1) := by decide +kernel
theorem dX9_carry_137 : decode cX9_carry 137 = .ok (.getfield 19, 3) := by decide +kernel
theorem dX9_carry_140 : decode cX9_carry 140 = .ok (.iload_n 3, 1) := by decide +kernel
theorem dX9_carry_141 : decode cX9_carry 141 = .ok (.iaload, 1) := by decide +kernel
theorem dX9_carry_142 : decode cX9_carry 142 = .ok (.iastore, 1) := by decide +kernel
theorem dX9_carry_143 : decode cX9_carry 143 = .ok (.aload_n 0, 1) := by decide +kernel
theorem dX9_carry_144 : decode cX9_carry 144 = .ok (.getfield 19, 3) := by decide +kernel
theorem dX9_carry_147 : decode cX9_carry 147 = .ok (.iload_n 3, 1) := by decide +kernel
theorem dX9_carry_148 : decode cX9_carry 148 = .ok (.aload_n 0, 1) := by decide +kernel
theorem dX9_carry_149 : decode cX9_carry 149 = .ok (.getfield 69, 3) := by decide +kernel
theorem dX9_carry_152 : decode cX9_carry 152 = .ok (.iload_n 2, 1) := by decide +kernel
theorem dX9_carry_153 : decode cX9_carry 153 = .ok (.iaload, 1) := by decide +kernel
theorem dX9_carry_154 : decode cX9_carry 154 = .ok (.iastore, 1) := by decide +kernel
theorem dX9_carry_155 : decode cX9_carry 155 = .ok (.iinc 2 1, 3) := by decide +kernel
theorem dX9_carry_158 : decode cX9_carry 158 = .ok (.iinc 3 1, 3) := by decide +kernel
theorem dX9_carry_161 : decode cX9_carry 161 = .ok (.goto (-49), 3) := by decide +kernel
theorem dX9_carry_164 : decode cX9_carry 164 = .ok (.aload_n 0, 1) := by decide +kernel
theorem dX9_carry_165 : decode cX9_carry 165 = .ok (.getfield 69, 3) := by decide +kernel
theorem dX9_carry_168 : decode cX9_carry 168 = .ok (.iload_n 2, 1) := by decide +kernel
theorem dX9_carry_169 : decode cX9_carry 169 = .ok (.iload_n 1, 1) := by decide +kernel
theorem dX9_carry_170 : decode cX9_carry 170 = .ok (.ifCond .eq 12, 3) := by decide +kernel
theorem dX9_carry_173 : decode cX9_carry 173 = .ok (.aload_n 0, 1) := by decide +kernel
theorem dX9_carry_174 : decode cX9_carry 174 = .ok (.getfield 69, 3) := by decide +kernel
theorem dX9_carry_177 : decode cX9_carry 177 = .ok (.iload_n 2, 1) := by decide +kernel
theorem dX9_carry_178 : decode cX9_carry 178 = .ok (.iaload, 1) := by decide +kernel
theorem dX9_carry_179 : decode cX9_carry 179 = .ok (.goto 7, 3) := by decide +kernel
theorem dX9_carry_182 : decode cX9_carry 182 = .ok (.aload_n 0, 1) := by decide +kernel
theorem dX9_carry_183 : decode cX9_carry 183 = .ok (.getfield 87, 3) := by decide +kernel
theorem dX9_carry_186 : decode cX9_carry 186 = .ok (.iastore, 1) := by decide +kernel
theorem dX9_carry_187 : decode cX9_carry 187 = .ok (.aload_n 0, 1) := by decide +kernel
theorem dX9_carry_188 : decode cX9_carry 188 = .ok (.aload_n 0, 1) := by decide +kernel
theorem dX9_carry_189 : decode cX9_carry 189 = .ok (.getfield 69, 3) := by decide +kernel
theorem dX9_carry_192 : decode cX9_carry 192 = .ok (.iload_n 2, 1) := by decide +kernel
theorem dX9_carry_193 : decode cX9_carry 193 = .ok (.iaload, 1) := by decide +kernel
theorem dX9_carry_194 : decode cX9_carry 194 = .ok (.putfield 87, 3) := by decide +kernel
theorem dX9_carry_197 : decode cX9_carry 197 = .ok (.aload_n 0, 1) := by decide +kernel
theorem dX9_carry_198 : decode cX9_carry 198 = .ok (.getfield 69, 3) := by decide +kernel
theorem dX9_carry_201 : decode cX9_carry 201 = .ok (.iload_n 2, 1) := by decide +kernel
theorem dX9_carry_202 : decode cX9_carry 202 = .ok (.iconst 1, 1) := by decide +kernel
theorem dX9_carry_203 : decode cX9_carry 203 = .ok (.iadd, 1) := by decide +kernel
theorem dX9_carry_204 : decode cX9_carry 204 = .ok (.iload_n 1, 1) := by decide +kernel
theorem dX9_carry_205 : decode cX9_carry 205 = .ok (.ifCond .eq 14, 3) := by decide +kernel
theorem dX9_carry_208 : decode cX9_carry 208 = .ok (.aload_n 0, 1) := by decide +kernel
theorem dX9_carry_209 : decode cX9_carry 209 = .ok (.getfield 69, 3) := by decide +kernel
theorem dX9_carry_212 : decode cX9_carry 212 = .ok (.iload_n 2, 1) := by decide +kernel
theorem dX9_carry_213 : decode cX9_carry 213 = .ok (.iconst 1, 1) := by decide +kernel
theorem dX9_carry_214 : decode cX9_carry 214 = .ok (.iadd, 1) := by decide +kernel
theorem dX9_carry_215 : decode cX9_carry 215 = .ok (.iaload, 1) := by decide +kernel
theorem dX9_carry_216 : decode cX9_carry 216 = .ok (.goto 7, 3) := by decide +kernel
theorem dX9_carry_219 : decode cX9_carry 219 = .ok (.aload_n 0, 1) := by decide +kernel
theorem dX9_carry_220 : decode cX9_carry 220 = .ok (.getfield 91, 3) := by decide +kernel
theorem dX9_carry_223 : decode cX9_carry 223 = .ok (.iastore, 1) := by decide +kernel
theorem dX9_carry_224 : decode cX9_carry 224 = .ok (.aload_n 0, 1) := by decide +kernel
theorem dX9_carry_225 : decode cX9_carry 225 = .ok (.aload_n 0, 1) := by decide +kernel
theorem dX9_carry_226 : decode cX9_carry 226 = .ok (.getfield 69, 3) := by decide +kernel
theorem dX9_carry_229 : decode cX9_carry 229 = .ok (.iload_n 2, 1) := by decide +kernel
theorem dX9_carry_230 : decode cX9_carry 230 = .ok (.iconst 1, 1) := by decide +kernel
theorem dX9_carry_231 : decode cX9_carry 231 = .ok (.iadd, 1) := by decide +kernel
theorem dX9_carry_232 : decode cX9_carry 232 = .ok (.iaload, 1) := by decide +kernel
theorem dX9_carry_233 : decode cX9_carry 233 = .ok (.putfield 91, 3) := by decide +kernel
theorem dX9_carry_236 : decode cX9_carry 236 = .ok (.aload_n 0, 1) := by decide +kernel
theorem dX9_carry_237 : decode cX9_carry 237 = .ok (.getfield 69, 3) := by decide +kernel
theorem dX9_carry_240 : decode cX9_carry 240 = .ok (.iload_n 2, 1) := by decide +kernel
theorem dX9_carry_241 : decode cX9_carry 241 = .ok (.iconst 2, 1) := by decide +kernel
theorem dX9_carry_242 : decode cX9_carry 242 = .ok (.iadd, 1) := by decide +kernel
theorem dX9_carry_243 : decode cX9_carry 243 = .ok (.iload_n 1, 1) := by decide +kernel
theorem dX9_carry_244 : decode cX9_carry 244 = .ok (.ifCond .eq 14, 3) := by decide +kernel
theorem dX9_carry_247 : decode cX9_carry 247 = .ok (.aload_n 0, 1) := by decide +kernel
theorem dX9_carry_248 : decode cX9_carry 248 = .ok (.getfield 69, 3) := by decide +kernel
theorem dX9_carry_251 : decode cX9_carry 251 = .ok (.iload_n 2, 1) := by decide +kernel
theorem dX9_carry_252 : decode cX9_carry 252 = .ok (.iconst 2, 1) := by decide +kernel
theorem dX9_carry_253 : decode cX9_carry 253 = .ok (.iadd, 1) := by decide +kernel
theorem dX9_carry_254 : decode cX9_carry 254 = .ok (.iaload, 1) := by decide +kernel
theorem dX9_carry_255 : decode cX9_carry 255 = .ok (.goto 9, 3) := by decide +kernel
theorem dX9_carry_258 : decode cX9_carry 258 = .ok (.aload_n 0, 1) := by decide +kernel
theorem dX9_carry_259 : decode cX9_carry 259 = .ok (.getfield 22, 3) := by decide +kernel
theorem dX9_carry_262 : decode cX9_carry 262 = .ok (.iconst 0, 1) := by decide +kernel
theorem dX9_carry_263 : decode cX9_carry 263 = .ok (.iaload, 1) := by decide +kernel
theorem dX9_carry_264 : decode cX9_carry 264 = .ok (.iastore, 1) := by decide +kernel
theorem dX9_carry_265 : decode cX9_carry 265 = .ok (.aload_n 0, 1) := by decide +kernel
theorem dX9_carry_266 : decode cX9_carry 266 = .ok (.getfield 22, 3) := by decide +kernel
theorem dX9_carry_269 : decode cX9_carry 269 = .ok (.iconst 0, 1) := by decide +kernel
theorem dX9_carry_270 : decode cX9_carry 270 = .ok (.aload_n 0, 1) := by decide +kernel
theorem dX9_carry_271 : decode cX9_carry 271 = .ok (.getfield 69, 3) := by decide +kernel
theorem dX9_carry_274 : decode cX9_carry 274 = .ok (.iload_n 2, 1) := by decide +kernel
theorem dX9_carry_275 : decode cX9_carry 275 = .ok (.iconst 2, 1) := by decide +kernel
theorem dX9_carry_276 : decode cX9_carry 276 = .ok (.iadd, 1) := by decide +kernel
theorem dX9_carry_277 : decode cX9_carry 277 = .ok (.iaload, 1) := by decide +kernel
theorem dX9_carry_278 : decode cX9_carry 278 = .ok (.iastore, 1) := by decide +kernel
theorem dX9_carry_279 : decode cX9_carry 279 = .ok (.aload_n 0, 1) := by decide +kernel
theorem dX9_carry_280 : decode cX9_carry 280 = .ok (.getfield 69, 3) := by decide +kernel
theorem dX9_carry_283 : decode cX9_carry 283 = .ok (.iload_n 2, 1) := by decide +kernel
theorem dX9_carry_284 : decode cX9_carry 284 = .ok (.iconst 3, 1) := by decide +kernel
theorem dX9_carry_285 : decode cX9_carry 285 = .ok (.iadd, 1) := by decide +kernel
theorem dX9_carry_286 : decode cX9_carry 286 = .ok (.iload_n 1, 1) := by decide +kernel
theorem dX9_carry_287 : decode cX9_carry 287 = .ok (.ifCond .eq 14, 3) := by decide +kernel
theorem dX9_carry_290 : decode cX9_carry 290 = .ok (.aload_n 0, 1) := by decide +kernel
theorem dX9_carry_291 : decode cX9_carry 291 = .ok (.getfield 69, 3) := by decide +kernel
theorem dX9_carry_294 : decode cX9_carry 294 = .ok (.iload_n 2, 1) := by decide +kernel
theorem dX9_carry_295 : decode cX9_carry 295 = .ok (.iconst 3, 1) := by decide +kernel
theorem dX9_carry_296 : decode cX9_carry 296 = .ok (.iadd, 1) := by decide +kernel
theorem dX9_carry_297 : decode cX9_carry 297 = .ok (.iaload, 1) := by decide +kernel
theorem dX9_carry_298 : decode cX9_carry 298 = .ok (.goto 9, 3) := by decide +kernel
theorem dX9_carry_301 : decode cX9_carry 301 = .ok (.aload_n 0, 1) := by decide +kernel
theorem dX9_carry_302 : decode cX9_carry 302 = .ok (.getfield 22, 3) := by decide +kernel
theorem dX9_carry_305 : decode cX9_carry 305 = .ok (.iconst 1, 1) := by decide +kernel
theorem dX9_carry_306 : decode cX9_carry 306 = .ok (.iaload, 1) := by decide +kernel
theorem dX9_carry_307 : decode cX9_carry 307 = .ok (.iastore, 1) := by decide +kernel
theorem dX9_carry_308 : decode cX9_carry 308 = .ok (.aload_n 0, 1) := by decide +kernel
theorem dX9_carry_309 : decode cX9_carry 309 = .ok (.getfield 22, 3) := by decide +kernel
theorem dX9_carry_312 : decode cX9_carry 312 = .ok (.iconst 1, 1) := by decide +kernel
theorem dX9_carry_313 : decode cX9_carry 313 = .ok (.aload_n 0, 1) := by decide +kernel
theorem dX9_carry_314 : decode cX9_carry 314 = .ok (.getfield 69, 3) := by decide +kernel
theorem dX9_carry_317 : decode cX9_carry 317 = .ok (.iload_n 2, 1) := by decide +kernel
end
section
theorem dX9_carry_318 : decode cX9_carry 318 = .ok (.iconst 3, 1) := by decide +kernel
theorem dX9_carry_319 : decode cX9_carry 319 = .ok (.iadd, 1) := by decide +kernel
theorem dX9_carry_320 : decode cX9_carry 320 = .ok (.iaload, 1) := by decide +kernel
theorem dX9_carry_321 : decode cX9_carry 321 = .ok (.iastore, 1) := by decide +kernel
theorem dX9_carry_322 : decode cX9_carry 322 = .ok (.return_, 1) := by decide +kernel
theorem dX9_image_0 : decode cX9_image 0 = .ok (.aload_n 0, 1) := by decide +kernel
theorem dX9_image_1 : decode cX9_image 1 = .ok (.iconst 0, 1) := by decide +kernel
theorem dX9_image_2 : decode cX9_image 2 = .ok (.invokevirtual 213, 3) := by decide +kernel
theorem dX9_image_5 : decode cX9_image 5 = .ok (.aload_n 0, 1) := by decide +kernel
theorem dX9_image_6 : decode cX9_image 6 = .ok (.iconst 1, 1) := by decide +kernel
theorem dX9_image_7 : decode cX9_image 7 = .ok (.putfield 217, 3) := by decide +kernel
theorem dX9_image_10 : decode cX9_image 10 = .ok (.iconst 1, 1) := by decide +kernel
theorem dX9_image_11 : decode cX9_image 11 = .ok (.ireturn, 1) := by decide +kernel
theorem dX9_restore_0 : decode cX9_restore 0 = .ok (.aload_n 0, 1) := by decide +kernel
theorem dX9_restore_1 : decode cX9_restore 1 = .ok (.getfield 217, 3) := by decide +kernel
theorem dX9_restore_4 : decode cX9_restore 4 = .ok (.ifCond .ne 6, 3) := by decide +kernel
theorem dX9_restore_7 : decode cX9_restore 7 = .ok (.bipush (-4), 2) := by decide +kernel
theorem dX9_restore_9 : decode cX9_restore 9 = .ok (.ireturn, 1) := by decide +kernel
theorem dX9_restore_10 : decode cX9_restore 10 = .ok (.aload_n 0, 1) := by decide +kernel
theorem dX9_restore_11 : decode cX9_restore 11 = .ok (.iconst 1, 1) := by decide +kernel
theorem dX9_restore_12 : decode cX9_restore 12 = .ok (.invokevirtual 213, 3) := by decide +kernel
theorem dX9_restore_15 : decode cX9_restore 15 = .ok (.iconst 1, 1) := by decide +kernel
theorem dX9_restore_16 : decode cX9_restore 16 = .ok (.ireturn, 1) := by decide +kernel
theorem dX9_isSheet_0 : decode cX9_isSheet 0 = .ok (.iload_n 0, 1) := by decide +kernel
theorem dX9_isSheet_1 : decode cX9_isSheet 1 = .ok (.i2l, 1) := by decide +kernel
theorem dX9_isSheet_2 : decode cX9_isSheet 2 = .ok (.lconst 0, 1) := by decide +kernel
theorem dX9_isSheet_3 : decode cX9_isSheet 3 = .ok (.ldc2_w 116, 3) := by decide +kernel
theorem dX9_isSheet_6 : decode cX9_isSheet 6 = .ok (.invokestatic 83, 3) := by decide +kernel
theorem dX9_isSheet_9 : decode cX9_isSheet 9 = .ok (.ifCond .eq 19, 3) := by decide +kernel
theorem dX9_isSheet_12 : decode cX9_isSheet 12 = .ok (.iload_n 1, 1) := by decide +kernel
theorem dX9_isSheet_13 : decode cX9_isSheet 13 = .ok (.i2l, 1) := by decide +kernel
theorem dX9_isSheet_14 : decode cX9_isSheet 14 = .ok (.lconst 0, 1) := by decide +kernel
theorem dX9_isSheet_15 : decode cX9_isSheet 15 = .ok (.ldc2_w 193, 3) := by decide +kernel
theorem dX9_isSheet_18 : decode cX9_isSheet 18 = .ok (.invokestatic 83, 3) := by decide +kernel
theorem dX9_isSheet_21 : decode cX9_isSheet 21 = .ok (.ifCond .eq 7, 3) := by decide +kernel
theorem dX9_isSheet_24 : decode cX9_isSheet 24 = .ok (.iconst 1, 1) := by decide +kernel
theorem dX9_isSheet_25 : decode cX9_isSheet 25 = .ok (.goto 4, 3) := by decide +kernel
theorem dX9_isSheet_28 : decode cX9_isSheet 28 = .ok (.iconst 0, 1) := by decide +kernel
theorem dX9_isSheet_29 : decode cX9_isSheet 29 = .ok (.ireturn, 1) := by decide +kernel
theorem dX9_sheet_0 : decode cX9_sheet 0 = .ok (.iload_n 1, 1) := by decide +kernel
theorem dX9_sheet_1 : decode cX9_sheet 1 = .ok (.iload_n 2, 1) := by decide +kernel
theorem dX9_sheet_2 : decode cX9_sheet 2 = .ok (.invokestatic 221, 3) := by decide +kernel
theorem dX9_sheet_5 : decode cX9_sheet 5 = .ok (.ifCond .eq 9, 3) := by decide +kernel
theorem dX9_sheet_8 : decode cX9_sheet 8 = .ok (.iload_n 3, 1) := by decide +kernel
theorem dX9_sheet_9 : decode cX9_sheet 9 = .ok (.bipush 24, 2) := by decide +kernel
theorem dX9_sheet_11 : decode cX9_sheet 11 = .ok (.if_icmp .le 5, 3) := by decide +kernel
theorem dX9_sheet_14 : decode cX9_sheet 14 = .ok (.iconst (-1), 1) := by decide +kernel
theorem dX9_sheet_15 : decode cX9_sheet 15 = .ok (.ireturn, 1) := by decide +kernel
theorem dX9_sheet_16 : decode cX9_sheet 16 = .ok (.iload_n 3, 1) := by decide +kernel
theorem dX9_sheet_17 : decode cX9_sheet 17 = .ok (.ifCond .ge 6, 3) := by decide +kernel
theorem dX9_sheet_20 : decode cX9_sheet 20 = .ok (.bipush (-14), 2) := by decide +kernel
theorem dX9_sheet_22 : decode cX9_sheet 22 = .ok (.ireturn, 1) := by decide +kernel
theorem dX9_sheet_23 : decode cX9_sheet 23 = .ok (.aload_n 0, 1) := by decide +kernel
theorem dX9_sheet_24 : decode cX9_sheet 24 = .ok (.getfield 72, 3) := by decide +kernel
theorem dX9_sheet_27 : decode cX9_sheet 27 = .ok (.iload_n 1, 1) := by decide +kernel
theorem dX9_sheet_28 : decode cX9_sheet 28 = .ok (.iload_n 2, 1) := by decide +kernel
theorem dX9_sheet_29 : decode cX9_sheet 29 = .ok (.iastore, 1) := by decide +kernel
theorem dX9_sheet_30 : decode cX9_sheet 30 = .ok (.aload_n 0, 1) := by decide +kernel
theorem dX9_sheet_31 : decode cX9_sheet 31 = .ok (.getfield 75, 3) := by decide +kernel
theorem dX9_sheet_34 : decode cX9_sheet 34 = .ok (.iload_n 1, 1) := by decide +kernel
theorem dX9_sheet_35 : decode cX9_sheet 35 = .ok (.iload_n 3, 1) := by decide +kernel
theorem dX9_sheet_36 : decode cX9_sheet 36 = .ok (.iastore, 1) := by decide +kernel
theorem dX9_sheet_37 : decode cX9_sheet 37 = .ok (.iconst 0, 1) := by decide +kernel
theorem dX9_sheet_38 : decode cX9_sheet 38 = .ok (.istore 4, 2) := by decide +kernel
theorem dX9_sheet_40 : decode cX9_sheet 40 = .ok (.iload 4, 2) := by decide +kernel
theorem dX9_sheet_42 : decode cX9_sheet 42 = .ok (.bipush 24, 2) := by decide +kernel
theorem dX9_sheet_44 : decode cX9_sheet 44 = .ok (.if_icmp .ge 22, 3) := by decide +kernel
theorem dX9_sheet_47 : decode cX9_sheet 47 = .ok (.aload_n 0, 1) := by decide +kernel
theorem dX9_sheet_48 : decode cX9_sheet 48 = .ok (.getfield 78, 3) := by decide +kernel
theorem dX9_sheet_51 : decode cX9_sheet 51 = .ok (.bipush 24, 2) := by decide +kernel
theorem dX9_sheet_53 : decode cX9_sheet 53 = .ok (.iload_n 1, 1) := by decide +kernel
theorem dX9_sheet_54 : decode cX9_sheet 54 = .ok (.imul, 1) := by decide +kernel
theorem dX9_sheet_55 : decode cX9_sheet 55 = .ok (.iload 4, 2) := by decide +kernel
theorem dX9_sheet_57 : decode cX9_sheet 57 = .ok (.iadd, 1) := by decide +kernel
theorem dX9_sheet_58 : decode cX9_sheet 58 = .ok (.iconst 0, 1) := by decide +kernel
theorem dX9_sheet_59 : decode cX9_sheet 59 = .ok (.iastore, 1) := by decide +kernel
theorem dX9_sheet_60 : decode cX9_sheet 60 = .ok (.iinc 4 1, 3) := by decide +kernel
theorem dX9_sheet_63 : decode cX9_sheet 63 = .ok (.goto (-23), 3) := by decide +kernel
theorem dX9_sheet_66 : decode cX9_sheet 66 = .ok (.iload_n 3, 1) := by decide +kernel
theorem dX9_sheet_67 : decode cX9_sheet 67 = .ok (.ireturn, 1) := by decide +kernel
theorem dX9_drop_0 : decode cX9_drop 0 = .ok (.iload_n 1, 1) := by decide +kernel
theorem dX9_drop_1 : decode cX9_drop 1 = .ok (.i2l, 1) := by decide +kernel
theorem dX9_drop_2 : decode cX9_drop 2 = .ok (.lconst 0, 1) := by decide +kernel
theorem dX9_drop_3 : decode cX9_drop 3 = .ok (.ldc2_w 116, 3) := by decide +kernel
theorem dX9_drop_6 : decode cX9_drop 6 = .ok (.invokestatic 83, 3) := by decide +kernel
theorem dX9_drop_9 : decode cX9_drop 9 = .ok (.ifCond .ne 5, 3) := by decide +kernel
theorem dX9_drop_12 : decode cX9_drop 12 = .ok (.iconst (-1), 1) := by decide +kernel
theorem dX9_drop_13 : decode cX9_drop 13 = .ok (.ireturn, 1) := by decide +kernel
theorem dX9_drop_14 : decode cX9_drop 14 = .ok (.aload_n 0, 1) := by decide +kernel
theorem dX9_drop_15 : decode cX9_drop 15 = .ok (.getfield 72, 3) := by decide +kernel
theorem dX9_drop_18 : decode cX9_drop 18 = .ok (.iload_n 1, 1) := by decide +kernel
theorem dX9_drop_19 : decode cX9_drop 19 = .ok (.iaload, 1) := by decide +kernel
theorem dX9_drop_20 : decode cX9_drop 20 = .ok (.ifCond .ge 6, 3) := by decide +kernel
theorem dX9_drop_23 : decode cX9_drop 23 = .ok (.bipush (-11), 2) := by decide +kernel
theorem dX9_drop_25 : decode cX9_drop 25 = .ok (.ireturn, 1) := by decide +kernel
theorem dX9_drop_26 : decode cX9_drop 26 = .ok (.aload_n 0, 1) := by decide +kernel
theorem dX9_drop_27 : decode cX9_drop 27 = .ok (.getfield 72, 3) := by decide +kernel
theorem dX9_drop_30 : decode cX9_drop 30 = .ok (.iload_n 1, 1) := by decide +kernel
theorem dX9_drop_31 : decode cX9_drop 31 = .ok (.iconst (-1), 1) := by decide +kernel
theorem dX9_drop_32 : decode cX9_drop 32 = .ok (.iastore, 1) := by decide +kernel
theorem dX9_drop_33 : decode cX9_drop 33 = .ok (.aload_n 0, 1) := by decide +kernel
theorem dX9_drop_34 : decode cX9_drop 34 = .ok (.getfield 75, 3) := by decide +kernel
theorem dX9_drop_37 : decode cX9_drop 37 = .ok (.iload_n 1, 1) := by decide +kernel
theorem dX9_drop_38 : decode cX9_drop 38 = .ok (.iaload, 1) := by decide +kernel
theorem dX9_drop_39 : decode cX9_drop 39 = .ok (.ireturn, 1) := by decide +kernel
theorem dX9_lacksRow_0 : decode cX9_lacksRow 0 = .ok (.aload_n 0, 1) := by decide +kernel
theorem dX9_lacksRow_1 : decode cX9_lacksRow 1 = .ok (.getfield 72, 3) := by decide +kernel
theorem dX9_lacksRow_4 : decode cX9_lacksRow 4 = .ok (.iload_n 1, 1) := by decide +kernel
theorem dX9_lacksRow_5 : decode cX9_lacksRow 5 = .ok (.iaload, 1) := by decide +kernel
theorem dX9_lacksRow_6 : decode cX9_lacksRow 6 = .ok (.iload_n 2, 1) := by decide +kernel
theorem dX9_lacksRow_7 : decode cX9_lacksRow 7 = .ok (.if_icmp .eq 20, 3) := by decide +kernel
theorem dX9_lacksRow_10 : decode cX9_lacksRow 10 = .ok (.aload_n 0, 1) := by decide +kernel
theorem dX9_lacksRow_11 : decode cX9_lacksRow 11 = .ok (.getfield 72, 3) := by decide +kernel
theorem dX9_lacksRow_14 : decode cX9_lacksRow 14 = .ok (.iload_n 1, 1) := by decide +kernel
theorem dX9_lacksRow_15 : decode cX9_lacksRow 15 = .ok (.iaload, 1) := by decide +kernel
theorem dX9_lacksRow_16 : decode cX9_lacksRow 16 = .ok (.ifCond .ge 8, 3) := by decide +kernel
theorem dX9_lacksRow_19 : decode cX9_lacksRow 19 = .ok (.bipush (-11), 2) := by decide +kernel
theorem dX9_lacksRow_21 : decode cX9_lacksRow 21 = .ok (.goto 5, 3) := by decide +kernel
theorem dX9_lacksRow_24 : decode cX9_lacksRow 24 = .ok (.bipush (-12), 2) := by decide +kernel
theorem dX9_lacksRow_26 : decode cX9_lacksRow 26 = .ok (.ireturn, 1) := by decide +kernel
theorem dX9_lacksRow_27 : decode cX9_lacksRow 27 = .ok (.iload_n 3, 1) := by decide +kernel
theorem dX9_lacksRow_28 : decode cX9_lacksRow 28 = .ok (.i2l, 1) := by decide +kernel
theorem dX9_lacksRow_29 : decode cX9_lacksRow 29 = .ok (.lconst 0, 1) := by decide +kernel
theorem dX9_lacksRow_30 : decode cX9_lacksRow 30 = .ok (.aload_n 0, 1) := by decide +kernel
theorem dX9_lacksRow_31 : decode cX9_lacksRow 31 = .ok (.getfield 75, 3) := by decide +kernel
theorem dX9_lacksRow_34 : decode cX9_lacksRow 34 = .ok (.iload_n 1, 1) := by decide +kernel
theorem dX9_lacksRow_35 : decode cX9_lacksRow 35 = .ok (.iaload, 1) := by decide +kernel
theorem dX9_lacksRow_36 : decode cX9_lacksRow 36 = .ok (.iload 4, 2) := by decide +kernel
theorem dX9_lacksRow_38 : decode cX9_lacksRow 38 = .ok (.isub, 1) := by decide +kernel
theorem dX9_lacksRow_39 : decode cX9_lacksRow 39 = .ok (.i2l, 1) := by decide +kernel
theorem dX9_lacksRow_40 : decode cX9_lacksRow 40 = .ok (.invokestatic 83, 3) := by decide +kernel
theorem dX9_lacksRow_43 : decode cX9_lacksRow 43 = .ok (.ifCond .eq 7, 3) := by decide +kernel
theorem dX9_lacksRow_46 : decode cX9_lacksRow 46 = .ok (.iconst 0, 1) := by decide +kernel
theorem dX9_lacksRow_47 : decode cX9_lacksRow 47 = .ok (.goto 5, 3) := by decide +kernel
theorem dX9_lacksRow_50 : decode cX9_lacksRow 50 = .ok (.bipush (-13), 2) := by decide +kernel
theorem dX9_lacksRow_52 : decode cX9_lacksRow 52 = .ok (.ireturn, 1) := by decide +kernel
theorem dX9_item_0 : decode cX9_item 0 = .ok (.iload_n 1, 1) := by decide +kernel
theorem dX9_item_1 : decode cX9_item 1 = .ok (.iload_n 2, 1) := by decide +kernel
theorem dX9_item_2 : decode cX9_item 2 = .ok (.invokestatic 221, 3) := by decide +kernel
theorem dX9_item_5 : decode cX9_item 5 = .ok (.ifCond .ne 5, 3) := by decide +kernel
theorem dX9_item_8 : decode cX9_item 8 = .ok (.iconst (-1), 1) := by decide +kernel
theorem dX9_item_9 : decode cX9_item 9 = .ok (.ireturn, 1) := by decide +kernel
theorem dX9_item_10 : decode cX9_item 10 = .ok (.aload_n 0, 1) := by decide +kernel
theorem dX9_item_11 : decode cX9_item 11 = .ok (.iload_n 1, 1) := by decide +kernel
theorem dX9_item_12 : decode cX9_item 12 = .ok (.iload_n 2, 1) := by decide +kernel
theorem dX9_item_13 : decode cX9_item 13 = .ok (.iload_n 3, 1) := by decide +kernel
theorem dX9_item_14 : decode cX9_item 14 = .ok (.iconst 1, 1) := by decide +kernel
theorem dX9_item_15 : decode cX9_item 15 = .ok (.invokevirtual 224, 3) := by decide +kernel
theorem dX9_item_18 : decode cX9_item 18 = .ok (.istore 5, 2) := by decide +kernel
theorem dX9_item_20 : decode cX9_item 20 = .ok (.iload 5, 2) := by decide +kernel
theorem dX9_item_22 : decode cX9_item 22 = .ok (.ifCond .ge 6, 3) := by decide +kernel
theorem dX9_item_25 : decode cX9_item 25 = .ok (.iload 5, 2) := by decide +kernel
theorem dX9_item_27 : decode cX9_item 27 = .ok (.ireturn, 1) := by decide +kernel
theorem dX9_item_28 : decode cX9_item 28 = .ok (.aload_n 0, 1) := by decide +kernel
theorem dX9_item_29 : decode cX9_item 29 = .ok (.getfield 78, 3) := by decide +kernel
theorem dX9_item_32 : decode cX9_item 32 = .ok (.bipush 24, 2) := by decide +kernel
theorem dX9_item_34 : decode cX9_item 34 = .ok (.iload_n 1, 1) := by decide +kernel
theorem dX9_item_35 : decode cX9_item 35 = .ok (.imul, 1) := by decide +kernel
theorem dX9_item_36 : decode cX9_item 36 = .ok (.iload_n 3, 1) := by decide +kernel
theorem dX9_item_37 : decode cX9_item 37 = .ok (.iadd, 1) := by decide +kernel
theorem dX9_item_38 : decode cX9_item 38 = .ok (.iload_n 2, 1) := by decide +kernel
theorem dX9_item_39 : decode cX9_item 39 = .ok (.ifCond .ne 14, 3) := by decide +kernel
theorem dX9_item_42 : decode cX9_item 42 = .ok (.iload 4, 2) := by decide +kernel
theorem dX9_item_44 : decode cX9_item 44 = .ok (.bipush 24, 2) := by decide +kernel
theorem dX9_item_46 : decode cX9_item 46 = .ok (.ishl, 1) := by decide +kernel
theorem dX9_item_47 : decode cX9_item 47 = .ok (.bipush 24, 2) := by decide +kernel
theorem dX9_item_49 : decode cX9_item 49 = .ok (.ishr, 1) := by decide +kernel
theorem dX9_item_50 : decode cX9_item 50 = .ok (.goto 21, 3) := by decide +kernel
theorem dX9_item_53 : decode cX9_item 53 = .ok (.iload_n 2, 1) := by decide +kernel
theorem dX9_item_54 : decode cX9_item 54 = .ok (.iconst 1, 1) := by decide +kernel
theorem dX9_item_55 : decode cX9_item 55 = .ok (.if_icmp .ne 14, 3) := by decide +kernel
theorem dX9_item_58 : decode cX9_item 58 = .ok (.iload 4, 2) := by decide +kernel
theorem dX9_item_60 : decode cX9_item 60 = .ok (.bipush 16, 2) := by decide +kernel
theorem dX9_item_62 : decode cX9_item 62 = .ok (.ishl, 1) := by decide +kernel
theorem dX9_item_63 : decode cX9_item 63 = .ok (.bipush 16, 2) := by decide +kernel
theorem dX9_item_65 : decode cX9_item 65 = .ok (.ishr, 1) := by decide +kernel
theorem dX9_item_66 : decode cX9_item 66 = .ok (.goto 5, 3) := by decide +kernel
theorem dX9_item_69 : decode cX9_item 69 = .ok (.iload 4, 2) := by decide +kernel
theorem dX9_item_71 : decode cX9_item 71 = .ok (.iastore, 1) := by decide +kernel
theorem dX9_item_72 : decode cX9_item 72 = .ok (.iconst 1, 1) := by decide +kernel
theorem dX9_item_73 : decode cX9_item 73 = .ok (.ireturn, 1) := by decide +kernel
theorem dX9_pays_0 : decode cX9_pays 0 = .ok (.iload_n 1, 1) := by decide +kernel
theorem dX9_pays_1 : decode cX9_pays 1 = .ok (.iload_n 2, 1) := by decide +kernel
theorem dX9_pays_2 : decode cX9_pays 2 = .ok (.invokestatic 221, 3) := by decide +kernel
theorem dX9_pays_5 : decode cX9_pays 5 = .ok (.ifCond .eq 16, 3) := by decide +kernel
theorem dX9_pays_8 : decode cX9_pays 8 = .ok (.iload 4, 2) := by decide +kernel
theorem dX9_pays_10 : decode cX9_pays 10 = .ok (.i2l, 1) := by decide +kernel
theorem dX9_pays_11 : decode cX9_pays 11 = .ok (.lconst 0, 1) := by decide +kernel
theorem dX9_pays_12 : decode cX9_pays 12 = .ok (.ldc2_w 227, 3) := by decide +kernel
theorem dX9_pays_15 : decode cX9_pays 15 = .ok (.invokestatic 83, 3) := by decide +kernel
theorem dX9_pays_18 : decode cX9_pays 18 = .ok (.ifCond .ne 5, 3) := by decide +kernel
theorem dX9_pays_21 : decode cX9_pays 21 = .ok (.iconst (-1), 1) := by decide +kernel
theorem dX9_pays_22 : decode cX9_pays 22 = .ok (.ireturn, 1) := by decide +kernel
theorem dX9_pays_23 : decode cX9_pays 23 = .ok (.aload_n 0, 1) := by decide +kernel
theorem dX9_pays_24 : decode cX9_pays 24 = .ok (.iload_n 1, 1) := by decide +kernel
theorem dX9_pays_25 : decode cX9_pays 25 = .ok (.iload_n 2, 1) := by decide +kernel
theorem dX9_pays_26 : decode cX9_pays 26 = .ok (.iload_n 3, 1) := by decide +kernel
theorem dX9_pays_27 : decode cX9_pays 27 = .ok (.iconst 2, 1) := by decide +kernel
theorem dX9_pays_28 : decode cX9_pays 28 = .ok (.iload 4, 2) := by decide +kernel
theorem dX9_pays_30 : decode cX9_pays 30 = .ok (.imul, 1) := by decide +kernel
theorem dX9_pays_31 : decode cX9_pays 31 = .ok (.invokevirtual 224, 3) := by decide +kernel
theorem dX9_pays_34 : decode cX9_pays 34 = .ok (.istore 5, 2) := by decide +kernel
theorem dX9_pays_36 : decode cX9_pays 36 = .ok (.iload 5, 2) := by decide +kernel
theorem dX9_pays_38 : decode cX9_pays 38 = .ok (.ifCond .ge 6, 3) := by decide +kernel
theorem dX9_pays_41 : decode cX9_pays 41 = .ok (.iload 5, 2) := by decide +kernel
theorem dX9_pays_43 : decode cX9_pays 43 = .ok (.ireturn, 1) := by decide +kernel
theorem dX9_pays_44 : decode cX9_pays 44 = .ok (.bipush 24, 2) := by decide +kernel
theorem dX9_pays_46 : decode cX9_pays 46 = .ok (.iload_n 1, 1) := by decide +kernel
theorem dX9_pays_47 : decode cX9_pays 47 = .ok (.imul, 1) := by decide +kernel
theorem dX9_pays_48 : decode cX9_pays 48 = .ok (.iload_n 3, 1) := by decide +kernel
theorem dX9_pays_49 : decode cX9_pays 49 = .ok (.iadd, 1) := by decide +kernel
theorem dX9_pays_50 : decode cX9_pays 50 = .ok (.istore 6, 2) := by decide +kernel
theorem dX9_pays_52 : decode cX9_pays 52 = .ok (.iconst 0, 1) := by decide +kernel
theorem dX9_pays_53 : decode cX9_pays 53 = .ok (.istore 7, 2) := by decide +kernel
theorem dX9_pays_55 : decode cX9_pays 55 = .ok (.iload 7, 2) := by decide +kernel
theorem dX9_pays_57 : decode cX9_pays 57 = .ok (.iload 4, 2) := by decide +kernel
theorem dX9_pays_59 : decode cX9_pays 59 = .ok (.if_icmp .ge 55, 3) := by decide +kernel
theorem dX9_pays_62 : decode cX9_pays 62 = .ok (.aload_n 0, 1) := by decide +kernel
theorem dX9_pays_63 : decode cX9_pays 63 = .ok (.getfield 78, 3) := by decide +kernel
theorem dX9_pays_66 : decode cX9_pays 66 = .ok (.iload 6, 2) := by decide +kernel
theorem dX9_pays_68 : decode cX9_pays 68 = .ok (.iconst 2, 1) := by decide +kernel
theorem dX9_pays_69 : decode cX9_pays 69 = .ok (.iload 7, 2) := by decide +kernel
theorem dX9_pays_71 : decode cX9_pays 71 = .ok (.imul, 1) := by decide +kernel
theorem dX9_pays_72 : decode cX9_pays 72 = .ok (.iadd, 1) := by decide +kernel
theorem dX9_pays_73 : decode cX9_pays 73 = .ok (.iaload, 1) := by decide +kernel
theorem dX9_pays_74 : decode cX9_pays 74 = .ok (.invokestatic 96, 3) := by decide +kernel
theorem dX9_pays_77 : decode cX9_pays 77 = .ok (.ifCond .eq 28, 3) := by decide +kernel
theorem dX9_pays_80 : decode cX9_pays 80 = .ok (.aload_n 0, 1) := by decide +kernel
theorem dX9_pays_81 : decode cX9_pays 81 = .ok (.getfield 78, 3) := by decide +kernel
theorem dX9_pays_84 : decode cX9_pays 84 = .ok (.iload 6, 2) := by decide +kernel
theorem dX9_pays_86 : decode cX9_pays 86 = .ok (.iconst 2, 1) := by decide +kernel
theorem dX9_pays_87 : decode cX9_pays 87 = .ok (.iload 7, 2) := by decide +kernel
theorem dX9_pays_89 : decode cX9_pays 89 = .ok (.imul, 1) := by decide +kernel
theorem dX9_pays_90 : decode cX9_pays 90 = .ok (.iadd, 1) := by decide +kernel
theorem dX9_pays_91 : decode cX9_pays 91 = .ok (.iconst 1, 1) := by decide +kernel
theorem dX9_pays_92 : decode cX9_pays 92 = .ok (.iadd, 1) := by decide +kernel
theorem dX9_pays_93 : decode cX9_pays 93 = .ok (.iaload, 1) := by decide +kernel
theorem dX9_pays_94 : decode cX9_pays 94 = .ok (.i2l, 1) := by decide +kernel
theorem dX9_pays_95 : decode cX9_pays 95 = .ok (.lconst 1, 1) := by decide +kernel
theorem dX9_pays_96 : decode cX9_pays 96 = .ok (.ldc2_w 94, 3) := by decide +kernel
theorem dX9_pays_99 : decode cX9_pays 99 = .ok (.invokestatic 83, 3) := by decide +kernel
theorem dX9_pays_102 : decode cX9_pays 102 = .ok (.ifCond .ne 6, 3) := by decide +kernel
theorem dX9_pays_105 : decode cX9_pays 105 = .ok (.bipush (-2), 2) := by decide +kernel
theorem dX9_pays_107 : decode cX9_pays 107 = .ok (.ireturn, 1) := by decide +kernel
theorem dX9_pays_108 : decode cX9_pays 108 = .ok (.iinc 7 1, 3) := by decide +kernel
theorem dX9_pays_111 : decode cX9_pays 111 = .ok (.goto (-56), 3) := by decide +kernel
theorem dX9_pays_114 : decode cX9_pays 114 = .ok (.aload_n 0, 1) := by decide +kernel
theorem dX9_pays_115 : decode cX9_pays 115 = .ok (.getfield 91, 3) := by decide +kernel
theorem dX9_pays_118 : decode cX9_pays 118 = .ok (.iload 4, 2) := by decide +kernel
theorem dX9_pays_120 : decode cX9_pays 120 = .ok (.iadd, 1) := by decide +kernel
theorem dX9_pays_121 : decode cX9_pays 121 = .ok (.bipush 12, 2) := by decide +kernel
theorem dX9_pays_123 : decode cX9_pays 123 = .ok (.if_icmp .le 6, 3) := by decide +kernel
theorem dX9_pays_126 : decode cX9_pays 126 = .ok (.bipush (-3), 2) := by decide +kernel
theorem dX9_pays_128 : decode cX9_pays 128 = .ok (.ireturn, 1) := by decide +kernel
theorem dX9_pays_129 : decode cX9_pays 129 = .ok (.iconst 0, 1) := by decide +kernel
theorem dX9_pays_130 : decode cX9_pays 130 = .ok (.istore 7, 2) := by decide +kernel
theorem dX9_pays_132 : decode cX9_pays 132 = .ok (.iload 7, 2) := by decide +kernel
theorem dX9_pays_134 : decode cX9_pays 134 = .ok (.iload 4, 2) := by decide +kernel
theorem dX9_pays_136 : decode cX9_pays 136 = .ok (.if_icmp .ge 39, 3) := by decide +kernel
theorem dX9_pays_139 : decode cX9_pays 139 = .ok (.aload_n 0, 1) := by decide +kernel
theorem dX9_pays_140 : decode cX9_pays 140 = .ok (.aload_n 0, 1) := by decide +kernel
theorem dX9_pays_141 : decode cX9_pays 141 = .ok (.getfield 78, 3) := by decide +kernel
theorem dX9_pays_144 : decode cX9_pays 144 = .ok (.iload 6, 2) := by decide +kernel
theorem dX9_pays_146 : decode cX9_pays 146 = .ok (.iconst 2, 1) := by decide +kernel
theorem dX9_pays_147 : decode cX9_pays 147 = .ok (.iload 7, 2) := by decide +kernel
theorem dX9_pays_149 : decode cX9_pays 149 = .ok (.imul, 1) := by decide +kernel
theorem dX9_pays_150 : decode cX9_pays 150 = .ok (.iadd, 1) := by decide +kernel
theorem dX9_pays_151 : decode cX9_pays 151 = .ok (.iaload, 1) := by decide +kernel
theorem dX9_pays_152 : decode cX9_pays 152 = .ok (.aload_n 0, 1) := by decide +kernel
theorem dX9_pays_153 : decode cX9_pays 153 = .ok (.getfield 78, 3) := by decide +kernel
theorem dX9_pays_156 : decode cX9_pays 156 = .ok (.iload 6, 2) := by decide +kernel
theorem dX9_pays_158 : decode cX9_pays 158 = .ok (.iconst 2, 1) := by decide +kernel
theorem dX9_pays_159 : decode cX9_pays 159 = .ok (.iload 7, 2) := by decide +kernel
theorem dX9_pays_161 : decode cX9_pays 161 = .ok (.imul, 1) := by decide +kernel
theorem dX9_pays_162 : decode cX9_pays 162 = .ok (.iadd, 1) := by decide +kernel
theorem dX9_pays_163 : decode cX9_pays 163 = .ok (.iconst 1, 1) := by decide +kernel
theorem dX9_pays_164 : decode cX9_pays 164 = .ok (.iadd, 1) := by decide +kernel
theorem dX9_pays_165 : decode cX9_pays 165 = .ok (.iaload, 1) := by decide +kernel
theorem dX9_pays_166 : decode cX9_pays 166 = .ok (.invokevirtual 109, 3) := by decide +kernel
theorem dX9_pays_169 : decode cX9_pays 169 = .ok (.iinc 7 1, 3) := by decide +kernel
theorem dX9_pays_172 : decode cX9_pays 172 = .ok (.goto (-40), 3) := by decide +kernel
theorem dX9_pays_175 : decode cX9_pays 175 = .ok (.iload 4, 2) := by decide +kernel
theorem dX9_pays_177 : decode cX9_pays 177 = .ok (.ireturn, 1) := by decide +kernel
theorem dX9_judge_0 : decode cX9_judge 0 = .ok (.iload_n 1, 1) := by decide +kernel
theorem dX9_judge_1 : decode cX9_judge 1 = .ok (.invokestatic 129, 3) := by decide +kernel
theorem dX9_judge_4 : decode cX9_judge 4 = .ok (.ifCond .eq 19, 3) := by decide +kernel
theorem dX9_judge_7 : decode cX9_judge 7 = .ok (.iload_n 2, 1) := by decide +kernel
theorem dX9_judge_8 : decode cX9_judge 8 = .ok (.invokestatic 96, 3) := by decide +kernel
theorem dX9_judge_11 : decode cX9_judge 11 = .ok (.ifCond .eq 12, 3) := by decide +kernel
theorem dX9_judge_14 : decode cX9_judge 14 = .ok (.iload_n 3, 1) := by decide +kernel
theorem dX9_judge_15 : decode cX9_judge 15 = .ok (.iload 4, 2) := by decide +kernel
theorem dX9_judge_17 : decode cX9_judge 17 = .ok (.invokestatic 221, 3) := by decide +kernel
theorem dX9_judge_20 : decode cX9_judge 20 = .ok (.ifCond .ne 5, 3) := by decide +kernel
theorem dX9_judge_23 : decode cX9_judge 23 = .ok (.iconst (-1), 1) := by decide +kernel
theorem dX9_judge_24 : decode cX9_judge 24 = .ok (.ireturn, 1) := by decide +kernel
theorem dX9_judge_25 : decode cX9_judge 25 = .ok (.aload_n 0, 1) := by decide +kernel
theorem dX9_judge_26 : decode cX9_judge 26 = .ok (.iload_n 3, 1) := by decide +kernel
theorem dX9_judge_27 : decode cX9_judge 27 = .ok (.iload 4, 2) := by decide +kernel
theorem dX9_judge_29 : decode cX9_judge 29 = .ok (.iload 5, 2) := by decide +kernel
theorem dX9_judge_31 : decode cX9_judge 31 = .ok (.aload_n 0, 1) := by decide +kernel
theorem dX9_judge_32 : decode cX9_judge 32 = .ok (.getfield 87, 3) := by decide +kernel
theorem dX9_judge_35 : decode cX9_judge 35 = .ok (.invokevirtual 224, 3) := by decide +kernel
theorem dX9_judge_38 : decode cX9_judge 38 = .ok (.istore 6, 2) := by decide +kernel
theorem dX9_judge_40 : decode cX9_judge 40 = .ok (.iload 6, 2) := by decide +kernel
theorem dX9_judge_42 : decode cX9_judge 42 = .ok (.ifCond .ge 6, 3) := by decide +kernel
theorem dX9_judge_45 : decode cX9_judge 45 = .ok (.iload 6, 2) := by decide +kernel
theorem dX9_judge_47 : decode cX9_judge 47 = .ok (.ireturn, 1) := by decide +kernel
theorem dX9_judge_48 : decode cX9_judge 48 = .ok (.aload_n 0, 1) := by decide +kernel
theorem dX9_judge_49 : decode cX9_judge 49 = .ok (.iload_n 1, 1) := by decide +kernel
theorem dX9_judge_50 : decode cX9_judge 50 = .ok (.iload_n 2, 1) := by decide +kernel
theorem dX9_judge_51 : decode cX9_judge 51 = .ok (.invokevirtual 186, 3) := by decide +kernel
theorem dX9_judge_54 : decode cX9_judge 54 = .ok (.iconst 0, 1) := by decide +kernel
theorem dX9_judge_55 : decode cX9_judge 55 = .ok (.istore 7, 2) := by decide +kernel
theorem dX9_judge_57 : decode cX9_judge 57 = .ok (.iload 7, 2) := by decide +kernel
theorem dX9_judge_59 : decode cX9_judge 59 = .ok (.aload_n 0, 1) := by decide +kernel
theorem dX9_judge_60 : decode cX9_judge 60 = .ok (.getfield 87, 3) := by decide +kernel
theorem dX9_judge_63 : decode cX9_judge 63 = .ok (.if_icmp .ge 42, 3) := by decide +kernel
theorem dX9_judge_66 : decode cX9_judge 66 = .ok (.aload_n 0, 1) := by decide +kernel
theorem dX9_judge_67 : decode cX9_judge 67 = .ok (.iload 7, 2) := by decide +kernel
theorem dX9_judge_69 : decode cX9_judge 69 = .ok (.invokevirtual 137, 3) := by decide +kernel
theorem dX9_judge_72 : decode cX9_judge 72 = .ok (.ldc2_w 135, 3) := by decide +kernel
theorem dX9_judge_75 : decode cX9_judge 75 = .ok (.ldiv, 1) := by decide +kernel
theorem dX9_judge_76 : decode cX9_judge 76 = .ok (.aload_n 0, 1) := by decide +kernel
theorem dX9_judge_77 : decode cX9_judge 77 = .ok (.getfield 78, 3) := by decide +kernel
theorem dX9_judge_80 : decode cX9_judge 80 = .ok (.bipush 24, 2) := by decide +kernel
theorem dX9_judge_82 : decode cX9_judge 82 = .ok (.iload_n 3, 1) := by decide +kernel
theorem dX9_judge_83 : decode cX9_judge 83 = .ok (.imul, 1) := by decide +kernel
theorem dX9_judge_84 : decode cX9_judge 84 = .ok (.iload 5, 2) := by decide +kernel
theorem dX9_judge_86 : decode cX9_judge 86 = .ok (.iadd, 1) := by decide +kernel
theorem dX9_judge_87 : decode cX9_judge 87 = .ok (.iload 7, 2) := by decide +kernel
theorem dX9_judge_89 : decode cX9_judge 89 = .ok (.iadd, 1) := by decide +kernel
theorem dX9_judge_90 : decode cX9_judge 90 = .ok (.iaload, 1) := by decide +kernel
theorem dX9_judge_91 : decode cX9_judge 91 = .ok (.i2l, 1) := by decide +kernel
theorem dX9_judge_92 : decode cX9_judge 92 = .ok (.lcmp, 1) := by decide +kernel
theorem dX9_judge_93 : decode cX9_judge 93 = .ok (.ifCond .eq 6, 3) := by decide +kernel
theorem dX9_judge_96 : decode cX9_judge 96 = .ok (.iload 7, 2) := by decide +kernel
theorem dX9_judge_98 : decode cX9_judge 98 = .ok (.ireturn, 1) := by decide +kernel
theorem dX9_judge_99 : decode cX9_judge 99 = .ok (.iinc 7 1, 3) := by decide +kernel
theorem dX9_judge_102 : decode cX9_judge 102 = .ok (.goto (-45), 3) := by decide +kernel
theorem dX9_judge_105 : decode cX9_judge 105 = .ok (.bipush (-4), 2) := by decide +kernel
theorem dX9_judge_107 : decode cX9_judge 107 = .ok (.ireturn, 1) := by decide +kernel
theorem dJ11_isValidCodePoint_9a6ad_0 : decode cJ11_isValidCodePoint_9a6ad 0 = .ok (.iload_n 0, 1) := by decide +kernel
theorem dJ11_isValidCodePoint_9a6ad_1 : decode cJ11_isValidCodePoint_9a6ad 1 = .ok (.bipush 16, 2) := by decide +kernel
theorem dJ11_isValidCodePoint_9a6ad_3 : decode cJ11_isValidCodePoint_9a6ad 3 = .ok (.iushr, 1) := by decide +kernel
theorem dJ11_isValidCodePoint_9a6ad_4 : decode cJ11_isValidCodePoint_9a6ad 4 = .ok (.istore_n 1, 1) := by decide +kernel
theorem dJ11_isValidCodePoint_9a6ad_5 : decode cJ11_isValidCodePoint_9a6ad 5 = .ok (.iload_n 1, 1) := by decide +kernel
theorem dJ11_isValidCodePoint_9a6ad_6 : decode cJ11_isValidCodePoint_9a6ad 6 = .ok (.bipush 17, 2) := by decide +kernel
theorem dJ11_isValidCodePoint_9a6ad_8 : decode cJ11_isValidCodePoint_9a6ad 8 = .ok (.if_icmp .ge 7, 3) := by decide +kernel
theorem dJ11_isValidCodePoint_9a6ad_11 : decode cJ11_isValidCodePoint_9a6ad 11 = .ok (.iconst 1, 1) := by decide +kernel
theorem dJ11_isValidCodePoint_9a6ad_12 : decode cJ11_isValidCodePoint_9a6ad 12 = .ok (.goto 4, 3) := by decide +kernel
theorem dJ11_isValidCodePoint_9a6ad_15 : decode cJ11_isValidCodePoint_9a6ad 15 = .ok (.iconst 0, 1) := by decide +kernel
theorem dJ11_isValidCodePoint_9a6ad_16 : decode cJ11_isValidCodePoint_9a6ad 16 = .ok (.ireturn, 1) := by decide +kernel
theorem dJ11_highSurrogate_5068e_0 : decode cJ11_highSurrogate_5068e 0 = .ok (.iload_n 0, 1) := by decide +kernel
theorem dJ11_highSurrogate_5068e_1 : decode cJ11_highSurrogate_5068e 1 = .ok (.bipush 10, 2) := by decide +kernel
theorem dJ11_highSurrogate_5068e_3 : decode cJ11_highSurrogate_5068e 3 = .ok (.iushr, 1) := by decide +kernel
theorem dJ11_highSurrogate_5068e_4 : decode cJ11_highSurrogate_5068e 4 = .ok (.ldc 110, 2) := by decide +kernel
theorem dJ11_highSurrogate_5068e_6 : decode cJ11_highSurrogate_5068e 6 = .ok (.iadd, 1) := by decide +kernel
theorem dJ11_highSurrogate_5068e_7 : decode cJ11_highSurrogate_5068e 7 = .ok (.i2c, 1) := by decide +kernel
theorem dJ11_highSurrogate_5068e_8 : decode cJ11_highSurrogate_5068e 8 = .ok (.ireturn, 1) := by decide +kernel
theorem dJ11_lowSurrogate_5068e_0 : decode cJ11_lowSurrogate_5068e 0 = .ok (.iload_n 0, 1) := by decide +kernel
theorem dJ11_lowSurrogate_5068e_1 : decode cJ11_lowSurrogate_5068e 1 = .ok (.sipush 1023, 3) := by decide +kernel
theorem dJ11_lowSurrogate_5068e_4 : decode cJ11_lowSurrogate_5068e 4 = .ok (.iand, 1) := by decide +kernel
theorem dJ11_lowSurrogate_5068e_5 : decode cJ11_lowSurrogate_5068e 5 = .ok (.ldc 76, 2) := by decide +kernel
theorem dJ11_lowSurrogate_5068e_7 : decode cJ11_lowSurrogate_5068e 7 = .ok (.iadd, 1) := by decide +kernel
theorem dJ11_lowSurrogate_5068e_8 : decode cJ11_lowSurrogate_5068e 8 = .ok (.i2c, 1) := by decide +kernel
theorem dJ11_lowSurrogate_5068e_9 : decode cJ11_lowSurrogate_5068e 9 = .ok (.ireturn, 1) := by decide +kernel
theorem dJ6_compare_7cf53_0 : decode cJ6_compare_7cf53 0 = .ok (.iload_n 0, 1) := by decide +kernel
theorem dJ6_compare_7cf53_1 : decode cJ6_compare_7cf53 1 = .ok (.iload_n 1, 1) := by decide +kernel
theorem dJ6_compare_7cf53_2 : decode cJ6_compare_7cf53 2 = .ok (.if_icmp .ge 7, 3) := by decide +kernel
theorem dJ6_compare_7cf53_5 : decode cJ6_compare_7cf53 5 = .ok (.iconst (-1), 1) := by decide +kernel
theorem dJ6_compare_7cf53_6 : decode cJ6_compare_7cf53 6 = .ok (.goto 13, 3) := by decide +kernel
theorem dJ6_compare_7cf53_9 : decode cJ6_compare_7cf53 9 = .ok (.iload_n 0, 1) := by decide +kernel
theorem dJ6_compare_7cf53_10 : decode cJ6_compare_7cf53 10 = .ok (.iload_n 1, 1) := by decide +kernel
theorem dJ6_compare_7cf53_11 : decode cJ6_compare_7cf53 11 = .ok (.if_icmp .ne 7, 3) := by decide +kernel
theorem dJ6_compare_7cf53_14 : decode cJ6_compare_7cf53 14 = .ok (.iconst 0, 1) := by decide +kernel
theorem dJ6_compare_7cf53_15 : decode cJ6_compare_7cf53 15 = .ok (.goto 4, 3) := by decide +kernel
theorem dJ6_compare_7cf53_18 : decode cJ6_compare_7cf53 18 = .ok (.iconst 1, 1) := by decide +kernel
theorem dJ6_compare_7cf53_19 : decode cJ6_compare_7cf53 19 = .ok (.ireturn, 1) := by decide +kernel
theorem dJ13_compare_74951_0 : decode cJ13_compare_74951 0 = .ok (.lload_n 0, 1) := by decide +kernel
theorem dJ13_compare_74951_1 : decode cJ13_compare_74951 1 = .ok (.lload_n 2, 1) := by decide +kernel
theorem dJ13_compare_74951_2 : decode cJ13_compare_74951 2 = .ok (.lcmp, 1) := by decide +kernel
theorem dJ13_compare_74951_3 : decode cJ13_compare_74951 3 = .ok (.ifCond .ge 7, 3) := by decide +kernel
theorem dJ13_compare_74951_6 : decode cJ13_compare_74951 6 = .ok (.iconst (-1), 1) := by decide +kernel
theorem dJ13_compare_74951_7 : decode cJ13_compare_74951 7 = .ok (.goto 14, 3) := by decide +kernel
theorem dJ13_compare_74951_10 : decode cJ13_compare_74951 10 = .ok (.lload_n 0, 1) := by decide +kernel
theorem dJ13_compare_74951_11 : decode cJ13_compare_74951 11 = .ok (.lload_n 2, 1) := by decide +kernel
theorem dJ13_compare_74951_12 : decode cJ13_compare_74951 12 = .ok (.lcmp, 1) := by decide +kernel
theorem dJ13_compare_74951_13 : decode cJ13_compare_74951 13 = .ok (.ifCond .ne 7, 3) := by decide +kernel
theorem dJ13_compare_74951_16 : decode cJ13_compare_74951 16 = .ok (.iconst 0, 1) := by decide +kernel
theorem dJ13_compare_74951_17 : decode cJ13_compare_74951 17 = .ok (.goto 4, 3) := by decide +kernel
theorem dJ13_compare_74951_20 : decode cJ13_compare_74951 20 = .ok (.iconst 1, 1) := by decide +kernel
theorem dJ13_compare_74951_21 : decode cJ13_compare_74951 21 = .ok (.ireturn, 1) := by decide +kernel
theorem dJ9_max_7cf53_0 : decode cJ9_max_7cf53 0 = .ok (.iload_n 0, 1) := by decide +kernel
theorem dJ9_max_7cf53_1 : decode cJ9_max_7cf53 1 = .ok (.iload_n 1, 1) := by decide +kernel
theorem dJ9_max_7cf53_2 : decode cJ9_max_7cf53 2 = .ok (.if_icmp .lt 7, 3) := by decide +kernel
theorem dJ9_max_7cf53_5 : decode cJ9_max_7cf53 5 = .ok (.iload_n 0, 1) := by decide +kernel
theorem dJ9_max_7cf53_6 : decode cJ9_max_7cf53 6 = .ok (.goto 4, 3) := by decide +kernel
theorem dJ9_max_7cf53_9 : decode cJ9_max_7cf53 9 = .ok (.iload_n 1, 1) := by decide +kernel
theorem dJ9_max_7cf53_10 : decode cJ9_max_7cf53 10 = .ok (.ireturn, 1) := by decide +kernel
theorem dJ9_max_f86c9_0 : decode cJ9_max_f86c9 0 = .ok (.lload_n 0, 1) := by decide +kernel
theorem dJ9_max_f86c9_1 : decode cJ9_max_f86c9 1 = .ok (.lload_n 2, 1) := by decide +kernel
theorem dJ9_max_f86c9_2 : decode cJ9_max_f86c9 2 = .ok (.lcmp, 1) := by decide +kernel
theorem dJ9_max_f86c9_3 : decode cJ9_max_f86c9 3 = .ok (.ifCond .lt 7, 3) := by decide +kernel
theorem dJ9_max_f86c9_6 : decode cJ9_max_f86c9 6 = .ok (.lload_n 0, 1) := by decide +kernel
theorem dJ9_max_f86c9_7 : decode cJ9_max_f86c9 7 = .ok (.goto 4, 3) := by decide +kernel
theorem dJ9_max_f86c9_10 : decode cJ9_max_f86c9 10 = .ok (.lload_n 2, 1) := by decide +kernel
theorem dJ9_max_f86c9_11 : decode cJ9_max_f86c9 11 = .ok (.lreturn, 1) := by decide +kernel
theorem dJ9_min_7cf53_0 : decode cJ9_min_7cf53 0 = .ok (.iload_n 0, 1) := by decide +kernel
theorem dJ9_min_7cf53_1 : decode cJ9_min_7cf53 1 = .ok (.iload_n 1, 1) := by decide +kernel
theorem dJ9_min_7cf53_2 : decode cJ9_min_7cf53 2 = .ok (.if_icmp .gt 7, 3) := by decide +kernel
theorem dJ9_min_7cf53_5 : decode cJ9_min_7cf53 5 = .ok (.iload_n 0, 1) := by decide +kernel
theorem dJ9_min_7cf53_6 : decode cJ9_min_7cf53 6 = .ok (.goto 4, 3) := by decide +kernel
theorem dJ9_min_7cf53_9 : decode cJ9_min_7cf53 9 = .ok (.iload_n 1, 1) := by decide +kernel
theorem dJ9_min_7cf53_10 : decode cJ9_min_7cf53 10 = .ok (.ireturn, 1) := by decide +kernel
theorem dJ9_min_f86c9_0 : decode cJ9_min_f86c9 0 = .ok (.lload_n 0, 1) := by decide +kernel
theorem dJ9_min_f86c9_1 : decode cJ9_min_f86c9 1 = .ok (.lload_n 2, 1) := by decide +kernel
theorem dJ9_min_f86c9_2 : decode cJ9_min_f86c9 2 = .ok (.lcmp, 1) := by decide +kernel
theorem dJ9_min_f86c9_3 : decode cJ9_min_f86c9 3 = .ok (.ifCond .gt 7, 3) := by decide +kernel
theorem dJ9_min_f86c9_6 : decode cJ9_min_f86c9 6 = .ok (.lload_n 0, 1) := by decide +kernel
theorem dJ9_min_f86c9_7 : decode cJ9_min_f86c9 7 = .ok (.goto 4, 3) := by decide +kernel
theorem dJ9_min_f86c9_10 : decode cJ9_min_f86c9 10 = .ok (.lload_n 2, 1) := by decide +kernel
theorem dJ9_min_f86c9_11 : decode cJ9_min_f86c9 11 = .ok (.lreturn, 1) := by decide +kernel
theorem dJ0_length_8abf5_0 : decode cJ0_length_8abf5 0 = .ok (.aload_n 0, 1) := by decide +kernel
theorem dJ0_length_8abf5_1 : decode cJ0_length_8abf5 1 = .ok (.getfield 9, 3) := by decide +kernel
theorem dJ0_length_8abf5_4 : decode cJ0_length_8abf5 4 = .ok (.arraylength, 1) := by decide +kernel
theorem dJ0_length_8abf5_5 : decode cJ0_length_8abf5 5 = .ok (.aload_n 0, 1) := by decide +kernel
theorem dJ0_length_8abf5_6 : decode cJ0_length_8abf5 6 = .ok (.invokevirtual 335, 3) := by decide +kernel
theorem dJ0_length_8abf5_9 : decode cJ0_length_8abf5 9 = .ok (.ishr, 1) := by decide +kernel
theorem dJ0_length_8abf5_10 : decode cJ0_length_8abf5 10 = .ok (.ireturn, 1) := by decide +kernel
theorem dJ0_indexOf_0f7a4_0 : decode cJ0_indexOf_0f7a4 0 = .ok (.aload_n 0, 1) := by decide +kernel
theorem dJ0_indexOf_0f7a4_1 : decode cJ0_indexOf_0f7a4 1 = .ok (.iload_n 1, 1) := by decide +kernel
theorem dJ0_indexOf_0f7a4_2 : decode cJ0_indexOf_0f7a4 2 = .ok (.iconst 0, 1) := by decide +kernel
theorem dJ0_indexOf_0f7a4_3 : decode cJ0_indexOf_0f7a4 3 = .ok (.invokevirtual 633, 3) := by decide +kernel
theorem dJ0_indexOf_0f7a4_6 : decode cJ0_indexOf_0f7a4 6 = .ok (.ireturn, 1) := by decide +kernel
theorem dJ0_indexOf_7cf53_0 : decode cJ0_indexOf_7cf53 0 = .ok (.aload_n 0, 1) := by decide +kernel
theorem dJ0_indexOf_7cf53_1 : decode cJ0_indexOf_7cf53 1 = .ok (.invokevirtual 492, 3) := by decide +kernel
theorem dJ0_indexOf_7cf53_4 : decode cJ0_indexOf_7cf53 4 = .ok (.ifCond .eq 19, 3) := by decide +kernel
theorem dJ0_indexOf_7cf53_7 : decode cJ0_indexOf_7cf53 7 = .ok (.aload_n 0, 1) := by decide +kernel
theorem dJ0_indexOf_7cf53_8 : decode cJ0_indexOf_7cf53 8 = .ok (.getfield 9, 3) := by decide +kernel
theorem dJ0_indexOf_7cf53_11 : decode cJ0_indexOf_7cf53 11 = .ok (.iload_n 1, 1) := by decide +kernel
theorem dJ0_indexOf_7cf53_12 : decode cJ0_indexOf_7cf53 12 = .ok (.iload_n 2, 1) := by decide +kernel
theorem dJ0_indexOf_7cf53_13 : decode cJ0_indexOf_7cf53 13 = .ok (.aload_n 0, 1) := by decide +kernel
theorem dJ0_indexOf_7cf53_14 : decode cJ0_indexOf_7cf53 14 = .ok (.invokevirtual 505, 3) := by decide +kernel
theorem dJ0_indexOf_7cf53_17 : decode cJ0_indexOf_7cf53 17 = .ok (.invokestatic 637, 3) := by decide +kernel
theorem dJ0_indexOf_7cf53_20 : decode cJ0_indexOf_7cf53 20 = .ok (.goto 16, 3) := by decide +kernel
theorem dJ0_indexOf_7cf53_23 : decode cJ0_indexOf_7cf53 23 = .ok (.aload_n 0, 1) := by decide +kernel
theorem dJ0_indexOf_7cf53_24 : decode cJ0_indexOf_7cf53 24 = .ok (.getfield 9, 3) := by decide +kernel
theorem dJ0_indexOf_7cf53_27 : decode cJ0_indexOf_7cf53 27 = .ok (.iload_n 1, 1) := by decide +kernel
theorem dJ0_indexOf_7cf53_28 : decode cJ0_indexOf_7cf53 28 = .ok (.iload_n 2, 1) := by decide +kernel
theorem dJ0_indexOf_7cf53_29 : decode cJ0_indexOf_7cf53 29 = .ok (.aload_n 0, 1) := by decide +kernel
theorem dJ0_indexOf_7cf53_30 : decode cJ0_indexOf_7cf53 30 = .ok (.invokevirtual 505, 3) := by decide +kernel
theorem dJ0_indexOf_7cf53_33 : decode cJ0_indexOf_7cf53 33 = .ok (.invokestatic 640, 3) := by decide +kernel
theorem dJ0_indexOf_7cf53_36 : decode cJ0_indexOf_7cf53 36 = .ok (.ireturn, 1) := by decide +kernel
theorem dJ0_coder_7d493_0 : decode cJ0_coder_7d493 0 = .ok (.getstatic 38, 3) := by decide +kernel
theorem dJ0_coder_7d493_3 : decode cJ0_coder_7d493 3 = .ok (.ifCond .eq 10, 3) := by decide +kernel
theorem dJ0_coder_7d493_6 : decode cJ0_coder_7d493 6 = .ok (.aload_n 0, 1) := by decide +kernel
theorem dJ0_coder_7d493_7 : decode cJ0_coder_7d493 7 = .ok (.getfield 15, 3) := by decide +kernel
theorem dJ0_coder_7d493_10 : decode cJ0_coder_7d493 10 = .ok (.goto 4, 3) := by decide +kernel
theorem dJ0_coder_7d493_13 : decode cJ0_coder_7d493 13 = .ok (.iconst 1, 1) := by decide +kernel
theorem dJ0_coder_7d493_14 : decode cJ0_coder_7d493 14 = .ok (.ireturn, 1) := by decide +kernel
theorem dJ0_isLatin1_aae02_0 : decode cJ0_isLatin1_aae02 0 = .ok (.getstatic 38, 3) := by decide +kernel
theorem dJ0_isLatin1_aae02_3 : decode cJ0_isLatin1_aae02 3 = .ok (.ifCond .eq 14, 3) := by decide +kernel
theorem dJ0_isLatin1_aae02_6 : decode cJ0_isLatin1_aae02 6 = .ok (.aload_n 0, 1) := by decide +kernel
theorem dJ0_isLatin1_aae02_7 : decode cJ0_isLatin1_aae02 7 = .ok (.getfield 15, 3) := by decide +kernel
theorem dJ0_isLatin1_aae02_10 : decode cJ0_isLatin1_aae02 10 = .ok (.ifCond .ne 7, 3) := by decide +kernel
theorem dJ0_isLatin1_aae02_13 : decode cJ0_isLatin1_aae02 13 = .ok (.iconst 1, 1) := by decide +kernel
theorem dJ0_isLatin1_aae02_14 : decode cJ0_isLatin1_aae02 14 = .ok (.goto 4, 3) := by decide +kernel
theorem dJ0_isLatin1_aae02_17 : decode cJ0_isLatin1_aae02 17 = .ok (.iconst 0, 1) := by decide +kernel
theorem dJ0_isLatin1_aae02_18 : decode cJ0_isLatin1_aae02 18 = .ok (.ireturn, 1) := by decide +kernel
theorem dJ0_checkBoundsBeginEnd_23922_0 : decode cJ0_checkBoundsBeginEnd_23922 0 = .ok (.iload_n 0, 1) := by decide +kernel
theorem dJ0_checkBoundsBeginEnd_23922_1 : decode cJ0_checkBoundsBeginEnd_23922 1 = .ok (.iload_n 1, 1) := by decide +kernel
theorem dJ0_checkBoundsBeginEnd_23922_2 : decode cJ0_checkBoundsBeginEnd_23922 2 = .ok (.iload_n 2, 1) := by decide +kernel
theorem dJ0_checkBoundsBeginEnd_23922_3 : decode cJ0_checkBoundsBeginEnd_23922 3 = .ok (.getstatic 1053, 3) := by decide +kernel
theorem dJ0_checkBoundsBeginEnd_23922_6 : decode cJ0_checkBoundsBeginEnd_23922 6 = .ok (.invokestatic 1062, 3) := by decide +kernel
theorem dJ0_checkBoundsBeginEnd_23922_9 : decode cJ0_checkBoundsBeginEnd_23922 9 = .ok (.pop, 1) := by decide +kernel
theorem dJ0_checkBoundsBeginEnd_23922_10 : decode cJ0_checkBoundsBeginEnd_23922 10 = .ok (.return_, 1) := by decide +kernel
theorem dJ1_canEncode_9a6ad_0 : decode cJ1_canEncode_9a6ad 0 = .ok (.iload_n 0, 1) := by decide +kernel
theorem dJ1_canEncode_9a6ad_1 : decode cJ1_canEncode_9a6ad 1 = .ok (.ifCond .lt 14, 3) := by decide +kernel
theorem dJ1_canEncode_9a6ad_4 : decode cJ1_canEncode_9a6ad 4 = .ok (.iload_n 0, 1) := by decide +kernel
theorem dJ1_canEncode_9a6ad_5 : decode cJ1_canEncode_9a6ad 5 = .ok (.sipush 255, 3) := by decide +kernel
theorem dJ1_canEncode_9a6ad_8 : decode cJ1_canEncode_9a6ad 8 = .ok (.if_icmp .gt 7, 3) := by decide +kernel
theorem dJ1_canEncode_9a6ad_11 : decode cJ1_canEncode_9a6ad 11 = .ok (.iconst 1, 1) := by decide +kernel
theorem dJ1_canEncode_9a6ad_12 : decode cJ1_canEncode_9a6ad 12 = .ok (.goto 4, 3) := by decide +kernel
theorem dJ1_canEncode_9a6ad_15 : decode cJ1_canEncode_9a6ad 15 = .ok (.iconst 0, 1) := by decide +kernel
theorem dJ1_canEncode_9a6ad_16 : decode cJ1_canEncode_9a6ad 16 = .ok (.ireturn, 1) := by decide +kernel
theorem dJ1_indexOf_4cfef_0 : decode cJ1_indexOf_4cfef 0 = .ok (.iload_n 1, 1) := by decide +kernel
theorem dJ1_indexOf_4cfef_1 : decode cJ1_indexOf_4cfef 1 = .ok (.invokestatic 88, 3) := by decide +kernel
theorem dJ1_indexOf_4cfef_4 : decode cJ1_indexOf_4cfef 4 = .ok (.ifCond .ne 5, 3) := by decide +kernel
theorem dJ1_indexOf_4cfef_7 : decode cJ1_indexOf_4cfef 7 = .ok (.iconst (-1), 1) := by decide +kernel
theorem dJ1_indexOf_4cfef_8 : decode cJ1_indexOf_4cfef 8 = .ok (.ireturn, 1) := by decide +kernel
theorem dJ1_indexOf_4cfef_9 : decode cJ1_indexOf_4cfef 9 = .ok (.iload_n 2, 1) := by decide +kernel
theorem dJ1_indexOf_4cfef_10 : decode cJ1_indexOf_4cfef 10 = .ok (.iconst 0, 1) := by decide +kernel
theorem dJ1_indexOf_4cfef_11 : decode cJ1_indexOf_4cfef 11 = .ok (.invokestatic 92, 3) := by decide +kernel
theorem dJ1_indexOf_4cfef_14 : decode cJ1_indexOf_4cfef 14 = .ok (.istore_n 2, 1) := by decide +kernel
theorem dJ1_indexOf_4cfef_15 : decode cJ1_indexOf_4cfef 15 = .ok (.iload_n 3, 1) := by decide +kernel
theorem dJ1_indexOf_4cfef_16 : decode cJ1_indexOf_4cfef 16 = .ok (.aload_n 0, 1) := by decide +kernel
theorem dJ1_indexOf_4cfef_17 : decode cJ1_indexOf_4cfef 17 = .ok (.arraylength, 1) := by decide +kernel
theorem dJ1_indexOf_4cfef_18 : decode cJ1_indexOf_4cfef 18 = .ok (.invokestatic 38, 3) := by decide +kernel
theorem dJ1_indexOf_4cfef_21 : decode cJ1_indexOf_4cfef 21 = .ok (.istore_n 3, 1) := by decide +kernel
theorem dJ1_indexOf_4cfef_22 : decode cJ1_indexOf_4cfef 22 = .ok (.iload_n 2, 1) := by decide +kernel
theorem dJ1_indexOf_4cfef_23 : decode cJ1_indexOf_4cfef 23 = .ok (.iload_n 3, 1) := by decide +kernel
theorem dJ1_indexOf_4cfef_24 : decode cJ1_indexOf_4cfef 24 = .ok (.if_icmp .lt 5, 3) := by decide +kernel
theorem dJ1_indexOf_4cfef_27 : decode cJ1_indexOf_4cfef 27 = .ok (.iconst (-1), 1) := by decide +kernel
theorem dJ1_indexOf_4cfef_28 : decode cJ1_indexOf_4cfef 28 = .ok (.ireturn, 1) := by decide +kernel
theorem dJ1_indexOf_4cfef_29 : decode cJ1_indexOf_4cfef 29 = .ok (.aload_n 0, 1) := by decide +kernel
theorem dJ1_indexOf_4cfef_30 : decode cJ1_indexOf_4cfef 30 = .ok (.iload_n 1, 1) := by decide +kernel
theorem dJ1_indexOf_4cfef_31 : decode cJ1_indexOf_4cfef 31 = .ok (.iload_n 2, 1) := by decide +kernel
theorem dJ1_indexOf_4cfef_32 : decode cJ1_indexOf_4cfef 32 = .ok (.iload_n 3, 1) := by decide +kernel
theorem dJ1_indexOf_4cfef_33 : decode cJ1_indexOf_4cfef 33 = .ok (.invokestatic 95, 3) := by decide +kernel
theorem dJ1_indexOf_4cfef_36 : decode cJ1_indexOf_4cfef 36 = .ok (.ireturn, 1) := by decide +kernel
theorem dJ1_indexOfChar_4cfef_0 : decode cJ1_indexOfChar_4cfef 0 = .ok (.iload_n 1, 1) := by decide +kernel
theorem dJ1_indexOfChar_4cfef_1 : decode cJ1_indexOfChar_4cfef 1 = .ok (.i2b, 1) := by decide +kernel
theorem dJ1_indexOfChar_4cfef_2 : decode cJ1_indexOfChar_4cfef 2 = .ok (.istore 4, 2) := by decide +kernel
theorem dJ1_indexOfChar_4cfef_4 : decode cJ1_indexOfChar_4cfef 4 = .ok (.iload_n 2, 1) := by decide +kernel
theorem dJ1_indexOfChar_4cfef_5 : decode cJ1_indexOfChar_4cfef 5 = .ok (.istore 5, 2) := by decide +kernel
theorem dJ1_indexOfChar_4cfef_7 : decode cJ1_indexOfChar_4cfef 7 = .ok (.iload 5, 2) := by decide +kernel
theorem dJ1_indexOfChar_4cfef_9 : decode cJ1_indexOfChar_4cfef 9 = .ok (.iload_n 3, 1) := by decide +kernel
theorem dJ1_indexOfChar_4cfef_10 : decode cJ1_indexOfChar_4cfef 10 = .ok (.if_icmp .ge 21, 3) := by decide +kernel
theorem dJ1_indexOfChar_4cfef_13 : decode cJ1_indexOfChar_4cfef 13 = .ok (.aload_n 0, 1) := by decide +kernel
theorem dJ1_indexOfChar_4cfef_14 : decode cJ1_indexOfChar_4cfef 14 = .ok (.iload 5, 2) := by decide +kernel
theorem dJ1_indexOfChar_4cfef_16 : decode cJ1_indexOfChar_4cfef 16 = .ok (.baload, 1) := by decide +kernel
theorem dJ1_indexOfChar_4cfef_17 : decode cJ1_indexOfChar_4cfef 17 = .ok (.iload 4, 2) := by decide +kernel
theorem dJ1_indexOfChar_4cfef_19 : decode cJ1_indexOfChar_4cfef 19 = .ok (.if_icmp .ne 6, 3) := by decide +kernel
theorem dJ1_indexOfChar_4cfef_22 : decode cJ1_indexOfChar_4cfef 22 = .ok (.iload 5, 2) := by decide +kernel
theorem dJ1_indexOfChar_4cfef_24 : decode cJ1_indexOfChar_4cfef 24 = .ok (.ireturn, 1) := by decide +kernel
theorem dJ1_indexOfChar_4cfef_25 : decode cJ1_indexOfChar_4cfef 25 = .ok (.iinc 5 1, 3) := by decide +kernel
theorem dJ1_indexOfChar_4cfef_28 : decode cJ1_indexOfChar_4cfef 28 = .ok (.goto (-21), 3) := by decide +kernel
theorem dJ1_indexOfChar_4cfef_31 : decode cJ1_indexOfChar_4cfef 31 = .ok (.iconst (-1), 1) := by decide +kernel
theorem dJ1_indexOfChar_4cfef_32 : decode cJ1_indexOfChar_4cfef 32 = .ok (.ireturn, 1) := by decide +kernel
theorem dJ2_getChar_3b067_0 : decode cJ2_getChar_3b067 0 = .ok (.getstatic 44, 3) := by decide +kernel
theorem dJ2_getChar_3b067_3 : decode cJ2_getChar_3b067 3 = .ok (.ifCond .ne 25, 3) := by decide +kernel
theorem dJ2_getChar_3b067_6 : decode cJ2_getChar_3b067 6 = .ok (.iload_n 1, 1) := by decide +kernel
theorem dJ2_getChar_3b067_7 : decode cJ2_getChar_3b067 7 = .ok (.ifCond .lt 11, 3) := by decide +kernel
theorem dJ2_getChar_3b067_10 : decode cJ2_getChar_3b067 10 = .ok (.iload_n 1, 1) := by decide +kernel
theorem dJ2_getChar_3b067_11 : decode cJ2_getChar_3b067 11 = .ok (.aload_n 0, 1) := by decide +kernel
theorem dJ2_getChar_3b067_12 : decode cJ2_getChar_3b067 12 = .ok (.invokestatic 48, 3) := by decide +kernel
theorem dJ2_getChar_3b067_15 : decode cJ2_getChar_3b067 15 = .ok (.if_icmp .lt 13, 3) := by decide +kernel
theorem dJ2_getChar_3b067_18 : decode cJ2_getChar_3b067 18 = .ok (.new 52, 3) := by decide +kernel
theorem dJ2_getChar_3b067_21 : decode cJ2_getChar_3b067 21 = .ok (.dup, 1) := by decide +kernel
theorem dJ2_getChar_3b067_22 : decode cJ2_getChar_3b067 22 = .ok (.ldc 54, 2) := by decide +kernel
theorem dJ2_getChar_3b067_24 : decode cJ2_getChar_3b067 24 = .ok (.invokespecial 56, 3) := by decide +kernel
theorem dJ2_getChar_3b067_27 : decode cJ2_getChar_3b067 27 = .ok (.athrow, 1) := by decide +kernel
theorem dJ2_getChar_3b067_28 : decode cJ2_getChar_3b067 28 = .ok (.iload_n 1, 1) := by decide +kernel
theorem dJ2_getChar_3b067_29 : decode cJ2_getChar_3b067 29 = .ok (.iconst 1, 1) := by decide +kernel
theorem dJ2_getChar_3b067_30 : decode cJ2_getChar_3b067 30 = .ok (.ishl, 1) := by decide +kernel
theorem dJ2_getChar_3b067_31 : decode cJ2_getChar_3b067 31 = .ok (.istore_n 1, 1) := by decide +kernel
theorem dJ2_getChar_3b067_32 : decode cJ2_getChar_3b067 32 = .ok (.aload_n 0, 1) := by decide +kernel
theorem dJ2_getChar_3b067_33 : decode cJ2_getChar_3b067 33 = .ok (.iload_n 1, 1) := by decide +kernel
theorem dJ2_getChar_3b067_34 : decode cJ2_getChar_3b067 34 = .ok (.iinc 1 1, 3) := by decide +kernel
theorem dJ2_getChar_3b067_37 : decode cJ2_getChar_3b067 37 = .ok (.baload, 1) := by decide +kernel
theorem dJ2_getChar_3b067_38 : decode cJ2_getChar_3b067 38 = .ok (.sipush 255, 3) := by decide +kernel
theorem dJ2_getChar_3b067_41 : decode cJ2_getChar_3b067 41 = .ok (.iand, 1) := by decide +kernel
theorem dJ2_getChar_3b067_42 : decode cJ2_getChar_3b067 42 = .ok (.getstatic 59, 3) := by decide +kernel
theorem dJ2_getChar_3b067_45 : decode cJ2_getChar_3b067 45 = .ok (.ishl, 1) := by decide +kernel
theorem dJ2_getChar_3b067_46 : decode cJ2_getChar_3b067 46 = .ok (.aload_n 0, 1) := by decide +kernel
theorem dJ2_getChar_3b067_47 : decode cJ2_getChar_3b067 47 = .ok (.iload_n 1, 1) := by decide +kernel
theorem dJ2_getChar_3b067_48 : decode cJ2_getChar_3b067 48 = .ok (.baload, 1) := by decide +kernel
theorem dJ2_getChar_3b067_49 : decode cJ2_getChar_3b067 49 = .ok (.sipush 255, 3) := by decide +kernel
theorem dJ2_getChar_3b067_52 : decode cJ2_getChar_3b067 52 = .ok (.iand, 1) := by decide +kernel
theorem dJ2_getChar_3b067_53 : decode cJ2_getChar_3b067 53 = .ok (.getstatic 63, 3) := by decide +kernel
theorem dJ2_getChar_3b067_56 : decode cJ2_getChar_3b067 56 = .ok (.ishl, 1) := by decide +kernel
theorem dJ2_getChar_3b067_57 : decode cJ2_getChar_3b067 57 = .ok (.ior, 1) := by decide +kernel
theorem dJ2_getChar_3b067_58 : decode cJ2_getChar_3b067 58 = .ok (.i2c, 1) := by decide +kernel
theorem dJ2_getChar_3b067_59 : decode cJ2_getChar_3b067 59 = .ok (.ireturn, 1) := by decide +kernel
theorem dJ2_length_9d52b_0 : decode cJ2_length_9d52b 0 = .ok (.aload_n 0, 1) := by decide +kernel
theorem dJ2_length_9d52b_1 : decode cJ2_length_9d52b 1 = .ok (.arraylength, 1) := by decide +kernel
theorem dJ2_length_9d52b_2 : decode cJ2_length_9d52b 2 = .ok (.iconst 1, 1) := by decide +kernel
theorem dJ2_length_9d52b_3 : decode cJ2_length_9d52b 3 = .ok (.ishr, 1) := by decide +kernel
theorem dJ2_length_9d52b_4 : decode cJ2_length_9d52b 4 = .ok (.ireturn, 1) := by decide +kernel
theorem dJ2_indexOf_4cfef_0 : decode cJ2_indexOf_4cfef 0 = .ok (.iload_n 2, 1) := by decide +kernel
theorem dJ2_indexOf_4cfef_1 : decode cJ2_indexOf_4cfef 1 = .ok (.iconst 0, 1) := by decide +kernel
theorem dJ2_indexOf_4cfef_2 : decode cJ2_indexOf_4cfef 2 = .ok (.invokestatic 224, 3) := by decide +kernel
theorem dJ2_indexOf_4cfef_5 : decode cJ2_indexOf_4cfef 5 = .ok (.istore_n 2, 1) := by decide +kernel
theorem dJ2_indexOf_4cfef_6 : decode cJ2_indexOf_4cfef 6 = .ok (.iload_n 3, 1) := by decide +kernel
theorem dJ2_indexOf_4cfef_7 : decode cJ2_indexOf_4cfef 7 = .ok (.aload_n 0, 1) := by decide +kernel
theorem dJ2_indexOf_4cfef_8 : decode cJ2_indexOf_4cfef 8 = .ok (.arraylength, 1) := by decide +kernel
theorem dJ2_indexOf_4cfef_9 : decode cJ2_indexOf_4cfef 9 = .ok (.iconst 1, 1) := by decide +kernel
theorem dJ2_indexOf_4cfef_10 : decode cJ2_indexOf_4cfef 10 = .ok (.ishr, 1) := by decide +kernel
theorem dJ2_indexOf_4cfef_11 : decode cJ2_indexOf_4cfef 11 = .ok (.invokestatic 183, 3) := by decide +kernel
theorem dJ2_indexOf_4cfef_14 : decode cJ2_indexOf_4cfef 14 = .ok (.istore_n 3, 1) := by decide +kernel
theorem dJ2_indexOf_4cfef_15 : decode cJ2_indexOf_4cfef 15 = .ok (.iload_n 2, 1) := by decide +kernel
theorem dJ2_indexOf_4cfef_16 : decode cJ2_indexOf_4cfef 16 = .ok (.iload_n 3, 1) := by decide +kernel
theorem dJ2_indexOf_4cfef_17 : decode cJ2_indexOf_4cfef 17 = .ok (.if_icmp .lt 5, 3) := by decide +kernel
theorem dJ2_indexOf_4cfef_20 : decode cJ2_indexOf_4cfef 20 = .ok (.iconst (-1), 1) := by decide +kernel
theorem dJ2_indexOf_4cfef_21 : decode cJ2_indexOf_4cfef 21 = .ok (.ireturn, 1) := by decide +kernel
theorem dJ2_indexOf_4cfef_22 : decode cJ2_indexOf_4cfef 22 = .ok (.iload_n 1, 1) := by decide +kernel
theorem dJ2_indexOf_4cfef_23 : decode cJ2_indexOf_4cfef 23 = .ok (.ldc 227, 2) := by decide +kernel
theorem dJ2_indexOf_4cfef_25 : decode cJ2_indexOf_4cfef 25 = .ok (.if_icmp .ge 11, 3) := by decide +kernel
theorem dJ2_indexOf_4cfef_28 : decode cJ2_indexOf_4cfef 28 = .ok (.aload_n 0, 1) := by decide +kernel
theorem dJ2_indexOf_4cfef_29 : decode cJ2_indexOf_4cfef 29 = .ok (.iload_n 1, 1) := by decide +kernel
theorem dJ2_indexOf_4cfef_30 : decode cJ2_indexOf_4cfef 30 = .ok (.iload_n 2, 1) := by decide +kernel
theorem dJ2_indexOf_4cfef_31 : decode cJ2_indexOf_4cfef 31 = .ok (.iload_n 3, 1) := by decide +kernel
theorem dJ2_indexOf_4cfef_32 : decode cJ2_indexOf_4cfef 32 = .ok (.invokestatic 228, 3) := by decide +kernel
theorem dJ2_indexOf_4cfef_35 : decode cJ2_indexOf_4cfef 35 = .ok (.ireturn, 1) := by decide +kernel
theorem dJ2_indexOf_4cfef_36 : decode cJ2_indexOf_4cfef 36 = .ok (.aload_n 0, 1) := by decide +kernel
theorem dJ2_indexOf_4cfef_37 : decode cJ2_indexOf_4cfef 37 = .ok (.iload_n 1, 1) := by decide +kernel
theorem dJ2_indexOf_4cfef_38 : decode cJ2_indexOf_4cfef 38 = .ok (.iload_n 2, 1) := by decide +kernel
theorem dJ2_indexOf_4cfef_39 : decode cJ2_indexOf_4cfef 39 = .ok (.iload_n 3, 1) := by decide +kernel
theorem dJ2_indexOf_4cfef_40 : decode cJ2_indexOf_4cfef 40 = .ok (.invokestatic 232, 3) := by decide +kernel
theorem dJ2_indexOf_4cfef_43 : decode cJ2_indexOf_4cfef 43 = .ok (.ireturn, 1) := by decide +kernel
theorem dJ2_indexOfChar_4cfef_0 : decode cJ2_indexOfChar_4cfef 0 = .ok (.iload_n 2, 1) := by decide +kernel
theorem dJ2_indexOfChar_4cfef_1 : decode cJ2_indexOfChar_4cfef 1 = .ok (.iload_n 3, 1) := by decide +kernel
theorem dJ2_indexOfChar_4cfef_2 : decode cJ2_indexOfChar_4cfef 2 = .ok (.aload_n 0, 1) := by decide +kernel
theorem dJ2_indexOfChar_4cfef_3 : decode cJ2_indexOfChar_4cfef 3 = .ok (.invokestatic 96, 3) := by decide +kernel
theorem dJ2_indexOfChar_4cfef_6 : decode cJ2_indexOfChar_4cfef 6 = .ok (.aload_n 0, 1) := by decide +kernel
theorem dJ2_indexOfChar_4cfef_7 : decode cJ2_indexOfChar_4cfef 7 = .ok (.iload_n 1, 1) := by decide +kernel
theorem dJ2_indexOfChar_4cfef_8 : decode cJ2_indexOfChar_4cfef 8 = .ok (.iload_n 2, 1) := by decide +kernel
theorem dJ2_indexOfChar_4cfef_9 : decode cJ2_indexOfChar_4cfef 9 = .ok (.iload_n 3, 1) := by decide +kernel
theorem dJ2_indexOfChar_4cfef_10 : decode cJ2_indexOfChar_4cfef 10 = .ok (.invokestatic 244, 3) := by decide +kernel
theorem dJ2_indexOfChar_4cfef_13 : decode cJ2_indexOfChar_4cfef 13 = .ok (.ireturn, 1) := by decide +kernel
theorem dJ2_indexOfCharUnsafe_4cfef_0 : decode cJ2_indexOfCharUnsafe_4cfef 0 = .ok (.iload_n 2, 1) := by decide +kernel
theorem dJ2_indexOfCharUnsafe_4cfef_1 : decode cJ2_indexOfCharUnsafe_4cfef 1 = .ok (.istore 4, 2) := by decide +kernel
theorem dJ2_indexOfCharUnsafe_4cfef_3 : decode cJ2_indexOfCharUnsafe_4cfef 3 = .ok (.iload 4, 2) := by decide +kernel
theorem dJ2_indexOfCharUnsafe_4cfef_5 : decode cJ2_indexOfCharUnsafe_4cfef 5 = .ok (.iload_n 3, 1) := by decide +kernel
theorem dJ2_indexOfCharUnsafe_4cfef_6 : decode cJ2_indexOfCharUnsafe_4cfef 6 = .ok (.if_icmp .ge 22, 3) := by decide +kernel
theorem dJ2_indexOfCharUnsafe_4cfef_9 : decode cJ2_indexOfCharUnsafe_4cfef 9 = .ok (.aload_n 0, 1) := by decide +kernel
theorem dJ2_indexOfCharUnsafe_4cfef_10 : decode cJ2_indexOfCharUnsafe_4cfef 10 = .ok (.iload 4, 2) := by decide +kernel
theorem dJ2_indexOfCharUnsafe_4cfef_12 : decode cJ2_indexOfCharUnsafe_4cfef 12 = .ok (.invokestatic 71, 3) := by decide +kernel
theorem dJ2_indexOfCharUnsafe_4cfef_15 : decode cJ2_indexOfCharUnsafe_4cfef 15 = .ok (.iload_n 1, 1) := by decide +kernel
theorem dJ2_indexOfCharUnsafe_4cfef_16 : decode cJ2_indexOfCharUnsafe_4cfef 16 = .ok (.if_icmp .ne 6, 3) := by decide +kernel
theorem dJ2_indexOfCharUnsafe_4cfef_19 : decode cJ2_indexOfCharUnsafe_4cfef 19 = .ok (.iload 4, 2) := by decide +kernel
theorem dJ2_indexOfCharUnsafe_4cfef_21 : decode cJ2_indexOfCharUnsafe_4cfef 21 = .ok (.ireturn, 1) := by decide +kernel
theorem dJ2_indexOfCharUnsafe_4cfef_22 : decode cJ2_indexOfCharUnsafe_4cfef 22 = .ok (.iinc 4 1, 3) := by decide +kernel
theorem dJ2_indexOfCharUnsafe_4cfef_25 : decode cJ2_indexOfCharUnsafe_4cfef 25 = .ok (.goto (-22), 3) := by decide +kernel
theorem dJ2_indexOfCharUnsafe_4cfef_28 : decode cJ2_indexOfCharUnsafe_4cfef 28 = .ok (.iconst (-1), 1) := by decide +kernel
theorem dJ2_indexOfCharUnsafe_4cfef_29 : decode cJ2_indexOfCharUnsafe_4cfef 29 = .ok (.ireturn, 1) := by decide +kernel
theorem dJ2_indexOfSupplementary_4cfef_0 : decode cJ2_indexOfSupplementary_4cfef 0 = .ok (.iload_n 1, 1) := by decide +kernel
theorem dJ2_indexOfSupplementary_4cfef_1 : decode cJ2_indexOfSupplementary_4cfef 1 = .ok (.invokestatic 164, 3) := by decide +kernel
theorem dJ2_indexOfSupplementary_4cfef_4 : decode cJ2_indexOfSupplementary_4cfef 4 = .ok (.ifCond .eq 65, 3) := by decide +kernel
theorem dJ2_indexOfSupplementary_4cfef_7 : decode cJ2_indexOfSupplementary_4cfef 7 = .ok (.iload_n 1, 1) := by decide +kernel
theorem dJ2_indexOfSupplementary_4cfef_8 : decode cJ2_indexOfSupplementary_4cfef 8 = .ok (.invokestatic 157, 3) := by decide +kernel
theorem dJ2_indexOfSupplementary_4cfef_11 : decode cJ2_indexOfSupplementary_4cfef 11 = .ok (.istore 4, 2) := by decide +kernel
theorem dJ2_indexOfSupplementary_4cfef_13 : decode cJ2_indexOfSupplementary_4cfef 13 = .ok (.iload_n 1, 1) := by decide +kernel
theorem dJ2_indexOfSupplementary_4cfef_14 : decode cJ2_indexOfSupplementary_4cfef 14 = .ok (.invokestatic 161, 3) := by decide +kernel
theorem dJ2_indexOfSupplementary_4cfef_17 : decode cJ2_indexOfSupplementary_4cfef 17 = .ok (.istore 5, 2) := by decide +kernel
theorem dJ2_indexOfSupplementary_4cfef_19 : decode cJ2_indexOfSupplementary_4cfef 19 = .ok (.iload_n 2, 1) := by decide +kernel
theorem dJ2_indexOfSupplementary_4cfef_20 : decode cJ2_indexOfSupplementary_4cfef 20 = .ok (.iload_n 3, 1) := by decide +kernel
theorem dJ2_indexOfSupplementary_4cfef_21 : decode cJ2_indexOfSupplementary_4cfef 21 = .ok (.aload_n 0, 1) := by decide +kernel
theorem dJ2_indexOfSupplementary_4cfef_22 : decode cJ2_indexOfSupplementary_4cfef 22 = .ok (.invokestatic 96, 3) := by decide +kernel
theorem dJ2_indexOfSupplementary_4cfef_25 : decode cJ2_indexOfSupplementary_4cfef 25 = .ok (.iload_n 2, 1) := by decide +kernel
theorem dJ2_indexOfSupplementary_4cfef_26 : decode cJ2_indexOfSupplementary_4cfef 26 = .ok (.istore 6, 2) := by decide +kernel
theorem dJ2_indexOfSupplementary_4cfef_28 : decode cJ2_indexOfSupplementary_4cfef 28 = .ok (.iload 6, 2) := by decide +kernel
theorem dJ2_indexOfSupplementary_4cfef_30 : decode cJ2_indexOfSupplementary_4cfef 30 = .ok (.iload_n 3, 1) := by decide +kernel
theorem dJ2_indexOfSupplementary_4cfef_31 : decode cJ2_indexOfSupplementary_4cfef 31 = .ok (.iconst 1, 1) := by decide +kernel
theorem dJ2_indexOfSupplementary_4cfef_32 : decode cJ2_indexOfSupplementary_4cfef 32 = .ok (.isub, 1) := by decide +kernel
theorem dJ2_indexOfSupplementary_4cfef_33 : decode cJ2_indexOfSupplementary_4cfef 33 = .ok (.if_icmp .ge 36, 3) := by decide +kernel
theorem dJ2_indexOfSupplementary_4cfef_36 : decode cJ2_indexOfSupplementary_4cfef 36 = .ok (.aload_n 0, 1) := by decide +kernel
theorem dJ2_indexOfSupplementary_4cfef_37 : decode cJ2_indexOfSupplementary_4cfef 37 = .ok (.iload 6, 2) := by decide +kernel
theorem dJ2_indexOfSupplementary_4cfef_39 : decode cJ2_indexOfSupplementary_4cfef 39 = .ok (.invokestatic 71, 3) := by decide +kernel
theorem dJ2_indexOfSupplementary_4cfef_42 : decode cJ2_indexOfSupplementary_4cfef 42 = .ok (.iload 4, 2) := by decide +kernel
theorem dJ2_indexOfSupplementary_4cfef_44 : decode cJ2_indexOfSupplementary_4cfef 44 = .ok (.if_icmp .ne 19, 3) := by decide +kernel
theorem dJ2_indexOfSupplementary_4cfef_47 : decode cJ2_indexOfSupplementary_4cfef 47 = .ok (.aload_n 0, 1) := by decide +kernel
theorem dJ2_indexOfSupplementary_4cfef_48 : decode cJ2_indexOfSupplementary_4cfef 48 = .ok (.iload 6, 2) := by decide +kernel
theorem dJ2_indexOfSupplementary_4cfef_50 : decode cJ2_indexOfSupplementary_4cfef 50 = .ok (.iconst 1, 1) := by decide +kernel
theorem dJ2_indexOfSupplementary_4cfef_51 : decode cJ2_indexOfSupplementary_4cfef 51 = .ok (.iadd, 1) := by decide +kernel
theorem dJ2_indexOfSupplementary_4cfef_52 : decode cJ2_indexOfSupplementary_4cfef 52 = .ok (.invokestatic 71, 3) := by decide +kernel
theorem dJ2_indexOfSupplementary_4cfef_55 : decode cJ2_indexOfSupplementary_4cfef 55 = .ok (.iload 5, 2) := by decide +kernel
theorem dJ2_indexOfSupplementary_4cfef_57 : decode cJ2_indexOfSupplementary_4cfef 57 = .ok (.if_icmp .ne 6, 3) := by decide +kernel
theorem dJ2_indexOfSupplementary_4cfef_60 : decode cJ2_indexOfSupplementary_4cfef 60 = .ok (.iload 6, 2) := by decide +kernel
theorem dJ2_indexOfSupplementary_4cfef_62 : decode cJ2_indexOfSupplementary_4cfef 62 = .ok (.ireturn, 1) := by decide +kernel
theorem dJ2_indexOfSupplementary_4cfef_63 : decode cJ2_indexOfSupplementary_4cfef 63 = .ok (.iinc 6 1, 3) := by decide +kernel
theorem dJ2_indexOfSupplementary_4cfef_66 : decode cJ2_indexOfSupplementary_4cfef 66 = .ok (.goto (-38), 3) := by decide +kernel
theorem dJ2_indexOfSupplementary_4cfef_69 : decode cJ2_indexOfSupplementary_4cfef 69 = .ok (.iconst (-1), 1) := by decide +kernel
theorem dJ2_indexOfSupplementary_4cfef_70 : decode cJ2_indexOfSupplementary_4cfef 70 = .ok (.ireturn, 1) := by decide +kernel
theorem dJ2_checkBoundsBeginEnd_d044e_0 : decode cJ2_checkBoundsBeginEnd_d044e 0 = .ok (.iload_n 0, 1) := by decide +kernel
theorem dJ2_checkBoundsBeginEnd_d044e_1 : decode cJ2_checkBoundsBeginEnd_d044e 1 = .ok (.iload_n 1, 1) := by decide +kernel
theorem dJ2_checkBoundsBeginEnd_d044e_2 : decode cJ2_checkBoundsBeginEnd_d044e 2 = .ok (.aload_n 2, 1) := by decide +kernel
theorem dJ2_checkBoundsBeginEnd_d044e_3 : decode cJ2_checkBoundsBeginEnd_d044e 3 = .ok (.invokestatic 48, 3) := by decide +kernel
theorem dJ2_checkBoundsBeginEnd_d044e_6 : decode cJ2_checkBoundsBeginEnd_d044e 6 = .ok (.invokestatic 241, 3) := by decide +kernel
theorem dJ2_checkBoundsBeginEnd_d044e_9 : decode cJ2_checkBoundsBeginEnd_d044e 9 = .ok (.return_, 1) := by decide +kernel
theorem dJ7_fill_d0a16_0 : decode cJ7_fill_d0a16 0 = .ok (.iconst 0, 1) := by decide +kernel
theorem dJ7_fill_d0a16_1 : decode cJ7_fill_d0a16 1 = .ok (.istore_n 3, 1) := by decide +kernel
theorem dJ7_fill_d0a16_2 : decode cJ7_fill_d0a16 2 = .ok (.aload_n 0, 1) := by decide +kernel
theorem dJ7_fill_d0a16_3 : decode cJ7_fill_d0a16 3 = .ok (.arraylength, 1) := by decide +kernel
theorem dJ7_fill_d0a16_4 : decode cJ7_fill_d0a16 4 = .ok (.istore 4, 2) := by decide +kernel
theorem dJ7_fill_d0a16_6 : decode cJ7_fill_d0a16 6 = .ok (.iload_n 3, 1) := by decide +kernel
theorem dJ7_fill_d0a16_7 : decode cJ7_fill_d0a16 7 = .ok (.iload 4, 2) := by decide +kernel
theorem dJ7_fill_d0a16_9 : decode cJ7_fill_d0a16 9 = .ok (.if_icmp .ge 13, 3) := by decide +kernel
theorem dJ7_fill_d0a16_12 : decode cJ7_fill_d0a16 12 = .ok (.aload_n 0, 1) := by decide +kernel
theorem dJ7_fill_d0a16_13 : decode cJ7_fill_d0a16 13 = .ok (.iload_n 3, 1) := by decide +kernel
theorem dJ7_fill_d0a16_14 : decode cJ7_fill_d0a16 14 = .ok (.lload_n 1, 1) := by decide +kernel
theorem dJ7_fill_d0a16_15 : decode cJ7_fill_d0a16 15 = .ok (.lastore, 1) := by decide +kernel
theorem dJ7_fill_d0a16_16 : decode cJ7_fill_d0a16 16 = .ok (.iinc 3 1, 3) := by decide +kernel
theorem dJ7_fill_d0a16_19 : decode cJ7_fill_d0a16 19 = .ok (.goto (-13), 3) := by decide +kernel
theorem dJ7_fill_d0a16_22 : decode cJ7_fill_d0a16 22 = .ok (.return_, 1) := by decide +kernel
theorem dJ7_fill_53178_0 : decode cJ7_fill_53178 0 = .ok (.iconst 0, 1) := by decide +kernel
theorem dJ7_fill_53178_1 : decode cJ7_fill_53178 1 = .ok (.istore_n 2, 1) := by decide +kernel
theorem dJ7_fill_53178_2 : decode cJ7_fill_53178 2 = .ok (.aload_n 0, 1) := by decide +kernel
theorem dJ7_fill_53178_3 : decode cJ7_fill_53178 3 = .ok (.arraylength, 1) := by decide +kernel
theorem dJ7_fill_53178_4 : decode cJ7_fill_53178 4 = .ok (.istore_n 3, 1) := by decide +kernel
theorem dJ7_fill_53178_5 : decode cJ7_fill_53178 5 = .ok (.iload_n 2, 1) := by decide +kernel
theorem dJ7_fill_53178_6 : decode cJ7_fill_53178 6 = .ok (.iload_n 3, 1) := by decide +kernel
theorem dJ7_fill_53178_7 : decode cJ7_fill_53178 7 = .ok (.if_icmp .ge 13, 3) := by decide +kernel
theorem dJ7_fill_53178_10 : decode cJ7_fill_53178 10 = .ok (.aload_n 0, 1) := by decide +kernel
theorem dJ7_fill_53178_11 : decode cJ7_fill_53178 11 = .ok (.iload_n 2, 1) := by decide +kernel
theorem dJ7_fill_53178_12 : decode cJ7_fill_53178 12 = .ok (.iload_n 1, 1) := by decide +kernel
theorem dJ7_fill_53178_13 : decode cJ7_fill_53178 13 = .ok (.iastore, 1) := by decide +kernel
theorem dJ7_fill_53178_14 : decode cJ7_fill_53178 14 = .ok (.iinc 2 1, 3) := by decide +kernel
theorem dJ7_fill_53178_17 : decode cJ7_fill_53178 17 = .ok (.goto (-12), 3) := by decide +kernel
theorem dJ7_fill_53178_20 : decode cJ7_fill_53178 20 = .ok (.return_, 1) := by decide +kernel
theorem dJ3_checkFromToIndex_8c36e_0 : decode cJ3_checkFromToIndex_8c36e 0 = .ok (.iload_n 0, 1) := by decide +kernel
theorem dJ3_checkFromToIndex_8c36e_1 : decode cJ3_checkFromToIndex_8c36e 1 = .ok (.ifCond .lt 13, 3) := by decide +kernel
theorem dJ3_checkFromToIndex_8c36e_4 : decode cJ3_checkFromToIndex_8c36e 4 = .ok (.iload_n 0, 1) := by decide +kernel
theorem dJ3_checkFromToIndex_8c36e_5 : decode cJ3_checkFromToIndex_8c36e 5 = .ok (.iload_n 1, 1) := by decide +kernel
theorem dJ3_checkFromToIndex_8c36e_6 : decode cJ3_checkFromToIndex_8c36e 6 = .ok (.if_icmp .gt 8, 3) := by decide +kernel
theorem dJ3_checkFromToIndex_8c36e_9 : decode cJ3_checkFromToIndex_8c36e 9 = .ok (.iload_n 1, 1) := by decide +kernel
theorem dJ3_checkFromToIndex_8c36e_10 : decode cJ3_checkFromToIndex_8c36e 10 = .ok (.iload_n 2, 1) := by decide +kernel
theorem dJ3_checkFromToIndex_8c36e_11 : decode cJ3_checkFromToIndex_8c36e 11 = .ok (.if_icmp .le 11, 3) := by decide +kernel
theorem dJ3_checkFromToIndex_8c36e_14 : decode cJ3_checkFromToIndex_8c36e 14 = .ok (.aload_n 3, 1) := by decide +kernel
theorem dJ3_checkFromToIndex_8c36e_15 : decode cJ3_checkFromToIndex_8c36e 15 = .ok (.iload_n 0, 1) := by decide +kernel
theorem dJ3_checkFromToIndex_8c36e_16 : decode cJ3_checkFromToIndex_8c36e 16 = .ok (.iload_n 1, 1) := by decide +kernel
theorem dJ3_checkFromToIndex_8c36e_17 : decode cJ3_checkFromToIndex_8c36e 17 = .ok (.iload_n 2, 1) := by decide +kernel
theorem dJ3_checkFromToIndex_8c36e_18 : decode cJ3_checkFromToIndex_8c36e 18 = .ok (.invokestatic 99, 3) := by decide +kernel
theorem dJ3_checkFromToIndex_8c36e_21 : decode cJ3_checkFromToIndex_8c36e 21 = .ok (.athrow, 1) := by decide +kernel
theorem dJ3_checkFromToIndex_8c36e_22 : decode cJ3_checkFromToIndex_8c36e 22 = .ok (.iload_n 0, 1) := by decide +kernel
theorem dJ3_checkFromToIndex_8c36e_23 : decode cJ3_checkFromToIndex_8c36e 23 = .ok (.ireturn, 1) := by decide +kernel
theorem dL_law_0 : decode cL_law 0 = .ok (.new 7, 3) := by decide +kernel
theorem dL_law_3 : decode cL_law 3 = .ok (.dup, 1) := by decide +kernel
theorem dL_law_4 : decode cL_law 4 = .ok (.invokespecial 9, 3) := by decide +kernel
theorem dL_law_7 : decode cL_law 7 = .ok (.astore_n 1, 1) := by decide +kernel
theorem dL_law_8 : decode cL_law 8 = .ok (.new 10, 3) := by decide +kernel
theorem dL_law_11 : decode cL_law 11 = .ok (.dup, 1) := by decide +kernel
theorem dL_law_12 : decode cL_law 12 = .ok (.invokespecial 12, 3) := by decide +kernel
theorem dL_law_15 : decode cL_law 15 = .ok (.astore_n 2, 1) := by decide +kernel
theorem dL_law_16 : decode cL_law 16 = .ok (.iconst 0, 1) := by decide +kernel
theorem dL_law_17 : decode cL_law 17 = .ok (.istore_n 3, 1) := by decide +kernel
theorem dL_law_18 : decode cL_law 18 = .ok (.iload_n 3, 1) := by decide +kernel
theorem dL_law_19 : decode cL_law 19 = .ok (.aload_n 0, 1) := by decide +kernel
theorem dL_law_20 : decode cL_law 20 = .ok (.arraylength, 1) := by decide +kernel
theorem dL_law_21 : decode cL_law 21 = .ok (.bipush 7, 2) := by decide +kernel
theorem dL_law_23 : decode cL_law 23 = .ok (.isub, 1) := by decide +kernel
theorem dL_law_24 : decode cL_law 24 = .ok (.if_icmp .gt 1406, 3) := by decide +kernel
theorem dL_law_27 : decode cL_law 27 = .ok (.aload_n 0, 1) := by decide +kernel
theorem dL_law_28 : decode cL_law 28 = .ok (.iload_n 3, 1) := by decide +kernel
theorem dL_law_29 : decode cL_law 29 = .ok (.iaload, 1) := by decide +kernel
theorem dL_law_30 : decode cL_law 30 = .ok (.bipush 31, 2) := by decide +kernel
theorem dL_law_32 : decode cL_law 32 = .ok (.iand, 1) := by decide +kernel
theorem dL_law_33 : decode cL_law 33 = .ok (.tableswitch 1391 0 30 #[139, 192, 235, 268, 321, 364, 397, 420, 483, 506, 539, 593, 627, 681, 714, 757, 790, 823, 866, 919, 963, 1006, 1082, 1146, 1159, 1183, 1246, 1259, 1272, 1315, 1338], 139) := by decide +kernel
theorem dL_law_172 : decode cL_law 172 = .ok (.aload_n 1, 1) := by decide +kernel
theorem dL_law_173 : decode cL_law 173 = .ok (.aload_n 0, 1) := by decide +kernel
theorem dL_law_174 : decode cL_law 174 = .ok (.iload_n 3, 1) := by decide +kernel
theorem dL_law_175 : decode cL_law 175 = .ok (.iconst 1, 1) := by decide +kernel
theorem dL_law_176 : decode cL_law 176 = .ok (.iadd, 1) := by decide +kernel
theorem dL_law_177 : decode cL_law 177 = .ok (.iaload, 1) := by decide +kernel
theorem dL_law_178 : decode cL_law 178 = .ok (.aload_n 0, 1) := by decide +kernel
theorem dL_law_179 : decode cL_law 179 = .ok (.iload_n 3, 1) := by decide +kernel
theorem dL_law_180 : decode cL_law 180 = .ok (.iconst 2, 1) := by decide +kernel
theorem dL_law_181 : decode cL_law 181 = .ok (.iadd, 1) := by decide +kernel
theorem dL_law_182 : decode cL_law 182 = .ok (.iaload, 1) := by decide +kernel
theorem dL_law_183 : decode cL_law 183 = .ok (.aload_n 0, 1) := by decide +kernel
theorem dL_law_184 : decode cL_law 184 = .ok (.iload_n 3, 1) := by decide +kernel
theorem dL_law_185 : decode cL_law 185 = .ok (.iconst 3, 1) := by decide +kernel
theorem dL_law_186 : decode cL_law 186 = .ok (.iadd, 1) := by decide +kernel
theorem dL_law_187 : decode cL_law 187 = .ok (.iaload, 1) := by decide +kernel
theorem dL_law_188 : decode cL_law 188 = .ok (.aload_n 0, 1) := by decide +kernel
theorem dL_law_189 : decode cL_law 189 = .ok (.iload_n 3, 1) := by decide +kernel
theorem dL_law_190 : decode cL_law 190 = .ok (.iconst 4, 1) := by decide +kernel
theorem dL_law_191 : decode cL_law 191 = .ok (.iadd, 1) := by decide +kernel
theorem dL_law_192 : decode cL_law 192 = .ok (.iaload, 1) := by decide +kernel
theorem dL_law_193 : decode cL_law 193 = .ok (.invokevirtual 13, 3) := by decide +kernel
theorem dL_law_196 : decode cL_law 196 = .ok (.aload_n 2, 1) := by decide +kernel
theorem dL_law_197 : decode cL_law 197 = .ok (.aload_n 0, 1) := by decide +kernel
theorem dL_law_198 : decode cL_law 198 = .ok (.iload_n 3, 1) := by decide +kernel
theorem dL_law_199 : decode cL_law 199 = .ok (.iconst 1, 1) := by decide +kernel
theorem dL_law_200 : decode cL_law 200 = .ok (.iadd, 1) := by decide +kernel
theorem dL_law_201 : decode cL_law 201 = .ok (.iaload, 1) := by decide +kernel
theorem dL_law_202 : decode cL_law 202 = .ok (.aload_n 0, 1) := by decide +kernel
theorem dL_law_203 : decode cL_law 203 = .ok (.iload_n 3, 1) := by decide +kernel
theorem dL_law_204 : decode cL_law 204 = .ok (.iconst 2, 1) := by decide +kernel
theorem dL_law_205 : decode cL_law 205 = .ok (.iadd, 1) := by decide +kernel
theorem dL_law_206 : decode cL_law 206 = .ok (.iaload, 1) := by decide +kernel
theorem dL_law_207 : decode cL_law 207 = .ok (.aload_n 0, 1) := by decide +kernel
theorem dL_law_208 : decode cL_law 208 = .ok (.iload_n 3, 1) := by decide +kernel
theorem dL_law_209 : decode cL_law 209 = .ok (.iconst 3, 1) := by decide +kernel
theorem dL_law_210 : decode cL_law 210 = .ok (.iadd, 1) := by decide +kernel
theorem dL_law_211 : decode cL_law 211 = .ok (.iaload, 1) := by decide +kernel
theorem dL_law_212 : decode cL_law 212 = .ok (.aload_n 0, 1) := by decide +kernel
theorem dL_law_213 : decode cL_law 213 = .ok (.iload_n 3, 1) := by decide +kernel
theorem dL_law_214 : decode cL_law 214 = .ok (.iconst 4, 1) := by decide +kernel
theorem dL_law_215 : decode cL_law 215 = .ok (.iadd, 1) := by decide +kernel
theorem dL_law_216 : decode cL_law 216 = .ok (.iaload, 1) := by decide +kernel
theorem dL_law_217 : decode cL_law 217 = .ok (.invokevirtual 17, 3) := by decide +kernel
theorem dL_law_220 : decode cL_law 220 = .ok (.if_icmp .eq 1204, 3) := by decide +kernel
theorem dL_law_223 : decode cL_law 223 = .ok (.iconst 0, 1) := by decide +kernel
theorem dL_law_224 : decode cL_law 224 = .ok (.ireturn, 1) := by decide +kernel
theorem dL_law_225 : decode cL_law 225 = .ok (.aload_n 1, 1) := by decide +kernel
theorem dL_law_226 : decode cL_law 226 = .ok (.aload_n 0, 1) := by decide +kernel
theorem dL_law_227 : decode cL_law 227 = .ok (.iload_n 3, 1) := by decide +kernel
theorem dL_law_228 : decode cL_law 228 = .ok (.iconst 1, 1) := by decide +kernel
theorem dL_law_229 : decode cL_law 229 = .ok (.iadd, 1) := by decide +kernel
theorem dL_law_230 : decode cL_law 230 = .ok (.iaload, 1) := by decide +kernel
theorem dL_law_231 : decode cL_law 231 = .ok (.aload_n 0, 1) := by decide +kernel
theorem dL_law_232 : decode cL_law 232 = .ok (.iload_n 3, 1) := by decide +kernel
theorem dL_law_233 : decode cL_law 233 = .ok (.iconst 2, 1) := by decide +kernel
theorem dL_law_234 : decode cL_law 234 = .ok (.iadd, 1) := by decide +kernel
theorem dL_law_235 : decode cL_law 235 = .ok (.iaload, 1) := by decide +kernel
theorem dL_law_236 : decode cL_law 236 = .ok (.aload_n 0, 1) := by decide +kernel
theorem dL_law_237 : decode cL_law 237 = .ok (.iload_n 3, 1) := by decide +kernel
theorem dL_law_238 : decode cL_law 238 = .ok (.iconst 3, 1) := by decide +kernel
theorem dL_law_239 : decode cL_law 239 = .ok (.iadd, 1) := by decide +kernel
theorem dL_law_240 : decode cL_law 240 = .ok (.iaload, 1) := by decide +kernel
theorem dL_law_241 : decode cL_law 241 = .ok (.invokevirtual 18, 3) := by decide +kernel
theorem dL_law_244 : decode cL_law 244 = .ok (.aload_n 2, 1) := by decide +kernel
theorem dL_law_245 : decode cL_law 245 = .ok (.aload_n 0, 1) := by decide +kernel
theorem dL_law_246 : decode cL_law 246 = .ok (.iload_n 3, 1) := by decide +kernel
theorem dL_law_247 : decode cL_law 247 = .ok (.iconst 1, 1) := by decide +kernel
theorem dL_law_248 : decode cL_law 248 = .ok (.iadd, 1) := by decide +kernel
theorem dL_law_249 : decode cL_law 249 = .ok (.iaload, 1) := by decide +kernel
theorem dL_law_250 : decode cL_law 250 = .ok (.aload_n 0, 1) := by decide +kernel
theorem dL_law_251 : decode cL_law 251 = .ok (.iload_n 3, 1) := by decide +kernel
theorem dL_law_252 : decode cL_law 252 = .ok (.iconst 2, 1) := by decide +kernel
theorem dL_law_253 : decode cL_law 253 = .ok (.iadd, 1) := by decide +kernel
theorem dL_law_254 : decode cL_law 254 = .ok (.iaload, 1) := by decide +kernel
theorem dL_law_255 : decode cL_law 255 = .ok (.aload_n 0, 1) := by decide +kernel
theorem dL_law_256 : decode cL_law 256 = .ok (.iload_n 3, 1) := by decide +kernel
theorem dL_law_257 : decode cL_law 257 = .ok (.iconst 3, 1) := by decide +kernel
theorem dL_law_258 : decode cL_law 258 = .ok (.iadd, 1) := by decide +kernel
theorem dL_law_259 : decode cL_law 259 = .ok (.iaload, 1) := by decide +kernel
theorem dL_law_260 : decode cL_law 260 = .ok (.invokevirtual 22, 3) := by decide +kernel
theorem dL_law_263 : decode cL_law 263 = .ok (.if_icmp .eq 1161, 3) := by decide +kernel
theorem dL_law_266 : decode cL_law 266 = .ok (.iconst 0, 1) := by decide +kernel
theorem dL_law_267 : decode cL_law 267 = .ok (.ireturn, 1) := by decide +kernel
theorem dL_law_268 : decode cL_law 268 = .ok (.aload_n 1, 1) := by decide +kernel
theorem dL_law_269 : decode cL_law 269 = .ok (.aload_n 0, 1) := by decide +kernel
theorem dL_law_270 : decode cL_law 270 = .ok (.iload_n 3, 1) := by decide +kernel
theorem dL_law_271 : decode cL_law 271 = .ok (.iconst 1, 1) := by decide +kernel
theorem dL_law_272 : decode cL_law 272 = .ok (.iadd, 1) := by decide +kernel
theorem dL_law_273 : decode cL_law 273 = .ok (.iaload, 1) := by decide +kernel
theorem dL_law_274 : decode cL_law 274 = .ok (.aload_n 0, 1) := by decide +kernel
theorem dL_law_275 : decode cL_law 275 = .ok (.iload_n 3, 1) := by decide +kernel
theorem dL_law_276 : decode cL_law 276 = .ok (.iconst 2, 1) := by decide +kernel
theorem dL_law_277 : decode cL_law 277 = .ok (.iadd, 1) := by decide +kernel
theorem dL_law_278 : decode cL_law 278 = .ok (.iaload, 1) := by decide +kernel
theorem dL_law_279 : decode cL_law 279 = .ok (.invokevirtual 23, 3) := by decide +kernel
theorem dL_law_282 : decode cL_law 282 = .ok (.aload_n 2, 1) := by decide +kernel
theorem dL_law_283 : decode cL_law 283 = .ok (.aload_n 0, 1) := by decide +kernel
theorem dL_law_284 : decode cL_law 284 = .ok (.iload_n 3, 1) := by decide +kernel
theorem dL_law_285 : decode cL_law 285 = .ok (.iconst 1, 1) := by decide +kernel
theorem dL_law_286 : decode cL_law 286 = .ok (.iadd, 1) := by decide +kernel
theorem dL_law_287 : decode cL_law 287 = .ok (.iaload, 1) := by decide +kernel
theorem dL_law_288 : decode cL_law 288 = .ok (.aload_n 0, 1) := by decide +kernel
theorem dL_law_289 : decode cL_law 289 = .ok (.iload_n 3, 1) := by decide +kernel
theorem dL_law_290 : decode cL_law 290 = .ok (.iconst 2, 1) := by decide +kernel
theorem dL_law_291 : decode cL_law 291 = .ok (.iadd, 1) := by decide +kernel
theorem dL_law_292 : decode cL_law 292 = .ok (.iaload, 1) := by decide +kernel
theorem dL_law_293 : decode cL_law 293 = .ok (.invokevirtual 27, 3) := by decide +kernel
theorem dL_law_296 : decode cL_law 296 = .ok (.if_icmp .eq 1128, 3) := by decide +kernel
theorem dL_law_299 : decode cL_law 299 = .ok (.iconst 0, 1) := by decide +kernel
theorem dL_law_300 : decode cL_law 300 = .ok (.ireturn, 1) := by decide +kernel
theorem dL_law_301 : decode cL_law 301 = .ok (.aload_n 1, 1) := by decide +kernel
theorem dL_law_302 : decode cL_law 302 = .ok (.aload_n 0, 1) := by decide +kernel
theorem dL_law_303 : decode cL_law 303 = .ok (.iload_n 3, 1) := by decide +kernel
theorem dL_law_304 : decode cL_law 304 = .ok (.iconst 1, 1) := by decide +kernel
theorem dL_law_305 : decode cL_law 305 = .ok (.iadd, 1) := by decide +kernel
theorem dL_law_306 : decode cL_law 306 = .ok (.iaload, 1) := by decide +kernel
theorem dL_law_307 : decode cL_law 307 = .ok (.aload_n 0, 1) := by decide +kernel
theorem dL_law_308 : decode cL_law 308 = .ok (.iload_n 3, 1) := by decide +kernel
theorem dL_law_309 : decode cL_law 309 = .ok (.iconst 2, 1) := by decide +kernel
theorem dL_law_310 : decode cL_law 310 = .ok (.iadd, 1) := by decide +kernel
theorem dL_law_311 : decode cL_law 311 = .ok (.iaload, 1) := by decide +kernel
theorem dL_law_312 : decode cL_law 312 = .ok (.aload_n 0, 1) := by decide +kernel
theorem dL_law_313 : decode cL_law 313 = .ok (.iload_n 3, 1) := by decide +kernel
theorem dL_law_314 : decode cL_law 314 = .ok (.iconst 3, 1) := by decide +kernel
theorem dL_law_315 : decode cL_law 315 = .ok (.iadd, 1) := by decide +kernel
theorem dL_law_316 : decode cL_law 316 = .ok (.iaload, 1) := by decide +kernel
theorem dL_law_317 : decode cL_law 317 = .ok (.aload_n 0, 1) := by decide +kernel
theorem dL_law_318 : decode cL_law 318 = .ok (.iload_n 3, 1) := by decide +kernel
theorem dL_law_319 : decode cL_law 319 = .ok (.iconst 4, 1) := by decide +kernel
theorem dL_law_320 : decode cL_law 320 = .ok (.iadd, 1) := by decide +kernel
theorem dL_law_321 : decode cL_law 321 = .ok (.iaload, 1) := by decide +kernel
theorem dL_law_322 : decode cL_law 322 = .ok (.invokevirtual 28, 3) := by decide +kernel
theorem dL_law_325 : decode cL_law 325 = .ok (.aload_n 2, 1) := by decide +kernel
theorem dL_law_326 : decode cL_law 326 = .ok (.aload_n 0, 1) := by decide +kernel
theorem dL_law_327 : decode cL_law 327 = .ok (.iload_n 3, 1) := by decide +kernel
theorem dL_law_328 : decode cL_law 328 = .ok (.iconst 1, 1) := by decide +kernel
theorem dL_law_329 : decode cL_law 329 = .ok (.iadd, 1) := by decide +kernel
theorem dL_law_330 : decode cL_law 330 = .ok (.iaload, 1) := by decide +kernel
theorem dL_law_331 : decode cL_law 331 = .ok (.aload_n 0, 1) := by decide +kernel
theorem dL_law_332 : decode cL_law 332 = .ok (.iload_n 3, 1) := by decide +kernel
theorem dL_law_333 : decode cL_law 333 = .ok (.iconst 2, 1) := by decide +kernel
theorem dL_law_334 : decode cL_law 334 = .ok (.iadd, 1) := by decide +kernel
theorem dL_law_335 : decode cL_law 335 = .ok (.iaload, 1) := by decide +kernel
theorem dL_law_336 : decode cL_law 336 = .ok (.aload_n 0, 1) := by decide +kernel
theorem dL_law_337 : decode cL_law 337 = .ok (.iload_n 3, 1) := by decide +kernel
theorem dL_law_338 : decode cL_law 338 = .ok (.iconst 3, 1) := by decide +kernel
theorem dL_law_339 : decode cL_law 339 = .ok (.iadd, 1) := by decide +kernel
theorem dL_law_340 : decode cL_law 340 = .ok (.iaload, 1) := by decide +kernel
theorem dL_law_341 : decode cL_law 341 = .ok (.aload_n 0, 1) := by decide +kernel
theorem dL_law_342 : decode cL_law 342 = .ok (.iload_n 3, 1) := by decide +kernel
theorem dL_law_343 : decode cL_law 343 = .ok (.iconst 4, 1) := by decide +kernel
theorem dL_law_344 : decode cL_law 344 = .ok (.iadd, 1) := by decide +kernel
theorem dL_law_345 : decode cL_law 345 = .ok (.iaload, 1) := by decide +kernel
theorem dL_law_346 : decode cL_law 346 = .ok (.invokevirtual 31, 3) := by decide +kernel
theorem dL_law_349 : decode cL_law 349 = .ok (.if_icmp .eq 1075, 3) := by decide +kernel
theorem dL_law_352 : decode cL_law 352 = .ok (.iconst 0, 1) := by decide +kernel
theorem dL_law_353 : decode cL_law 353 = .ok (.ireturn, 1) := by decide +kernel
theorem dL_law_354 : decode cL_law 354 = .ok (.aload_n 1, 1) := by decide +kernel
theorem dL_law_355 : decode cL_law 355 = .ok (.aload_n 0, 1) := by decide +kernel
theorem dL_law_356 : decode cL_law 356 = .ok (.iload_n 3, 1) := by decide +kernel
theorem dL_law_357 : decode cL_law 357 = .ok (.iconst 1, 1) := by decide +kernel
theorem dL_law_358 : decode cL_law 358 = .ok (.iadd, 1) := by decide +kernel
theorem dL_law_359 : decode cL_law 359 = .ok (.iaload, 1) := by decide +kernel
theorem dL_law_360 : decode cL_law 360 = .ok (.aload_n 0, 1) := by decide +kernel
theorem dL_law_361 : decode cL_law 361 = .ok (.iload_n 3, 1) := by decide +kernel
theorem dL_law_362 : decode cL_law 362 = .ok (.iconst 2, 1) := by decide +kernel
theorem dL_law_363 : decode cL_law 363 = .ok (.iadd, 1) := by decide +kernel
theorem dL_law_364 : decode cL_law 364 = .ok (.iaload, 1) := by decide +kernel
theorem dL_law_365 : decode cL_law 365 = .ok (.aload_n 0, 1) := by decide +kernel
theorem dL_law_366 : decode cL_law 366 = .ok (.iload_n 3, 1) := by decide +kernel
theorem dL_law_367 : decode cL_law 367 = .ok (.iconst 3, 1) := by decide +kernel
theorem dL_law_368 : decode cL_law 368 = .ok (.iadd, 1) := by decide +kernel
theorem dL_law_369 : decode cL_law 369 = .ok (.iaload, 1) := by decide +kernel
theorem dL_law_370 : decode cL_law 370 = .ok (.invokevirtual 32, 3) := by decide +kernel
theorem dL_law_373 : decode cL_law 373 = .ok (.aload_n 2, 1) := by decide +kernel
theorem dL_law_374 : decode cL_law 374 = .ok (.aload_n 0, 1) := by decide +kernel
theorem dL_law_375 : decode cL_law 375 = .ok (.iload_n 3, 1) := by decide +kernel
theorem dL_law_376 : decode cL_law 376 = .ok (.iconst 1, 1) := by decide +kernel
theorem dL_law_377 : decode cL_law 377 = .ok (.iadd, 1) := by decide +kernel
theorem dL_law_378 : decode cL_law 378 = .ok (.iaload, 1) := by decide +kernel
theorem dL_law_379 : decode cL_law 379 = .ok (.aload_n 0, 1) := by decide +kernel
theorem dL_law_380 : decode cL_law 380 = .ok (.iload_n 3, 1) := by decide +kernel
theorem dL_law_381 : decode cL_law 381 = .ok (.iconst 2, 1) := by decide +kernel
theorem dL_law_382 : decode cL_law 382 = .ok (.iadd, 1) := by decide +kernel
theorem dL_law_383 : decode cL_law 383 = .ok (.iaload, 1) := by decide +kernel
theorem dL_law_384 : decode cL_law 384 = .ok (.aload_n 0, 1) := by decide +kernel
theorem dL_law_385 : decode cL_law 385 = .ok (.iload_n 3, 1) := by decide +kernel
theorem dL_law_386 : decode cL_law 386 = .ok (.iconst 3, 1) := by decide +kernel
theorem dL_law_387 : decode cL_law 387 = .ok (.iadd, 1) := by decide +kernel
theorem dL_law_388 : decode cL_law 388 = .ok (.iaload, 1) := by decide +kernel
theorem dL_law_389 : decode cL_law 389 = .ok (.invokevirtual 35, 3) := by decide +kernel
theorem dL_law_392 : decode cL_law 392 = .ok (.if_icmp .eq 1032, 3) := by decide +kernel
theorem dL_law_395 : decode cL_law 395 = .ok (.iconst 0, 1) := by decide +kernel
theorem dL_law_396 : decode cL_law 396 = .ok (.ireturn, 1) := by decide +kernel
theorem dL_law_397 : decode cL_law 397 = .ok (.aload_n 1, 1) := by decide +kernel
theorem dL_law_398 : decode cL_law 398 = .ok (.aload_n 0, 1) := by decide +kernel
theorem dL_law_399 : decode cL_law 399 = .ok (.iload_n 3, 1) := by decide +kernel
theorem dL_law_400 : decode cL_law 400 = .ok (.iconst 1, 1) := by decide +kernel
theorem dL_law_401 : decode cL_law 401 = .ok (.iadd, 1) := by decide +kernel
theorem dL_law_402 : decode cL_law 402 = .ok (.iaload, 1) := by decide +kernel
theorem dL_law_403 : decode cL_law 403 = .ok (.aload_n 0, 1) := by decide +kernel
theorem dL_law_404 : decode cL_law 404 = .ok (.iload_n 3, 1) := by decide +kernel
theorem dL_law_405 : decode cL_law 405 = .ok (.iconst 2, 1) := by decide +kernel
theorem dL_law_406 : decode cL_law 406 = .ok (.iadd, 1) := by decide +kernel
theorem dL_law_407 : decode cL_law 407 = .ok (.iaload, 1) := by decide +kernel
theorem dL_law_408 : decode cL_law 408 = .ok (.invokevirtual 36, 3) := by decide +kernel
theorem dL_law_411 : decode cL_law 411 = .ok (.aload_n 2, 1) := by decide +kernel
theorem dL_law_412 : decode cL_law 412 = .ok (.aload_n 0, 1) := by decide +kernel
theorem dL_law_413 : decode cL_law 413 = .ok (.iload_n 3, 1) := by decide +kernel
theorem dL_law_414 : decode cL_law 414 = .ok (.iconst 1, 1) := by decide +kernel
theorem dL_law_415 : decode cL_law 415 = .ok (.iadd, 1) := by decide +kernel
theorem dL_law_416 : decode cL_law 416 = .ok (.iaload, 1) := by decide +kernel
theorem dL_law_417 : decode cL_law 417 = .ok (.aload_n 0, 1) := by decide +kernel
theorem dL_law_418 : decode cL_law 418 = .ok (.iload_n 3, 1) := by decide +kernel
theorem dL_law_419 : decode cL_law 419 = .ok (.iconst 2, 1) := by decide +kernel
theorem dL_law_420 : decode cL_law 420 = .ok (.iadd, 1) := by decide +kernel
theorem dL_law_421 : decode cL_law 421 = .ok (.iaload, 1) := by decide +kernel
theorem dL_law_422 : decode cL_law 422 = .ok (.invokevirtual 39, 3) := by decide +kernel
theorem dL_law_425 : decode cL_law 425 = .ok (.if_icmp .eq 999, 3) := by decide +kernel
theorem dL_law_428 : decode cL_law 428 = .ok (.iconst 0, 1) := by decide +kernel
theorem dL_law_429 : decode cL_law 429 = .ok (.ireturn, 1) := by decide +kernel
theorem dL_law_430 : decode cL_law 430 = .ok (.aload_n 1, 1) := by decide +kernel
theorem dL_law_431 : decode cL_law 431 = .ok (.aload_n 0, 1) := by decide +kernel
theorem dL_law_432 : decode cL_law 432 = .ok (.iload_n 3, 1) := by decide +kernel
theorem dL_law_433 : decode cL_law 433 = .ok (.iconst 1, 1) := by decide +kernel
theorem dL_law_434 : decode cL_law 434 = .ok (.iadd, 1) := by decide +kernel
theorem dL_law_435 : decode cL_law 435 = .ok (.iaload, 1) := by decide +kernel
theorem dL_law_436 : decode cL_law 436 = .ok (.invokevirtual 40, 3) := by decide +kernel
theorem dL_law_439 : decode cL_law 439 = .ok (.aload_n 2, 1) := by decide +kernel
theorem dL_law_440 : decode cL_law 440 = .ok (.aload_n 0, 1) := by decide +kernel
theorem dL_law_441 : decode cL_law 441 = .ok (.iload_n 3, 1) := by decide +kernel
theorem dL_law_442 : decode cL_law 442 = .ok (.iconst 1, 1) := by decide +kernel
theorem dL_law_443 : decode cL_law 443 = .ok (.iadd, 1) := by decide +kernel
theorem dL_law_444 : decode cL_law 444 = .ok (.iaload, 1) := by decide +kernel
theorem dL_law_445 : decode cL_law 445 = .ok (.invokevirtual 44, 3) := by decide +kernel
theorem dL_law_448 : decode cL_law 448 = .ok (.if_icmp .eq 976, 3) := by decide +kernel
theorem dL_law_451 : decode cL_law 451 = .ok (.iconst 0, 1) := by decide +kernel
theorem dL_law_452 : decode cL_law 452 = .ok (.ireturn, 1) := by decide +kernel
theorem dL_law_453 : decode cL_law 453 = .ok (.aload_n 1, 1) := by decide +kernel
theorem dL_law_454 : decode cL_law 454 = .ok (.aload_n 0, 1) := by decide +kernel
theorem dL_law_455 : decode cL_law 455 = .ok (.iload_n 3, 1) := by decide +kernel
theorem dL_law_456 : decode cL_law 456 = .ok (.iconst 1, 1) := by decide +kernel
theorem dL_law_457 : decode cL_law 457 = .ok (.iadd, 1) := by decide +kernel
theorem dL_law_458 : decode cL_law 458 = .ok (.iaload, 1) := by decide +kernel
theorem dL_law_459 : decode cL_law 459 = .ok (.i2l, 1) := by decide +kernel
theorem dL_law_460 : decode cL_law 460 = .ok (.bipush 32, 2) := by decide +kernel
theorem dL_law_462 : decode cL_law 462 = .ok (.lshl, 1) := by decide +kernel
theorem dL_law_463 : decode cL_law 463 = .ok (.aload_n 0, 1) := by decide +kernel
theorem dL_law_464 : decode cL_law 464 = .ok (.iload_n 3, 1) := by decide +kernel
theorem dL_law_465 : decode cL_law 465 = .ok (.iconst 2, 1) := by decide +kernel
theorem dL_law_466 : decode cL_law 466 = .ok (.iadd, 1) := by decide +kernel
theorem dL_law_467 : decode cL_law 467 = .ok (.iaload, 1) := by decide +kernel
theorem dL_law_468 : decode cL_law 468 = .ok (.i2l, 1) := by decide +kernel
theorem dL_law_469 : decode cL_law 469 = .ok (.ldc2_w 45, 3) := by decide +kernel
theorem dL_law_472 : decode cL_law 472 = .ok (.land, 1) := by decide +kernel
theorem dL_law_473 : decode cL_law 473 = .ok (.lor, 1) := by decide +kernel
theorem dL_law_474 : decode cL_law 474 = .ok (.aload_n 0, 1) := by decide +kernel
theorem dL_law_475 : decode cL_law 475 = .ok (.iload_n 3, 1) := by decide +kernel
theorem dL_law_476 : decode cL_law 476 = .ok (.iconst 3, 1) := by decide +kernel
theorem dL_law_477 : decode cL_law 477 = .ok (.iadd, 1) := by decide +kernel
theorem dL_law_478 : decode cL_law 478 = .ok (.iaload, 1) := by decide +kernel
theorem dL_law_479 : decode cL_law 479 = .ok (.invokevirtual 47, 3) := by decide +kernel
theorem dL_law_482 : decode cL_law 482 = .ok (.aload_n 2, 1) := by decide +kernel
theorem dL_law_483 : decode cL_law 483 = .ok (.aload_n 0, 1) := by decide +kernel
theorem dL_law_484 : decode cL_law 484 = .ok (.iload_n 3, 1) := by decide +kernel
theorem dL_law_485 : decode cL_law 485 = .ok (.iconst 1, 1) := by decide +kernel
theorem dL_law_486 : decode cL_law 486 = .ok (.iadd, 1) := by decide +kernel
theorem dL_law_487 : decode cL_law 487 = .ok (.iaload, 1) := by decide +kernel
theorem dL_law_488 : decode cL_law 488 = .ok (.i2l, 1) := by decide +kernel
theorem dL_law_489 : decode cL_law 489 = .ok (.bipush 32, 2) := by decide +kernel
theorem dL_law_491 : decode cL_law 491 = .ok (.lshl, 1) := by decide +kernel
theorem dL_law_492 : decode cL_law 492 = .ok (.aload_n 0, 1) := by decide +kernel
theorem dL_law_493 : decode cL_law 493 = .ok (.iload_n 3, 1) := by decide +kernel
theorem dL_law_494 : decode cL_law 494 = .ok (.iconst 2, 1) := by decide +kernel
theorem dL_law_495 : decode cL_law 495 = .ok (.iadd, 1) := by decide +kernel
theorem dL_law_496 : decode cL_law 496 = .ok (.iaload, 1) := by decide +kernel
theorem dL_law_497 : decode cL_law 497 = .ok (.i2l, 1) := by decide +kernel
theorem dL_law_498 : decode cL_law 498 = .ok (.ldc2_w 45, 3) := by decide +kernel
theorem dL_law_501 : decode cL_law 501 = .ok (.land, 1) := by decide +kernel
theorem dL_law_502 : decode cL_law 502 = .ok (.lor, 1) := by decide +kernel
theorem dL_law_503 : decode cL_law 503 = .ok (.aload_n 0, 1) := by decide +kernel
theorem dL_law_504 : decode cL_law 504 = .ok (.iload_n 3, 1) := by decide +kernel
theorem dL_law_505 : decode cL_law 505 = .ok (.iconst 3, 1) := by decide +kernel
theorem dL_law_506 : decode cL_law 506 = .ok (.iadd, 1) := by decide +kernel
theorem dL_law_507 : decode cL_law 507 = .ok (.iaload, 1) := by decide +kernel
theorem dL_law_508 : decode cL_law 508 = .ok (.invokevirtual 51, 3) := by decide +kernel
theorem dL_law_511 : decode cL_law 511 = .ok (.if_icmp .eq 913, 3) := by decide +kernel
theorem dL_law_514 : decode cL_law 514 = .ok (.iconst 0, 1) := by decide +kernel
theorem dL_law_515 : decode cL_law 515 = .ok (.ireturn, 1) := by decide +kernel
theorem dL_law_516 : decode cL_law 516 = .ok (.aload_n 1, 1) := by decide +kernel
theorem dL_law_517 : decode cL_law 517 = .ok (.aload_n 0, 1) := by decide +kernel
theorem dL_law_518 : decode cL_law 518 = .ok (.iload_n 3, 1) := by decide +kernel
theorem dL_law_519 : decode cL_law 519 = .ok (.iconst 1, 1) := by decide +kernel
theorem dL_law_520 : decode cL_law 520 = .ok (.iadd, 1) := by decide +kernel
theorem dL_law_521 : decode cL_law 521 = .ok (.iaload, 1) := by decide +kernel
theorem dL_law_522 : decode cL_law 522 = .ok (.invokevirtual 52, 3) := by decide +kernel
theorem dL_law_525 : decode cL_law 525 = .ok (.aload_n 2, 1) := by decide +kernel
theorem dL_law_526 : decode cL_law 526 = .ok (.aload_n 0, 1) := by decide +kernel
theorem dL_law_527 : decode cL_law 527 = .ok (.iload_n 3, 1) := by decide +kernel
theorem dL_law_528 : decode cL_law 528 = .ok (.iconst 1, 1) := by decide +kernel
theorem dL_law_529 : decode cL_law 529 = .ok (.iadd, 1) := by decide +kernel
theorem dL_law_530 : decode cL_law 530 = .ok (.iaload, 1) := by decide +kernel
theorem dL_law_531 : decode cL_law 531 = .ok (.invokevirtual 55, 3) := by decide +kernel
theorem dL_law_534 : decode cL_law 534 = .ok (.if_icmp .eq 890, 3) := by decide +kernel
theorem dL_law_537 : decode cL_law 537 = .ok (.iconst 0, 1) := by decide +kernel
theorem dL_law_538 : decode cL_law 538 = .ok (.ireturn, 1) := by decide +kernel
theorem dL_law_539 : decode cL_law 539 = .ok (.aload_n 1, 1) := by decide +kernel
theorem dL_law_540 : decode cL_law 540 = .ok (.aload_n 0, 1) := by decide +kernel
theorem dL_law_541 : decode cL_law 541 = .ok (.iload_n 3, 1) := by decide +kernel
theorem dL_law_542 : decode cL_law 542 = .ok (.iconst 1, 1) := by decide +kernel
theorem dL_law_543 : decode cL_law 543 = .ok (.iadd, 1) := by decide +kernel
theorem dL_law_544 : decode cL_law 544 = .ok (.iaload, 1) := by decide +kernel
theorem dL_law_545 : decode cL_law 545 = .ok (.aload_n 0, 1) := by decide +kernel
theorem dL_law_546 : decode cL_law 546 = .ok (.iload_n 3, 1) := by decide +kernel
theorem dL_law_547 : decode cL_law 547 = .ok (.iconst 2, 1) := by decide +kernel
theorem dL_law_548 : decode cL_law 548 = .ok (.iadd, 1) := by decide +kernel
theorem dL_law_549 : decode cL_law 549 = .ok (.iaload, 1) := by decide +kernel
theorem dL_law_550 : decode cL_law 550 = .ok (.invokevirtual 56, 3) := by decide +kernel
theorem dL_law_553 : decode cL_law 553 = .ok (.aload_n 2, 1) := by decide +kernel
theorem dL_law_554 : decode cL_law 554 = .ok (.aload_n 0, 1) := by decide +kernel
theorem dL_law_555 : decode cL_law 555 = .ok (.iload_n 3, 1) := by decide +kernel
theorem dL_law_556 : decode cL_law 556 = .ok (.iconst 1, 1) := by decide +kernel
theorem dL_law_557 : decode cL_law 557 = .ok (.iadd, 1) := by decide +kernel
theorem dL_law_558 : decode cL_law 558 = .ok (.iaload, 1) := by decide +kernel
theorem dL_law_559 : decode cL_law 559 = .ok (.aload_n 0, 1) := by decide +kernel
theorem dL_law_560 : decode cL_law 560 = .ok (.iload_n 3, 1) := by decide +kernel
theorem dL_law_561 : decode cL_law 561 = .ok (.iconst 2, 1) := by decide +kernel
theorem dL_law_562 : decode cL_law 562 = .ok (.iadd, 1) := by decide +kernel
theorem dL_law_563 : decode cL_law 563 = .ok (.iaload, 1) := by decide +kernel
theorem dL_law_564 : decode cL_law 564 = .ok (.invokevirtual 59, 3) := by decide +kernel
theorem dL_law_567 : decode cL_law 567 = .ok (.if_icmp .eq 857, 3) := by decide +kernel
theorem dL_law_570 : decode cL_law 570 = .ok (.iconst 0, 1) := by decide +kernel
theorem dL_law_571 : decode cL_law 571 = .ok (.ireturn, 1) := by decide +kernel
theorem dL_law_572 : decode cL_law 572 = .ok (.aload_n 1, 1) := by decide +kernel
theorem dL_law_573 : decode cL_law 573 = .ok (.aload_n 0, 1) := by decide +kernel
theorem dL_law_574 : decode cL_law 574 = .ok (.iload_n 3, 1) := by decide +kernel
theorem dL_law_575 : decode cL_law 575 = .ok (.iconst 1, 1) := by decide +kernel
theorem dL_law_576 : decode cL_law 576 = .ok (.iadd, 1) := by decide +kernel
theorem dL_law_577 : decode cL_law 577 = .ok (.iaload, 1) := by decide +kernel
theorem dL_law_578 : decode cL_law 578 = .ok (.aload_n 0, 1) := by decide +kernel
theorem dL_law_579 : decode cL_law 579 = .ok (.iload_n 3, 1) := by decide +kernel
theorem dL_law_580 : decode cL_law 580 = .ok (.iconst 2, 1) := by decide +kernel
theorem dL_law_581 : decode cL_law 581 = .ok (.iadd, 1) := by decide +kernel
theorem dL_law_582 : decode cL_law 582 = .ok (.iaload, 1) := by decide +kernel
theorem dL_law_583 : decode cL_law 583 = .ok (.aload_n 0, 1) := by decide +kernel
theorem dL_law_584 : decode cL_law 584 = .ok (.iload_n 3, 1) := by decide +kernel
theorem dL_law_585 : decode cL_law 585 = .ok (.iconst 3, 1) := by decide +kernel
theorem dL_law_586 : decode cL_law 586 = .ok (.iadd, 1) := by decide +kernel
theorem dL_law_587 : decode cL_law 587 = .ok (.iaload, 1) := by decide +kernel
theorem dL_law_588 : decode cL_law 588 = .ok (.aload_n 0, 1) := by decide +kernel
theorem dL_law_589 : decode cL_law 589 = .ok (.iload_n 3, 1) := by decide +kernel
theorem dL_law_590 : decode cL_law 590 = .ok (.iconst 4, 1) := by decide +kernel
theorem dL_law_591 : decode cL_law 591 = .ok (.iadd, 1) := by decide +kernel
theorem dL_law_592 : decode cL_law 592 = .ok (.iaload, 1) := by decide +kernel
theorem dL_law_593 : decode cL_law 593 = .ok (.invokevirtual 60, 3) := by decide +kernel
theorem dL_law_596 : decode cL_law 596 = .ok (.aload_n 2, 1) := by decide +kernel
theorem dL_law_597 : decode cL_law 597 = .ok (.aload_n 0, 1) := by decide +kernel
theorem dL_law_598 : decode cL_law 598 = .ok (.iload_n 3, 1) := by decide +kernel
theorem dL_law_599 : decode cL_law 599 = .ok (.iconst 1, 1) := by decide +kernel
theorem dL_law_600 : decode cL_law 600 = .ok (.iadd, 1) := by decide +kernel
theorem dL_law_601 : decode cL_law 601 = .ok (.iaload, 1) := by decide +kernel
theorem dL_law_602 : decode cL_law 602 = .ok (.aload_n 0, 1) := by decide +kernel
theorem dL_law_603 : decode cL_law 603 = .ok (.iload_n 3, 1) := by decide +kernel
theorem dL_law_604 : decode cL_law 604 = .ok (.iconst 2, 1) := by decide +kernel
theorem dL_law_605 : decode cL_law 605 = .ok (.iadd, 1) := by decide +kernel
theorem dL_law_606 : decode cL_law 606 = .ok (.iaload, 1) := by decide +kernel
theorem dL_law_607 : decode cL_law 607 = .ok (.aload_n 0, 1) := by decide +kernel
theorem dL_law_608 : decode cL_law 608 = .ok (.iload_n 3, 1) := by decide +kernel
theorem dL_law_609 : decode cL_law 609 = .ok (.iconst 3, 1) := by decide +kernel
theorem dL_law_610 : decode cL_law 610 = .ok (.iadd, 1) := by decide +kernel
theorem dL_law_611 : decode cL_law 611 = .ok (.iaload, 1) := by decide +kernel
theorem dL_law_612 : decode cL_law 612 = .ok (.aload_n 0, 1) := by decide +kernel
theorem dL_law_613 : decode cL_law 613 = .ok (.iload_n 3, 1) := by decide +kernel
theorem dL_law_614 : decode cL_law 614 = .ok (.iconst 4, 1) := by decide +kernel
theorem dL_law_615 : decode cL_law 615 = .ok (.iadd, 1) := by decide +kernel
theorem dL_law_616 : decode cL_law 616 = .ok (.iaload, 1) := by decide +kernel
theorem dL_law_617 : decode cL_law 617 = .ok (.invokevirtual 64, 3) := by decide +kernel
theorem dL_law_620 : decode cL_law 620 = .ok (.lcmp, 1) := by decide +kernel
theorem dL_law_621 : decode cL_law 621 = .ok (.ifCond .eq 803, 3) := by decide +kernel
theorem dL_law_624 : decode cL_law 624 = .ok (.iconst 0, 1) := by decide +kernel
theorem dL_law_625 : decode cL_law 625 = .ok (.ireturn, 1) := by decide +kernel
theorem dL_law_626 : decode cL_law 626 = .ok (.aload_n 1, 1) := by decide +kernel
theorem dL_law_627 : decode cL_law 627 = .ok (.aload_n 0, 1) := by decide +kernel
theorem dL_law_628 : decode cL_law 628 = .ok (.iload_n 3, 1) := by decide +kernel
theorem dL_law_629 : decode cL_law 629 = .ok (.iconst 1, 1) := by decide +kernel
theorem dL_law_630 : decode cL_law 630 = .ok (.iadd, 1) := by decide +kernel
theorem dL_law_631 : decode cL_law 631 = .ok (.iaload, 1) := by decide +kernel
theorem dL_law_632 : decode cL_law 632 = .ok (.aload_n 0, 1) := by decide +kernel
theorem dL_law_633 : decode cL_law 633 = .ok (.iload_n 3, 1) := by decide +kernel
theorem dL_law_634 : decode cL_law 634 = .ok (.iconst 2, 1) := by decide +kernel
theorem dL_law_635 : decode cL_law 635 = .ok (.iadd, 1) := by decide +kernel
theorem dL_law_636 : decode cL_law 636 = .ok (.iaload, 1) := by decide +kernel
theorem dL_law_637 : decode cL_law 637 = .ok (.invokevirtual 65, 3) := by decide +kernel
theorem dL_law_640 : decode cL_law 640 = .ok (.aload_n 2, 1) := by decide +kernel
theorem dL_law_641 : decode cL_law 641 = .ok (.aload_n 0, 1) := by decide +kernel
theorem dL_law_642 : decode cL_law 642 = .ok (.iload_n 3, 1) := by decide +kernel
theorem dL_law_643 : decode cL_law 643 = .ok (.iconst 1, 1) := by decide +kernel
theorem dL_law_644 : decode cL_law 644 = .ok (.iadd, 1) := by decide +kernel
theorem dL_law_645 : decode cL_law 645 = .ok (.iaload, 1) := by decide +kernel
theorem dL_law_646 : decode cL_law 646 = .ok (.aload_n 0, 1) := by decide +kernel
theorem dL_law_647 : decode cL_law 647 = .ok (.iload_n 3, 1) := by decide +kernel
theorem dL_law_648 : decode cL_law 648 = .ok (.iconst 2, 1) := by decide +kernel
theorem dL_law_649 : decode cL_law 649 = .ok (.iadd, 1) := by decide +kernel
theorem dL_law_650 : decode cL_law 650 = .ok (.iaload, 1) := by decide +kernel
theorem dL_law_651 : decode cL_law 651 = .ok (.invokevirtual 69, 3) := by decide +kernel
theorem dL_law_654 : decode cL_law 654 = .ok (.lcmp, 1) := by decide +kernel
theorem dL_law_655 : decode cL_law 655 = .ok (.ifCond .eq 769, 3) := by decide +kernel
theorem dL_law_658 : decode cL_law 658 = .ok (.iconst 0, 1) := by decide +kernel
theorem dL_law_659 : decode cL_law 659 = .ok (.ireturn, 1) := by decide +kernel
theorem dL_law_660 : decode cL_law 660 = .ok (.aload_n 1, 1) := by decide +kernel
theorem dL_law_661 : decode cL_law 661 = .ok (.aload_n 0, 1) := by decide +kernel
theorem dL_law_662 : decode cL_law 662 = .ok (.iload_n 3, 1) := by decide +kernel
theorem dL_law_663 : decode cL_law 663 = .ok (.iconst 1, 1) := by decide +kernel
theorem dL_law_664 : decode cL_law 664 = .ok (.iadd, 1) := by decide +kernel
theorem dL_law_665 : decode cL_law 665 = .ok (.iaload, 1) := by decide +kernel
theorem dL_law_666 : decode cL_law 666 = .ok (.aload_n 0, 1) := by decide +kernel
theorem dL_law_667 : decode cL_law 667 = .ok (.iload_n 3, 1) := by decide +kernel
theorem dL_law_668 : decode cL_law 668 = .ok (.iconst 2, 1) := by decide +kernel
theorem dL_law_669 : decode cL_law 669 = .ok (.iadd, 1) := by decide +kernel
theorem dL_law_670 : decode cL_law 670 = .ok (.iaload, 1) := by decide +kernel
theorem dL_law_671 : decode cL_law 671 = .ok (.aload_n 0, 1) := by decide +kernel
theorem dL_law_672 : decode cL_law 672 = .ok (.iload_n 3, 1) := by decide +kernel
theorem dL_law_673 : decode cL_law 673 = .ok (.iconst 3, 1) := by decide +kernel
theorem dL_law_674 : decode cL_law 674 = .ok (.iadd, 1) := by decide +kernel
theorem dL_law_675 : decode cL_law 675 = .ok (.iaload, 1) := by decide +kernel
theorem dL_law_676 : decode cL_law 676 = .ok (.aload_n 0, 1) := by decide +kernel
theorem dL_law_677 : decode cL_law 677 = .ok (.iload_n 3, 1) := by decide +kernel
theorem dL_law_678 : decode cL_law 678 = .ok (.iconst 4, 1) := by decide +kernel
theorem dL_law_679 : decode cL_law 679 = .ok (.iadd, 1) := by decide +kernel
theorem dL_law_680 : decode cL_law 680 = .ok (.iaload, 1) := by decide +kernel
theorem dL_law_681 : decode cL_law 681 = .ok (.invokevirtual 70, 3) := by decide +kernel
theorem dL_law_684 : decode cL_law 684 = .ok (.aload_n 2, 1) := by decide +kernel
theorem dL_law_685 : decode cL_law 685 = .ok (.aload_n 0, 1) := by decide +kernel
theorem dL_law_686 : decode cL_law 686 = .ok (.iload_n 3, 1) := by decide +kernel
theorem dL_law_687 : decode cL_law 687 = .ok (.iconst 1, 1) := by decide +kernel
theorem dL_law_688 : decode cL_law 688 = .ok (.iadd, 1) := by decide +kernel
theorem dL_law_689 : decode cL_law 689 = .ok (.iaload, 1) := by decide +kernel
theorem dL_law_690 : decode cL_law 690 = .ok (.aload_n 0, 1) := by decide +kernel
theorem dL_law_691 : decode cL_law 691 = .ok (.iload_n 3, 1) := by decide +kernel
theorem dL_law_692 : decode cL_law 692 = .ok (.iconst 2, 1) := by decide +kernel
theorem dL_law_693 : decode cL_law 693 = .ok (.iadd, 1) := by decide +kernel
theorem dL_law_694 : decode cL_law 694 = .ok (.iaload, 1) := by decide +kernel
theorem dL_law_695 : decode cL_law 695 = .ok (.aload_n 0, 1) := by decide +kernel
theorem dL_law_696 : decode cL_law 696 = .ok (.iload_n 3, 1) := by decide +kernel
theorem dL_law_697 : decode cL_law 697 = .ok (.iconst 3, 1) := by decide +kernel
theorem dL_law_698 : decode cL_law 698 = .ok (.iadd, 1) := by decide +kernel
theorem dL_law_699 : decode cL_law 699 = .ok (.iaload, 1) := by decide +kernel
theorem dL_law_700 : decode cL_law 700 = .ok (.aload_n 0, 1) := by decide +kernel
theorem dL_law_701 : decode cL_law 701 = .ok (.iload_n 3, 1) := by decide +kernel
theorem dL_law_702 : decode cL_law 702 = .ok (.iconst 4, 1) := by decide +kernel
theorem dL_law_703 : decode cL_law 703 = .ok (.iadd, 1) := by decide +kernel
theorem dL_law_704 : decode cL_law 704 = .ok (.iaload, 1) := by decide +kernel
theorem dL_law_705 : decode cL_law 705 = .ok (.invokevirtual 73, 3) := by decide +kernel
theorem dL_law_708 : decode cL_law 708 = .ok (.lcmp, 1) := by decide +kernel
theorem dL_law_709 : decode cL_law 709 = .ok (.ifCond .eq 715, 3) := by decide +kernel
theorem dL_law_712 : decode cL_law 712 = .ok (.iconst 0, 1) := by decide +kernel
theorem dL_law_713 : decode cL_law 713 = .ok (.ireturn, 1) := by decide +kernel
theorem dL_law_714 : decode cL_law 714 = .ok (.aload_n 1, 1) := by decide +kernel
theorem dL_law_715 : decode cL_law 715 = .ok (.aload_n 0, 1) := by decide +kernel
theorem dL_law_716 : decode cL_law 716 = .ok (.iload_n 3, 1) := by decide +kernel
theorem dL_law_717 : decode cL_law 717 = .ok (.iconst 1, 1) := by decide +kernel
theorem dL_law_718 : decode cL_law 718 = .ok (.iadd, 1) := by decide +kernel
theorem dL_law_719 : decode cL_law 719 = .ok (.iaload, 1) := by decide +kernel
theorem dL_law_720 : decode cL_law 720 = .ok (.aload_n 0, 1) := by decide +kernel
theorem dL_law_721 : decode cL_law 721 = .ok (.iload_n 3, 1) := by decide +kernel
theorem dL_law_722 : decode cL_law 722 = .ok (.iconst 2, 1) := by decide +kernel
theorem dL_law_723 : decode cL_law 723 = .ok (.iadd, 1) := by decide +kernel
theorem dL_law_724 : decode cL_law 724 = .ok (.iaload, 1) := by decide +kernel
theorem dL_law_725 : decode cL_law 725 = .ok (.invokevirtual 74, 3) := by decide +kernel
theorem dL_law_728 : decode cL_law 728 = .ok (.aload_n 2, 1) := by decide +kernel
theorem dL_law_729 : decode cL_law 729 = .ok (.aload_n 0, 1) := by decide +kernel
theorem dL_law_730 : decode cL_law 730 = .ok (.iload_n 3, 1) := by decide +kernel
theorem dL_law_731 : decode cL_law 731 = .ok (.iconst 1, 1) := by decide +kernel
theorem dL_law_732 : decode cL_law 732 = .ok (.iadd, 1) := by decide +kernel
theorem dL_law_733 : decode cL_law 733 = .ok (.iaload, 1) := by decide +kernel
theorem dL_law_734 : decode cL_law 734 = .ok (.aload_n 0, 1) := by decide +kernel
theorem dL_law_735 : decode cL_law 735 = .ok (.iload_n 3, 1) := by decide +kernel
theorem dL_law_736 : decode cL_law 736 = .ok (.iconst 2, 1) := by decide +kernel
theorem dL_law_737 : decode cL_law 737 = .ok (.iadd, 1) := by decide +kernel
theorem dL_law_738 : decode cL_law 738 = .ok (.iaload, 1) := by decide +kernel
theorem dL_law_739 : decode cL_law 739 = .ok (.invokevirtual 77, 3) := by decide +kernel
theorem dL_law_742 : decode cL_law 742 = .ok (.if_icmp .eq 682, 3) := by decide +kernel
theorem dL_law_745 : decode cL_law 745 = .ok (.iconst 0, 1) := by decide +kernel
theorem dL_law_746 : decode cL_law 746 = .ok (.ireturn, 1) := by decide +kernel
theorem dL_law_747 : decode cL_law 747 = .ok (.aload_n 1, 1) := by decide +kernel
theorem dL_law_748 : decode cL_law 748 = .ok (.aload_n 0, 1) := by decide +kernel
theorem dL_law_749 : decode cL_law 749 = .ok (.iload_n 3, 1) := by decide +kernel
theorem dL_law_750 : decode cL_law 750 = .ok (.iconst 1, 1) := by decide +kernel
theorem dL_law_751 : decode cL_law 751 = .ok (.iadd, 1) := by decide +kernel
theorem dL_law_752 : decode cL_law 752 = .ok (.iaload, 1) := by decide +kernel
theorem dL_law_753 : decode cL_law 753 = .ok (.aload_n 0, 1) := by decide +kernel
theorem dL_law_754 : decode cL_law 754 = .ok (.iload_n 3, 1) := by decide +kernel
theorem dL_law_755 : decode cL_law 755 = .ok (.iconst 2, 1) := by decide +kernel
theorem dL_law_756 : decode cL_law 756 = .ok (.iadd, 1) := by decide +kernel
theorem dL_law_757 : decode cL_law 757 = .ok (.iaload, 1) := by decide +kernel
theorem dL_law_758 : decode cL_law 758 = .ok (.aload_n 0, 1) := by decide +kernel
theorem dL_law_759 : decode cL_law 759 = .ok (.iload_n 3, 1) := by decide +kernel
theorem dL_law_760 : decode cL_law 760 = .ok (.iconst 3, 1) := by decide +kernel
theorem dL_law_761 : decode cL_law 761 = .ok (.iadd, 1) := by decide +kernel
theorem dL_law_762 : decode cL_law 762 = .ok (.iaload, 1) := by decide +kernel
theorem dL_law_763 : decode cL_law 763 = .ok (.invokevirtual 78, 3) := by decide +kernel
theorem dL_law_766 : decode cL_law 766 = .ok (.aload_n 2, 1) := by decide +kernel
theorem dL_law_767 : decode cL_law 767 = .ok (.aload_n 0, 1) := by decide +kernel
theorem dL_law_768 : decode cL_law 768 = .ok (.iload_n 3, 1) := by decide +kernel
theorem dL_law_769 : decode cL_law 769 = .ok (.iconst 1, 1) := by decide +kernel
theorem dL_law_770 : decode cL_law 770 = .ok (.iadd, 1) := by decide +kernel
theorem dL_law_771 : decode cL_law 771 = .ok (.iaload, 1) := by decide +kernel
theorem dL_law_772 : decode cL_law 772 = .ok (.aload_n 0, 1) := by decide +kernel
theorem dL_law_773 : decode cL_law 773 = .ok (.iload_n 3, 1) := by decide +kernel
theorem dL_law_774 : decode cL_law 774 = .ok (.iconst 2, 1) := by decide +kernel
theorem dL_law_775 : decode cL_law 775 = .ok (.iadd, 1) := by decide +kernel
theorem dL_law_776 : decode cL_law 776 = .ok (.iaload, 1) := by decide +kernel
theorem dL_law_777 : decode cL_law 777 = .ok (.aload_n 0, 1) := by decide +kernel
theorem dL_law_778 : decode cL_law 778 = .ok (.iload_n 3, 1) := by decide +kernel
theorem dL_law_779 : decode cL_law 779 = .ok (.iconst 3, 1) := by decide +kernel
theorem dL_law_780 : decode cL_law 780 = .ok (.iadd, 1) := by decide +kernel
theorem dL_law_781 : decode cL_law 781 = .ok (.iaload, 1) := by decide +kernel
theorem dL_law_782 : decode cL_law 782 = .ok (.invokevirtual 81, 3) := by decide +kernel
theorem dL_law_785 : decode cL_law 785 = .ok (.if_icmp .eq 639, 3) := by decide +kernel
theorem dL_law_788 : decode cL_law 788 = .ok (.iconst 0, 1) := by decide +kernel
theorem dL_law_789 : decode cL_law 789 = .ok (.ireturn, 1) := by decide +kernel
theorem dL_law_790 : decode cL_law 790 = .ok (.aload_n 1, 1) := by decide +kernel
theorem dL_law_791 : decode cL_law 791 = .ok (.aload_n 0, 1) := by decide +kernel
theorem dL_law_792 : decode cL_law 792 = .ok (.iload_n 3, 1) := by decide +kernel
theorem dL_law_793 : decode cL_law 793 = .ok (.iconst 1, 1) := by decide +kernel
theorem dL_law_794 : decode cL_law 794 = .ok (.iadd, 1) := by decide +kernel
theorem dL_law_795 : decode cL_law 795 = .ok (.iaload, 1) := by decide +kernel
theorem dL_law_796 : decode cL_law 796 = .ok (.aload_n 0, 1) := by decide +kernel
theorem dL_law_797 : decode cL_law 797 = .ok (.iload_n 3, 1) := by decide +kernel
theorem dL_law_798 : decode cL_law 798 = .ok (.iconst 2, 1) := by decide +kernel
theorem dL_law_799 : decode cL_law 799 = .ok (.iadd, 1) := by decide +kernel
theorem dL_law_800 : decode cL_law 800 = .ok (.iaload, 1) := by decide +kernel
theorem dL_law_801 : decode cL_law 801 = .ok (.invokevirtual 82, 3) := by decide +kernel
theorem dL_law_804 : decode cL_law 804 = .ok (.aload_n 2, 1) := by decide +kernel
theorem dL_law_805 : decode cL_law 805 = .ok (.aload_n 0, 1) := by decide +kernel
theorem dL_law_806 : decode cL_law 806 = .ok (.iload_n 3, 1) := by decide +kernel
theorem dL_law_807 : decode cL_law 807 = .ok (.iconst 1, 1) := by decide +kernel
theorem dL_law_808 : decode cL_law 808 = .ok (.iadd, 1) := by decide +kernel
theorem dL_law_809 : decode cL_law 809 = .ok (.iaload, 1) := by decide +kernel
theorem dL_law_810 : decode cL_law 810 = .ok (.aload_n 0, 1) := by decide +kernel
theorem dL_law_811 : decode cL_law 811 = .ok (.iload_n 3, 1) := by decide +kernel
theorem dL_law_812 : decode cL_law 812 = .ok (.iconst 2, 1) := by decide +kernel
theorem dL_law_813 : decode cL_law 813 = .ok (.iadd, 1) := by decide +kernel
theorem dL_law_814 : decode cL_law 814 = .ok (.iaload, 1) := by decide +kernel
theorem dL_law_815 : decode cL_law 815 = .ok (.invokevirtual 85, 3) := by decide +kernel
theorem dL_law_818 : decode cL_law 818 = .ok (.if_icmp .eq 606, 3) := by decide +kernel
theorem dL_law_821 : decode cL_law 821 = .ok (.iconst 0, 1) := by decide +kernel
theorem dL_law_822 : decode cL_law 822 = .ok (.ireturn, 1) := by decide +kernel
theorem dL_law_823 : decode cL_law 823 = .ok (.aload_n 1, 1) := by decide +kernel
theorem dL_law_824 : decode cL_law 824 = .ok (.aload_n 0, 1) := by decide +kernel
theorem dL_law_825 : decode cL_law 825 = .ok (.iload_n 3, 1) := by decide +kernel
theorem dL_law_826 : decode cL_law 826 = .ok (.iconst 1, 1) := by decide +kernel
theorem dL_law_827 : decode cL_law 827 = .ok (.iadd, 1) := by decide +kernel
theorem dL_law_828 : decode cL_law 828 = .ok (.iaload, 1) := by decide +kernel
theorem dL_law_829 : decode cL_law 829 = .ok (.aload_n 0, 1) := by decide +kernel
theorem dL_law_830 : decode cL_law 830 = .ok (.iload_n 3, 1) := by decide +kernel
theorem dL_law_831 : decode cL_law 831 = .ok (.iconst 2, 1) := by decide +kernel
theorem dL_law_832 : decode cL_law 832 = .ok (.iadd, 1) := by decide +kernel
theorem dL_law_833 : decode cL_law 833 = .ok (.iaload, 1) := by decide +kernel
theorem dL_law_834 : decode cL_law 834 = .ok (.invokevirtual 86, 3) := by decide +kernel
theorem dL_law_837 : decode cL_law 837 = .ok (.aload_n 2, 1) := by decide +kernel
theorem dL_law_838 : decode cL_law 838 = .ok (.aload_n 0, 1) := by decide +kernel
theorem dL_law_839 : decode cL_law 839 = .ok (.iload_n 3, 1) := by decide +kernel
theorem dL_law_840 : decode cL_law 840 = .ok (.iconst 1, 1) := by decide +kernel
theorem dL_law_841 : decode cL_law 841 = .ok (.iadd, 1) := by decide +kernel
theorem dL_law_842 : decode cL_law 842 = .ok (.iaload, 1) := by decide +kernel
theorem dL_law_843 : decode cL_law 843 = .ok (.aload_n 0, 1) := by decide +kernel
theorem dL_law_844 : decode cL_law 844 = .ok (.iload_n 3, 1) := by decide +kernel
theorem dL_law_845 : decode cL_law 845 = .ok (.iconst 2, 1) := by decide +kernel
theorem dL_law_846 : decode cL_law 846 = .ok (.iadd, 1) := by decide +kernel
theorem dL_law_847 : decode cL_law 847 = .ok (.iaload, 1) := by decide +kernel
theorem dL_law_848 : decode cL_law 848 = .ok (.invokevirtual 89, 3) := by decide +kernel
theorem dL_law_851 : decode cL_law 851 = .ok (.if_icmp .eq 573, 3) := by decide +kernel
theorem dL_law_854 : decode cL_law 854 = .ok (.iconst 0, 1) := by decide +kernel
theorem dL_law_855 : decode cL_law 855 = .ok (.ireturn, 1) := by decide +kernel
theorem dL_law_856 : decode cL_law 856 = .ok (.aload_n 1, 1) := by decide +kernel
theorem dL_law_857 : decode cL_law 857 = .ok (.aload_n 0, 1) := by decide +kernel
theorem dL_law_858 : decode cL_law 858 = .ok (.iload_n 3, 1) := by decide +kernel
theorem dL_law_859 : decode cL_law 859 = .ok (.iconst 1, 1) := by decide +kernel
theorem dL_law_860 : decode cL_law 860 = .ok (.iadd, 1) := by decide +kernel
theorem dL_law_861 : decode cL_law 861 = .ok (.iaload, 1) := by decide +kernel
theorem dL_law_862 : decode cL_law 862 = .ok (.aload_n 0, 1) := by decide +kernel
theorem dL_law_863 : decode cL_law 863 = .ok (.iload_n 3, 1) := by decide +kernel
theorem dL_law_864 : decode cL_law 864 = .ok (.iconst 2, 1) := by decide +kernel
theorem dL_law_865 : decode cL_law 865 = .ok (.iadd, 1) := by decide +kernel
theorem dL_law_866 : decode cL_law 866 = .ok (.iaload, 1) := by decide +kernel
theorem dL_law_867 : decode cL_law 867 = .ok (.aload_n 0, 1) := by decide +kernel
theorem dL_law_868 : decode cL_law 868 = .ok (.iload_n 3, 1) := by decide +kernel
theorem dL_law_869 : decode cL_law 869 = .ok (.iconst 3, 1) := by decide +kernel
theorem dL_law_870 : decode cL_law 870 = .ok (.iadd, 1) := by decide +kernel
theorem dL_law_871 : decode cL_law 871 = .ok (.iaload, 1) := by decide +kernel
theorem dL_law_872 : decode cL_law 872 = .ok (.invokevirtual 90, 3) := by decide +kernel
theorem dL_law_875 : decode cL_law 875 = .ok (.aload_n 2, 1) := by decide +kernel
theorem dL_law_876 : decode cL_law 876 = .ok (.aload_n 0, 1) := by decide +kernel
theorem dL_law_877 : decode cL_law 877 = .ok (.iload_n 3, 1) := by decide +kernel
theorem dL_law_878 : decode cL_law 878 = .ok (.iconst 1, 1) := by decide +kernel
theorem dL_law_879 : decode cL_law 879 = .ok (.iadd, 1) := by decide +kernel
theorem dL_law_880 : decode cL_law 880 = .ok (.iaload, 1) := by decide +kernel
theorem dL_law_881 : decode cL_law 881 = .ok (.aload_n 0, 1) := by decide +kernel
theorem dL_law_882 : decode cL_law 882 = .ok (.iload_n 3, 1) := by decide +kernel
theorem dL_law_883 : decode cL_law 883 = .ok (.iconst 2, 1) := by decide +kernel
theorem dL_law_884 : decode cL_law 884 = .ok (.iadd, 1) := by decide +kernel
theorem dL_law_885 : decode cL_law 885 = .ok (.iaload, 1) := by decide +kernel
theorem dL_law_886 : decode cL_law 886 = .ok (.aload_n 0, 1) := by decide +kernel
theorem dL_law_887 : decode cL_law 887 = .ok (.iload_n 3, 1) := by decide +kernel
theorem dL_law_888 : decode cL_law 888 = .ok (.iconst 3, 1) := by decide +kernel
theorem dL_law_889 : decode cL_law 889 = .ok (.iadd, 1) := by decide +kernel
theorem dL_law_890 : decode cL_law 890 = .ok (.iaload, 1) := by decide +kernel
theorem dL_law_891 : decode cL_law 891 = .ok (.invokevirtual 93, 3) := by decide +kernel
theorem dL_law_894 : decode cL_law 894 = .ok (.if_icmp .eq 530, 3) := by decide +kernel
theorem dL_law_897 : decode cL_law 897 = .ok (.iconst 0, 1) := by decide +kernel
theorem dL_law_898 : decode cL_law 898 = .ok (.ireturn, 1) := by decide +kernel
theorem dL_law_899 : decode cL_law 899 = .ok (.aload_n 1, 1) := by decide +kernel
theorem dL_law_900 : decode cL_law 900 = .ok (.aload_n 0, 1) := by decide +kernel
theorem dL_law_901 : decode cL_law 901 = .ok (.iload_n 3, 1) := by decide +kernel
theorem dL_law_902 : decode cL_law 902 = .ok (.iconst 1, 1) := by decide +kernel
theorem dL_law_903 : decode cL_law 903 = .ok (.iadd, 1) := by decide +kernel
theorem dL_law_904 : decode cL_law 904 = .ok (.iaload, 1) := by decide +kernel
theorem dL_law_905 : decode cL_law 905 = .ok (.aload_n 0, 1) := by decide +kernel
theorem dL_law_906 : decode cL_law 906 = .ok (.iload_n 3, 1) := by decide +kernel
theorem dL_law_907 : decode cL_law 907 = .ok (.iconst 2, 1) := by decide +kernel
theorem dL_law_908 : decode cL_law 908 = .ok (.iadd, 1) := by decide +kernel
theorem dL_law_909 : decode cL_law 909 = .ok (.iaload, 1) := by decide +kernel
theorem dL_law_910 : decode cL_law 910 = .ok (.aload_n 0, 1) := by decide +kernel
theorem dL_law_911 : decode cL_law 911 = .ok (.iload_n 3, 1) := by decide +kernel
theorem dL_law_912 : decode cL_law 912 = .ok (.iconst 3, 1) := by decide +kernel
theorem dL_law_913 : decode cL_law 913 = .ok (.iadd, 1) := by decide +kernel
theorem dL_law_914 : decode cL_law 914 = .ok (.iaload, 1) := by decide +kernel
theorem dL_law_915 : decode cL_law 915 = .ok (.aload_n 0, 1) := by decide +kernel
theorem dL_law_916 : decode cL_law 916 = .ok (.iload_n 3, 1) := by decide +kernel
theorem dL_law_917 : decode cL_law 917 = .ok (.iconst 4, 1) := by decide +kernel
theorem dL_law_918 : decode cL_law 918 = .ok (.iadd, 1) := by decide +kernel
theorem dL_law_919 : decode cL_law 919 = .ok (.iaload, 1) := by decide +kernel
theorem dL_law_920 : decode cL_law 920 = .ok (.invokevirtual 94, 3) := by decide +kernel
theorem dL_law_923 : decode cL_law 923 = .ok (.aload_n 2, 1) := by decide +kernel
theorem dL_law_924 : decode cL_law 924 = .ok (.aload_n 0, 1) := by decide +kernel
theorem dL_law_925 : decode cL_law 925 = .ok (.iload_n 3, 1) := by decide +kernel
theorem dL_law_926 : decode cL_law 926 = .ok (.iconst 1, 1) := by decide +kernel
theorem dL_law_927 : decode cL_law 927 = .ok (.iadd, 1) := by decide +kernel
theorem dL_law_928 : decode cL_law 928 = .ok (.iaload, 1) := by decide +kernel
theorem dL_law_929 : decode cL_law 929 = .ok (.aload_n 0, 1) := by decide +kernel
theorem dL_law_930 : decode cL_law 930 = .ok (.iload_n 3, 1) := by decide +kernel
theorem dL_law_931 : decode cL_law 931 = .ok (.iconst 2, 1) := by decide +kernel
theorem dL_law_932 : decode cL_law 932 = .ok (.iadd, 1) := by decide +kernel
theorem dL_law_933 : decode cL_law 933 = .ok (.iaload, 1) := by decide +kernel
theorem dL_law_934 : decode cL_law 934 = .ok (.aload_n 0, 1) := by decide +kernel
theorem dL_law_935 : decode cL_law 935 = .ok (.iload_n 3, 1) := by decide +kernel
theorem dL_law_936 : decode cL_law 936 = .ok (.iconst 3, 1) := by decide +kernel
theorem dL_law_937 : decode cL_law 937 = .ok (.iadd, 1) := by decide +kernel
theorem dL_law_938 : decode cL_law 938 = .ok (.iaload, 1) := by decide +kernel
theorem dL_law_939 : decode cL_law 939 = .ok (.aload_n 0, 1) := by decide +kernel
theorem dL_law_940 : decode cL_law 940 = .ok (.iload_n 3, 1) := by decide +kernel
theorem dL_law_941 : decode cL_law 941 = .ok (.iconst 4, 1) := by decide +kernel
theorem dL_law_942 : decode cL_law 942 = .ok (.iadd, 1) := by decide +kernel
theorem dL_law_943 : decode cL_law 943 = .ok (.iaload, 1) := by decide +kernel
theorem dL_law_944 : decode cL_law 944 = .ok (.invokevirtual 97, 3) := by decide +kernel
theorem dL_law_947 : decode cL_law 947 = .ok (.if_icmp .eq 477, 3) := by decide +kernel
theorem dL_law_950 : decode cL_law 950 = .ok (.iconst 0, 1) := by decide +kernel
theorem dL_law_951 : decode cL_law 951 = .ok (.ireturn, 1) := by decide +kernel
theorem dL_law_952 : decode cL_law 952 = .ok (.aload_n 1, 1) := by decide +kernel
theorem dL_law_953 : decode cL_law 953 = .ok (.aload_n 0, 1) := by decide +kernel
theorem dL_law_954 : decode cL_law 954 = .ok (.iload_n 3, 1) := by decide +kernel
theorem dL_law_955 : decode cL_law 955 = .ok (.iconst 1, 1) := by decide +kernel
theorem dL_law_956 : decode cL_law 956 = .ok (.iadd, 1) := by decide +kernel
theorem dL_law_957 : decode cL_law 957 = .ok (.iaload, 1) := by decide +kernel
theorem dL_law_958 : decode cL_law 958 = .ok (.aload_n 0, 1) := by decide +kernel
theorem dL_law_959 : decode cL_law 959 = .ok (.iload_n 3, 1) := by decide +kernel
theorem dL_law_960 : decode cL_law 960 = .ok (.iconst 2, 1) := by decide +kernel
theorem dL_law_961 : decode cL_law 961 = .ok (.iadd, 1) := by decide +kernel
theorem dL_law_962 : decode cL_law 962 = .ok (.iaload, 1) := by decide +kernel
theorem dL_law_963 : decode cL_law 963 = .ok (.aload_n 0, 1) := by decide +kernel
theorem dL_law_964 : decode cL_law 964 = .ok (.iload_n 3, 1) := by decide +kernel
theorem dL_law_965 : decode cL_law 965 = .ok (.iconst 3, 1) := by decide +kernel
theorem dL_law_966 : decode cL_law 966 = .ok (.iadd, 1) := by decide +kernel
theorem dL_law_967 : decode cL_law 967 = .ok (.iaload, 1) := by decide +kernel
theorem dL_law_968 : decode cL_law 968 = .ok (.invokevirtual 98, 3) := by decide +kernel
theorem dL_law_971 : decode cL_law 971 = .ok (.aload_n 2, 1) := by decide +kernel
theorem dL_law_972 : decode cL_law 972 = .ok (.aload_n 0, 1) := by decide +kernel
theorem dL_law_973 : decode cL_law 973 = .ok (.iload_n 3, 1) := by decide +kernel
theorem dL_law_974 : decode cL_law 974 = .ok (.iconst 1, 1) := by decide +kernel
theorem dL_law_975 : decode cL_law 975 = .ok (.iadd, 1) := by decide +kernel
theorem dL_law_976 : decode cL_law 976 = .ok (.iaload, 1) := by decide +kernel
theorem dL_law_977 : decode cL_law 977 = .ok (.aload_n 0, 1) := by decide +kernel
theorem dL_law_978 : decode cL_law 978 = .ok (.iload_n 3, 1) := by decide +kernel
theorem dL_law_979 : decode cL_law 979 = .ok (.iconst 2, 1) := by decide +kernel
theorem dL_law_980 : decode cL_law 980 = .ok (.iadd, 1) := by decide +kernel
theorem dL_law_981 : decode cL_law 981 = .ok (.iaload, 1) := by decide +kernel
theorem dL_law_982 : decode cL_law 982 = .ok (.aload_n 0, 1) := by decide +kernel
theorem dL_law_983 : decode cL_law 983 = .ok (.iload_n 3, 1) := by decide +kernel
theorem dL_law_984 : decode cL_law 984 = .ok (.iconst 3, 1) := by decide +kernel
theorem dL_law_985 : decode cL_law 985 = .ok (.iadd, 1) := by decide +kernel
theorem dL_law_986 : decode cL_law 986 = .ok (.iaload, 1) := by decide +kernel
theorem dL_law_987 : decode cL_law 987 = .ok (.invokevirtual 102, 3) := by decide +kernel
theorem dL_law_990 : decode cL_law 990 = .ok (.lcmp, 1) := by decide +kernel
theorem dL_law_991 : decode cL_law 991 = .ok (.ifCond .eq 433, 3) := by decide +kernel
theorem dL_law_994 : decode cL_law 994 = .ok (.iconst 0, 1) := by decide +kernel
theorem dL_law_995 : decode cL_law 995 = .ok (.ireturn, 1) := by decide +kernel
theorem dL_law_996 : decode cL_law 996 = .ok (.aload_n 1, 1) := by decide +kernel
theorem dL_law_997 : decode cL_law 997 = .ok (.aload_n 0, 1) := by decide +kernel
theorem dL_law_998 : decode cL_law 998 = .ok (.iload_n 3, 1) := by decide +kernel
theorem dL_law_999 : decode cL_law 999 = .ok (.iconst 1, 1) := by decide +kernel
theorem dL_law_1000 : decode cL_law 1000 = .ok (.iadd, 1) := by decide +kernel
theorem dL_law_1001 : decode cL_law 1001 = .ok (.iaload, 1) := by decide +kernel
theorem dL_law_1002 : decode cL_law 1002 = .ok (.aload_n 0, 1) := by decide +kernel
theorem dL_law_1003 : decode cL_law 1003 = .ok (.iload_n 3, 1) := by decide +kernel
theorem dL_law_1004 : decode cL_law 1004 = .ok (.iconst 2, 1) := by decide +kernel
theorem dL_law_1005 : decode cL_law 1005 = .ok (.iadd, 1) := by decide +kernel
theorem dL_law_1006 : decode cL_law 1006 = .ok (.iaload, 1) := by decide +kernel
theorem dL_law_1007 : decode cL_law 1007 = .ok (.aload_n 0, 1) := by decide +kernel
theorem dL_law_1008 : decode cL_law 1008 = .ok (.iload_n 3, 1) := by decide +kernel
theorem dL_law_1009 : decode cL_law 1009 = .ok (.iconst 3, 1) := by decide +kernel
theorem dL_law_1010 : decode cL_law 1010 = .ok (.iadd, 1) := by decide +kernel
theorem dL_law_1011 : decode cL_law 1011 = .ok (.iaload, 1) := by decide +kernel
theorem dL_law_1012 : decode cL_law 1012 = .ok (.invokevirtual 103, 3) := by decide +kernel
theorem dL_law_1015 : decode cL_law 1015 = .ok (.aload_n 2, 1) := by decide +kernel
theorem dL_law_1016 : decode cL_law 1016 = .ok (.aload_n 0, 1) := by decide +kernel
theorem dL_law_1017 : decode cL_law 1017 = .ok (.iload_n 3, 1) := by decide +kernel
theorem dL_law_1018 : decode cL_law 1018 = .ok (.iconst 1, 1) := by decide +kernel
theorem dL_law_1019 : decode cL_law 1019 = .ok (.iadd, 1) := by decide +kernel
theorem dL_law_1020 : decode cL_law 1020 = .ok (.iaload, 1) := by decide +kernel
theorem dL_law_1021 : decode cL_law 1021 = .ok (.aload_n 0, 1) := by decide +kernel
theorem dL_law_1022 : decode cL_law 1022 = .ok (.iload_n 3, 1) := by decide +kernel
theorem dL_law_1023 : decode cL_law 1023 = .ok (.iconst 2, 1) := by decide +kernel
theorem dL_law_1024 : decode cL_law 1024 = .ok (.iadd, 1) := by decide +kernel
theorem dL_law_1025 : decode cL_law 1025 = .ok (.iaload, 1) := by decide +kernel
theorem dL_law_1026 : decode cL_law 1026 = .ok (.aload_n 0, 1) := by decide +kernel
theorem dL_law_1027 : decode cL_law 1027 = .ok (.iload_n 3, 1) := by decide +kernel
theorem dL_law_1028 : decode cL_law 1028 = .ok (.iconst 3, 1) := by decide +kernel
theorem dL_law_1029 : decode cL_law 1029 = .ok (.iadd, 1) := by decide +kernel
theorem dL_law_1030 : decode cL_law 1030 = .ok (.iaload, 1) := by decide +kernel
theorem dL_law_1031 : decode cL_law 1031 = .ok (.invokevirtual 106, 3) := by decide +kernel
theorem dL_law_1034 : decode cL_law 1034 = .ok (.if_icmp .eq 390, 3) := by decide +kernel
theorem dL_law_1037 : decode cL_law 1037 = .ok (.iconst 0, 1) := by decide +kernel
theorem dL_law_1038 : decode cL_law 1038 = .ok (.ireturn, 1) := by decide +kernel
theorem dL_law_1039 : decode cL_law 1039 = .ok (.aload_n 1, 1) := by decide +kernel
theorem dL_law_1040 : decode cL_law 1040 = .ok (.aload_n 0, 1) := by decide +kernel
theorem dL_law_1041 : decode cL_law 1041 = .ok (.iload_n 3, 1) := by decide +kernel
theorem dL_law_1042 : decode cL_law 1042 = .ok (.iconst 1, 1) := by decide +kernel
theorem dL_law_1043 : decode cL_law 1043 = .ok (.iadd, 1) := by decide +kernel
theorem dL_law_1044 : decode cL_law 1044 = .ok (.iaload, 1) := by decide +kernel
theorem dL_law_1045 : decode cL_law 1045 = .ok (.aload_n 0, 1) := by decide +kernel
theorem dL_law_1046 : decode cL_law 1046 = .ok (.iload_n 3, 1) := by decide +kernel
theorem dL_law_1047 : decode cL_law 1047 = .ok (.iconst 2, 1) := by decide +kernel
theorem dL_law_1048 : decode cL_law 1048 = .ok (.iadd, 1) := by decide +kernel
theorem dL_law_1049 : decode cL_law 1049 = .ok (.iaload, 1) := by decide +kernel
theorem dL_law_1050 : decode cL_law 1050 = .ok (.aload_n 0, 1) := by decide +kernel
theorem dL_law_1051 : decode cL_law 1051 = .ok (.iload_n 3, 1) := by decide +kernel
theorem dL_law_1052 : decode cL_law 1052 = .ok (.iconst 3, 1) := by decide +kernel
theorem dL_law_1053 : decode cL_law 1053 = .ok (.iadd, 1) := by decide +kernel
theorem dL_law_1054 : decode cL_law 1054 = .ok (.iaload, 1) := by decide +kernel
theorem dL_law_1055 : decode cL_law 1055 = .ok (.aload_n 0, 1) := by decide +kernel
theorem dL_law_1056 : decode cL_law 1056 = .ok (.iload_n 3, 1) := by decide +kernel
theorem dL_law_1057 : decode cL_law 1057 = .ok (.iconst 4, 1) := by decide +kernel
theorem dL_law_1058 : decode cL_law 1058 = .ok (.iadd, 1) := by decide +kernel
theorem dL_law_1059 : decode cL_law 1059 = .ok (.iaload, 1) := by decide +kernel
theorem dL_law_1060 : decode cL_law 1060 = .ok (.aload_n 0, 1) := by decide +kernel
theorem dL_law_1061 : decode cL_law 1061 = .ok (.iload_n 3, 1) := by decide +kernel
theorem dL_law_1062 : decode cL_law 1062 = .ok (.iconst 5, 1) := by decide +kernel
theorem dL_law_1063 : decode cL_law 1063 = .ok (.iadd, 1) := by decide +kernel
theorem dL_law_1064 : decode cL_law 1064 = .ok (.iaload, 1) := by decide +kernel
theorem dL_law_1065 : decode cL_law 1065 = .ok (.aload_n 0, 1) := by decide +kernel
theorem dL_law_1066 : decode cL_law 1066 = .ok (.iload_n 3, 1) := by decide +kernel
theorem dL_law_1067 : decode cL_law 1067 = .ok (.bipush 6, 2) := by decide +kernel
theorem dL_law_1069 : decode cL_law 1069 = .ok (.iadd, 1) := by decide +kernel
theorem dL_law_1070 : decode cL_law 1070 = .ok (.iaload, 1) := by decide +kernel
theorem dL_law_1071 : decode cL_law 1071 = .ok (.invokevirtual 107, 3) := by decide +kernel
theorem dL_law_1074 : decode cL_law 1074 = .ok (.aload_n 2, 1) := by decide +kernel
theorem dL_law_1075 : decode cL_law 1075 = .ok (.aload_n 0, 1) := by decide +kernel
theorem dL_law_1076 : decode cL_law 1076 = .ok (.iload_n 3, 1) := by decide +kernel
theorem dL_law_1077 : decode cL_law 1077 = .ok (.iconst 1, 1) := by decide +kernel
theorem dL_law_1078 : decode cL_law 1078 = .ok (.iadd, 1) := by decide +kernel
theorem dL_law_1079 : decode cL_law 1079 = .ok (.iaload, 1) := by decide +kernel
theorem dL_law_1080 : decode cL_law 1080 = .ok (.aload_n 0, 1) := by decide +kernel
theorem dL_law_1081 : decode cL_law 1081 = .ok (.iload_n 3, 1) := by decide +kernel
theorem dL_law_1082 : decode cL_law 1082 = .ok (.iconst 2, 1) := by decide +kernel
theorem dL_law_1083 : decode cL_law 1083 = .ok (.iadd, 1) := by decide +kernel
theorem dL_law_1084 : decode cL_law 1084 = .ok (.iaload, 1) := by decide +kernel
theorem dL_law_1085 : decode cL_law 1085 = .ok (.aload_n 0, 1) := by decide +kernel
theorem dL_law_1086 : decode cL_law 1086 = .ok (.iload_n 3, 1) := by decide +kernel
theorem dL_law_1087 : decode cL_law 1087 = .ok (.iconst 3, 1) := by decide +kernel
theorem dL_law_1088 : decode cL_law 1088 = .ok (.iadd, 1) := by decide +kernel
theorem dL_law_1089 : decode cL_law 1089 = .ok (.iaload, 1) := by decide +kernel
theorem dL_law_1090 : decode cL_law 1090 = .ok (.aload_n 0, 1) := by decide +kernel
theorem dL_law_1091 : decode cL_law 1091 = .ok (.iload_n 3, 1) := by decide +kernel
theorem dL_law_1092 : decode cL_law 1092 = .ok (.iconst 4, 1) := by decide +kernel
theorem dL_law_1093 : decode cL_law 1093 = .ok (.iadd, 1) := by decide +kernel
theorem dL_law_1094 : decode cL_law 1094 = .ok (.iaload, 1) := by decide +kernel
theorem dL_law_1095 : decode cL_law 1095 = .ok (.aload_n 0, 1) := by decide +kernel
theorem dL_law_1096 : decode cL_law 1096 = .ok (.iload_n 3, 1) := by decide +kernel
theorem dL_law_1097 : decode cL_law 1097 = .ok (.iconst 5, 1) := by decide +kernel
theorem dL_law_1098 : decode cL_law 1098 = .ok (.iadd, 1) := by decide +kernel
theorem dL_law_1099 : decode cL_law 1099 = .ok (.iaload, 1) := by decide +kernel
theorem dL_law_1100 : decode cL_law 1100 = .ok (.aload_n 0, 1) := by decide +kernel
theorem dL_law_1101 : decode cL_law 1101 = .ok (.iload_n 3, 1) := by decide +kernel
theorem dL_law_1102 : decode cL_law 1102 = .ok (.bipush 6, 2) := by decide +kernel
theorem dL_law_1104 : decode cL_law 1104 = .ok (.iadd, 1) := by decide +kernel
theorem dL_law_1105 : decode cL_law 1105 = .ok (.iaload, 1) := by decide +kernel
theorem dL_law_1106 : decode cL_law 1106 = .ok (.invokevirtual 111, 3) := by decide +kernel
theorem dL_law_1109 : decode cL_law 1109 = .ok (.lcmp, 1) := by decide +kernel
theorem dL_law_1110 : decode cL_law 1110 = .ok (.ifCond .eq 314, 3) := by decide +kernel
theorem dL_law_1113 : decode cL_law 1113 = .ok (.iconst 0, 1) := by decide +kernel
theorem dL_law_1114 : decode cL_law 1114 = .ok (.ireturn, 1) := by decide +kernel
theorem dL_law_1115 : decode cL_law 1115 = .ok (.aload_n 1, 1) := by decide +kernel
theorem dL_law_1116 : decode cL_law 1116 = .ok (.aload_n 0, 1) := by decide +kernel
theorem dL_law_1117 : decode cL_law 1117 = .ok (.iload_n 3, 1) := by decide +kernel
theorem dL_law_1118 : decode cL_law 1118 = .ok (.iconst 1, 1) := by decide +kernel
theorem dL_law_1119 : decode cL_law 1119 = .ok (.iadd, 1) := by decide +kernel
theorem dL_law_1120 : decode cL_law 1120 = .ok (.iaload, 1) := by decide +kernel
theorem dL_law_1121 : decode cL_law 1121 = .ok (.aload_n 0, 1) := by decide +kernel
theorem dL_law_1122 : decode cL_law 1122 = .ok (.iload_n 3, 1) := by decide +kernel
theorem dL_law_1123 : decode cL_law 1123 = .ok (.iconst 2, 1) := by decide +kernel
theorem dL_law_1124 : decode cL_law 1124 = .ok (.iadd, 1) := by decide +kernel
theorem dL_law_1125 : decode cL_law 1125 = .ok (.iaload, 1) := by decide +kernel
theorem dL_law_1126 : decode cL_law 1126 = .ok (.aload_n 0, 1) := by decide +kernel
theorem dL_law_1127 : decode cL_law 1127 = .ok (.iload_n 3, 1) := by decide +kernel
theorem dL_law_1128 : decode cL_law 1128 = .ok (.iconst 3, 1) := by decide +kernel
theorem dL_law_1129 : decode cL_law 1129 = .ok (.iadd, 1) := by decide +kernel
theorem dL_law_1130 : decode cL_law 1130 = .ok (.iaload, 1) := by decide +kernel
theorem dL_law_1131 : decode cL_law 1131 = .ok (.aload_n 0, 1) := by decide +kernel
theorem dL_law_1132 : decode cL_law 1132 = .ok (.iload_n 3, 1) := by decide +kernel
theorem dL_law_1133 : decode cL_law 1133 = .ok (.iconst 4, 1) := by decide +kernel
theorem dL_law_1134 : decode cL_law 1134 = .ok (.iadd, 1) := by decide +kernel
theorem dL_law_1135 : decode cL_law 1135 = .ok (.iaload, 1) := by decide +kernel
theorem dL_law_1136 : decode cL_law 1136 = .ok (.aload_n 0, 1) := by decide +kernel
theorem dL_law_1137 : decode cL_law 1137 = .ok (.iload_n 3, 1) := by decide +kernel
theorem dL_law_1138 : decode cL_law 1138 = .ok (.iconst 5, 1) := by decide +kernel
theorem dL_law_1139 : decode cL_law 1139 = .ok (.iadd, 1) := by decide +kernel
theorem dL_law_1140 : decode cL_law 1140 = .ok (.iaload, 1) := by decide +kernel
theorem dL_law_1141 : decode cL_law 1141 = .ok (.invokevirtual 112, 3) := by decide +kernel
theorem dL_law_1144 : decode cL_law 1144 = .ok (.aload_n 2, 1) := by decide +kernel
theorem dL_law_1145 : decode cL_law 1145 = .ok (.aload_n 0, 1) := by decide +kernel
theorem dL_law_1146 : decode cL_law 1146 = .ok (.iload_n 3, 1) := by decide +kernel
theorem dL_law_1147 : decode cL_law 1147 = .ok (.iconst 1, 1) := by decide +kernel
theorem dL_law_1148 : decode cL_law 1148 = .ok (.iadd, 1) := by decide +kernel
theorem dL_law_1149 : decode cL_law 1149 = .ok (.iaload, 1) := by decide +kernel
theorem dL_law_1150 : decode cL_law 1150 = .ok (.aload_n 0, 1) := by decide +kernel
theorem dL_law_1151 : decode cL_law 1151 = .ok (.iload_n 3, 1) := by decide +kernel
theorem dL_law_1152 : decode cL_law 1152 = .ok (.iconst 2, 1) := by decide +kernel
theorem dL_law_1153 : decode cL_law 1153 = .ok (.iadd, 1) := by decide +kernel
theorem dL_law_1154 : decode cL_law 1154 = .ok (.iaload, 1) := by decide +kernel
theorem dL_law_1155 : decode cL_law 1155 = .ok (.aload_n 0, 1) := by decide +kernel
theorem dL_law_1156 : decode cL_law 1156 = .ok (.iload_n 3, 1) := by decide +kernel
theorem dL_law_1157 : decode cL_law 1157 = .ok (.iconst 3, 1) := by decide +kernel
theorem dL_law_1158 : decode cL_law 1158 = .ok (.iadd, 1) := by decide +kernel
theorem dL_law_1159 : decode cL_law 1159 = .ok (.iaload, 1) := by decide +kernel
theorem dL_law_1160 : decode cL_law 1160 = .ok (.aload_n 0, 1) := by decide +kernel
theorem dL_law_1161 : decode cL_law 1161 = .ok (.iload_n 3, 1) := by decide +kernel
theorem dL_law_1162 : decode cL_law 1162 = .ok (.iconst 4, 1) := by decide +kernel
theorem dL_law_1163 : decode cL_law 1163 = .ok (.iadd, 1) := by decide +kernel
theorem dL_law_1164 : decode cL_law 1164 = .ok (.iaload, 1) := by decide +kernel
theorem dL_law_1165 : decode cL_law 1165 = .ok (.aload_n 0, 1) := by decide +kernel
theorem dL_law_1166 : decode cL_law 1166 = .ok (.iload_n 3, 1) := by decide +kernel
theorem dL_law_1167 : decode cL_law 1167 = .ok (.iconst 5, 1) := by decide +kernel
theorem dL_law_1168 : decode cL_law 1168 = .ok (.iadd, 1) := by decide +kernel
theorem dL_law_1169 : decode cL_law 1169 = .ok (.iaload, 1) := by decide +kernel
theorem dL_law_1170 : decode cL_law 1170 = .ok (.invokevirtual 116, 3) := by decide +kernel
theorem dL_law_1173 : decode cL_law 1173 = .ok (.lcmp, 1) := by decide +kernel
theorem dL_law_1174 : decode cL_law 1174 = .ok (.ifCond .eq 250, 3) := by decide +kernel
theorem dL_law_1177 : decode cL_law 1177 = .ok (.iconst 0, 1) := by decide +kernel
theorem dL_law_1178 : decode cL_law 1178 = .ok (.ireturn, 1) := by decide +kernel
theorem dL_law_1179 : decode cL_law 1179 = .ok (.aload_n 1, 1) := by decide +kernel
theorem dL_law_1180 : decode cL_law 1180 = .ok (.invokevirtual 117, 3) := by decide +kernel
theorem dL_law_1183 : decode cL_law 1183 = .ok (.aload_n 2, 1) := by decide +kernel
theorem dL_law_1184 : decode cL_law 1184 = .ok (.invokevirtual 121, 3) := by decide +kernel
theorem dL_law_1187 : decode cL_law 1187 = .ok (.if_icmp .eq 237, 3) := by decide +kernel
theorem dL_law_1190 : decode cL_law 1190 = .ok (.iconst 0, 1) := by decide +kernel
theorem dL_law_1191 : decode cL_law 1191 = .ok (.ireturn, 1) := by decide +kernel
theorem dL_law_1192 : decode cL_law 1192 = .ok (.aload_n 1, 1) := by decide +kernel
theorem dL_law_1193 : decode cL_law 1193 = .ok (.aload_n 0, 1) := by decide +kernel
theorem dL_law_1194 : decode cL_law 1194 = .ok (.iload_n 3, 1) := by decide +kernel
theorem dL_law_1195 : decode cL_law 1195 = .ok (.iconst 1, 1) := by decide +kernel
theorem dL_law_1196 : decode cL_law 1196 = .ok (.iadd, 1) := by decide +kernel
theorem dL_law_1197 : decode cL_law 1197 = .ok (.iaload, 1) := by decide +kernel
theorem dL_law_1198 : decode cL_law 1198 = .ok (.invokevirtual 122, 3) := by decide +kernel
theorem dL_law_1201 : decode cL_law 1201 = .ok (.aload_n 2, 1) := by decide +kernel
theorem dL_law_1202 : decode cL_law 1202 = .ok (.aload_n 0, 1) := by decide +kernel
theorem dL_law_1203 : decode cL_law 1203 = .ok (.iload_n 3, 1) := by decide +kernel
theorem dL_law_1204 : decode cL_law 1204 = .ok (.iconst 1, 1) := by decide +kernel
theorem dL_law_1205 : decode cL_law 1205 = .ok (.iadd, 1) := by decide +kernel
theorem dL_law_1206 : decode cL_law 1206 = .ok (.iaload, 1) := by decide +kernel
theorem dL_law_1207 : decode cL_law 1207 = .ok (.invokevirtual 126, 3) := by decide +kernel
theorem dL_law_1210 : decode cL_law 1210 = .ok (.lcmp, 1) := by decide +kernel
theorem dL_law_1211 : decode cL_law 1211 = .ok (.ifCond .eq 213, 3) := by decide +kernel
theorem dL_law_1214 : decode cL_law 1214 = .ok (.iconst 0, 1) := by decide +kernel
theorem dL_law_1215 : decode cL_law 1215 = .ok (.ireturn, 1) := by decide +kernel
theorem dL_law_1216 : decode cL_law 1216 = .ok (.aload_n 1, 1) := by decide +kernel
theorem dL_law_1217 : decode cL_law 1217 = .ok (.aload_n 0, 1) := by decide +kernel
theorem dL_law_1218 : decode cL_law 1218 = .ok (.iload_n 3, 1) := by decide +kernel
theorem dL_law_1219 : decode cL_law 1219 = .ok (.iconst 1, 1) := by decide +kernel
theorem dL_law_1220 : decode cL_law 1220 = .ok (.iadd, 1) := by decide +kernel
theorem dL_law_1221 : decode cL_law 1221 = .ok (.iaload, 1) := by decide +kernel
theorem dL_law_1222 : decode cL_law 1222 = .ok (.aload_n 0, 1) := by decide +kernel
theorem dL_law_1223 : decode cL_law 1223 = .ok (.iload_n 3, 1) := by decide +kernel
theorem dL_law_1224 : decode cL_law 1224 = .ok (.iconst 2, 1) := by decide +kernel
theorem dL_law_1225 : decode cL_law 1225 = .ok (.iadd, 1) := by decide +kernel
theorem dL_law_1226 : decode cL_law 1226 = .ok (.iaload, 1) := by decide +kernel
theorem dL_law_1227 : decode cL_law 1227 = .ok (.aload_n 0, 1) := by decide +kernel
theorem dL_law_1228 : decode cL_law 1228 = .ok (.iload_n 3, 1) := by decide +kernel
theorem dL_law_1229 : decode cL_law 1229 = .ok (.iconst 3, 1) := by decide +kernel
theorem dL_law_1230 : decode cL_law 1230 = .ok (.iadd, 1) := by decide +kernel
theorem dL_law_1231 : decode cL_law 1231 = .ok (.iaload, 1) := by decide +kernel
theorem dL_law_1232 : decode cL_law 1232 = .ok (.aload_n 0, 1) := by decide +kernel
theorem dL_law_1233 : decode cL_law 1233 = .ok (.iload_n 3, 1) := by decide +kernel
theorem dL_law_1234 : decode cL_law 1234 = .ok (.iconst 4, 1) := by decide +kernel
theorem dL_law_1235 : decode cL_law 1235 = .ok (.iadd, 1) := by decide +kernel
theorem dL_law_1236 : decode cL_law 1236 = .ok (.iaload, 1) := by decide +kernel
theorem dL_law_1237 : decode cL_law 1237 = .ok (.aload_n 0, 1) := by decide +kernel
theorem dL_law_1238 : decode cL_law 1238 = .ok (.iload_n 3, 1) := by decide +kernel
theorem dL_law_1239 : decode cL_law 1239 = .ok (.iconst 5, 1) := by decide +kernel
theorem dL_law_1240 : decode cL_law 1240 = .ok (.iadd, 1) := by decide +kernel
theorem dL_law_1241 : decode cL_law 1241 = .ok (.iaload, 1) := by decide +kernel
theorem dL_law_1242 : decode cL_law 1242 = .ok (.invokevirtual 127, 3) := by decide +kernel
theorem dL_law_1245 : decode cL_law 1245 = .ok (.aload_n 2, 1) := by decide +kernel
theorem dL_law_1246 : decode cL_law 1246 = .ok (.aload_n 0, 1) := by decide +kernel
theorem dL_law_1247 : decode cL_law 1247 = .ok (.iload_n 3, 1) := by decide +kernel
theorem dL_law_1248 : decode cL_law 1248 = .ok (.iconst 1, 1) := by decide +kernel
theorem dL_law_1249 : decode cL_law 1249 = .ok (.iadd, 1) := by decide +kernel
theorem dL_law_1250 : decode cL_law 1250 = .ok (.iaload, 1) := by decide +kernel
theorem dL_law_1251 : decode cL_law 1251 = .ok (.aload_n 0, 1) := by decide +kernel
theorem dL_law_1252 : decode cL_law 1252 = .ok (.iload_n 3, 1) := by decide +kernel
theorem dL_law_1253 : decode cL_law 1253 = .ok (.iconst 2, 1) := by decide +kernel
theorem dL_law_1254 : decode cL_law 1254 = .ok (.iadd, 1) := by decide +kernel
theorem dL_law_1255 : decode cL_law 1255 = .ok (.iaload, 1) := by decide +kernel
theorem dL_law_1256 : decode cL_law 1256 = .ok (.aload_n 0, 1) := by decide +kernel
theorem dL_law_1257 : decode cL_law 1257 = .ok (.iload_n 3, 1) := by decide +kernel
theorem dL_law_1258 : decode cL_law 1258 = .ok (.iconst 3, 1) := by decide +kernel
theorem dL_law_1259 : decode cL_law 1259 = .ok (.iadd, 1) := by decide +kernel
theorem dL_law_1260 : decode cL_law 1260 = .ok (.iaload, 1) := by decide +kernel
theorem dL_law_1261 : decode cL_law 1261 = .ok (.aload_n 0, 1) := by decide +kernel
theorem dL_law_1262 : decode cL_law 1262 = .ok (.iload_n 3, 1) := by decide +kernel
theorem dL_law_1263 : decode cL_law 1263 = .ok (.iconst 4, 1) := by decide +kernel
theorem dL_law_1264 : decode cL_law 1264 = .ok (.iadd, 1) := by decide +kernel
theorem dL_law_1265 : decode cL_law 1265 = .ok (.iaload, 1) := by decide +kernel
theorem dL_law_1266 : decode cL_law 1266 = .ok (.aload_n 0, 1) := by decide +kernel
theorem dL_law_1267 : decode cL_law 1267 = .ok (.iload_n 3, 1) := by decide +kernel
theorem dL_law_1268 : decode cL_law 1268 = .ok (.iconst 5, 1) := by decide +kernel
theorem dL_law_1269 : decode cL_law 1269 = .ok (.iadd, 1) := by decide +kernel
theorem dL_law_1270 : decode cL_law 1270 = .ok (.iaload, 1) := by decide +kernel
theorem dL_law_1271 : decode cL_law 1271 = .ok (.invokevirtual 131, 3) := by decide +kernel
theorem dL_law_1274 : decode cL_law 1274 = .ok (.if_icmp .eq 150, 3) := by decide +kernel
theorem dL_law_1277 : decode cL_law 1277 = .ok (.iconst 0, 1) := by decide +kernel
theorem dL_law_1278 : decode cL_law 1278 = .ok (.ireturn, 1) := by decide +kernel
theorem dL_law_1279 : decode cL_law 1279 = .ok (.aload_n 1, 1) := by decide +kernel
theorem dL_law_1280 : decode cL_law 1280 = .ok (.invokevirtual 132, 3) := by decide +kernel
theorem dL_law_1283 : decode cL_law 1283 = .ok (.aload_n 2, 1) := by decide +kernel
theorem dL_law_1284 : decode cL_law 1284 = .ok (.invokevirtual 135, 3) := by decide +kernel
theorem dL_law_1287 : decode cL_law 1287 = .ok (.if_icmp .eq 137, 3) := by decide +kernel
theorem dL_law_1290 : decode cL_law 1290 = .ok (.iconst 0, 1) := by decide +kernel
theorem dL_law_1291 : decode cL_law 1291 = .ok (.ireturn, 1) := by decide +kernel
theorem dL_law_1292 : decode cL_law 1292 = .ok (.aload_n 1, 1) := by decide +kernel
theorem dL_law_1293 : decode cL_law 1293 = .ok (.invokevirtual 136, 3) := by decide +kernel
theorem dL_law_1296 : decode cL_law 1296 = .ok (.aload_n 2, 1) := by decide +kernel
theorem dL_law_1297 : decode cL_law 1297 = .ok (.invokevirtual 139, 3) := by decide +kernel
theorem dL_law_1300 : decode cL_law 1300 = .ok (.if_icmp .eq 124, 3) := by decide +kernel
theorem dL_law_1303 : decode cL_law 1303 = .ok (.iconst 0, 1) := by decide +kernel
theorem dL_law_1304 : decode cL_law 1304 = .ok (.ireturn, 1) := by decide +kernel
theorem dL_law_1305 : decode cL_law 1305 = .ok (.aload_n 1, 1) := by decide +kernel
theorem dL_law_1306 : decode cL_law 1306 = .ok (.aload_n 0, 1) := by decide +kernel
theorem dL_law_1307 : decode cL_law 1307 = .ok (.iload_n 3, 1) := by decide +kernel
theorem dL_law_1308 : decode cL_law 1308 = .ok (.iconst 1, 1) := by decide +kernel
theorem dL_law_1309 : decode cL_law 1309 = .ok (.iadd, 1) := by decide +kernel
theorem dL_law_1310 : decode cL_law 1310 = .ok (.iaload, 1) := by decide +kernel
theorem dL_law_1311 : decode cL_law 1311 = .ok (.aload_n 0, 1) := by decide +kernel
theorem dL_law_1312 : decode cL_law 1312 = .ok (.iload_n 3, 1) := by decide +kernel
theorem dL_law_1313 : decode cL_law 1313 = .ok (.iconst 2, 1) := by decide +kernel
theorem dL_law_1314 : decode cL_law 1314 = .ok (.iadd, 1) := by decide +kernel
theorem dL_law_1315 : decode cL_law 1315 = .ok (.iaload, 1) := by decide +kernel
theorem dL_law_1316 : decode cL_law 1316 = .ok (.aload_n 0, 1) := by decide +kernel
theorem dL_law_1317 : decode cL_law 1317 = .ok (.iload_n 3, 1) := by decide +kernel
theorem dL_law_1318 : decode cL_law 1318 = .ok (.iconst 3, 1) := by decide +kernel
theorem dL_law_1319 : decode cL_law 1319 = .ok (.iadd, 1) := by decide +kernel
theorem dL_law_1320 : decode cL_law 1320 = .ok (.iaload, 1) := by decide +kernel
theorem dL_law_1321 : decode cL_law 1321 = .ok (.invokevirtual 140, 3) := by decide +kernel
theorem dL_law_1324 : decode cL_law 1324 = .ok (.aload_n 2, 1) := by decide +kernel
theorem dL_law_1325 : decode cL_law 1325 = .ok (.aload_n 0, 1) := by decide +kernel
theorem dL_law_1326 : decode cL_law 1326 = .ok (.iload_n 3, 1) := by decide +kernel
theorem dL_law_1327 : decode cL_law 1327 = .ok (.iconst 1, 1) := by decide +kernel
theorem dL_law_1328 : decode cL_law 1328 = .ok (.iadd, 1) := by decide +kernel
theorem dL_law_1329 : decode cL_law 1329 = .ok (.iaload, 1) := by decide +kernel
theorem dL_law_1330 : decode cL_law 1330 = .ok (.aload_n 0, 1) := by decide +kernel
theorem dL_law_1331 : decode cL_law 1331 = .ok (.iload_n 3, 1) := by decide +kernel
theorem dL_law_1332 : decode cL_law 1332 = .ok (.iconst 2, 1) := by decide +kernel
theorem dL_law_1333 : decode cL_law 1333 = .ok (.iadd, 1) := by decide +kernel
theorem dL_law_1334 : decode cL_law 1334 = .ok (.iaload, 1) := by decide +kernel
theorem dL_law_1335 : decode cL_law 1335 = .ok (.aload_n 0, 1) := by decide +kernel
theorem dL_law_1336 : decode cL_law 1336 = .ok (.iload_n 3, 1) := by decide +kernel
theorem dL_law_1337 : decode cL_law 1337 = .ok (.iconst 3, 1) := by decide +kernel
theorem dL_law_1338 : decode cL_law 1338 = .ok (.iadd, 1) := by decide +kernel
theorem dL_law_1339 : decode cL_law 1339 = .ok (.iaload, 1) := by decide +kernel
theorem dL_law_1340 : decode cL_law 1340 = .ok (.invokevirtual 143, 3) := by decide +kernel
theorem dL_law_1343 : decode cL_law 1343 = .ok (.if_icmp .eq 81, 3) := by decide +kernel
theorem dL_law_1346 : decode cL_law 1346 = .ok (.iconst 0, 1) := by decide +kernel
theorem dL_law_1347 : decode cL_law 1347 = .ok (.ireturn, 1) := by decide +kernel
theorem dL_law_1348 : decode cL_law 1348 = .ok (.aload_n 1, 1) := by decide +kernel
theorem dL_law_1349 : decode cL_law 1349 = .ok (.aload_n 0, 1) := by decide +kernel
theorem dL_law_1350 : decode cL_law 1350 = .ok (.iload_n 3, 1) := by decide +kernel
theorem dL_law_1351 : decode cL_law 1351 = .ok (.iconst 1, 1) := by decide +kernel
theorem dL_law_1352 : decode cL_law 1352 = .ok (.iadd, 1) := by decide +kernel
theorem dL_law_1353 : decode cL_law 1353 = .ok (.iaload, 1) := by decide +kernel
theorem dL_law_1354 : decode cL_law 1354 = .ok (.invokevirtual 144, 3) := by decide +kernel
theorem dL_law_1357 : decode cL_law 1357 = .ok (.aload_n 2, 1) := by decide +kernel
theorem dL_law_1358 : decode cL_law 1358 = .ok (.aload_n 0, 1) := by decide +kernel
theorem dL_law_1359 : decode cL_law 1359 = .ok (.iload_n 3, 1) := by decide +kernel
theorem dL_law_1360 : decode cL_law 1360 = .ok (.iconst 1, 1) := by decide +kernel
theorem dL_law_1361 : decode cL_law 1361 = .ok (.iadd, 1) := by decide +kernel
theorem dL_law_1362 : decode cL_law 1362 = .ok (.iaload, 1) := by decide +kernel
theorem dL_law_1363 : decode cL_law 1363 = .ok (.invokevirtual 147, 3) := by decide +kernel
theorem dL_law_1366 : decode cL_law 1366 = .ok (.if_icmp .eq 58, 3) := by decide +kernel
theorem dL_law_1369 : decode cL_law 1369 = .ok (.iconst 0, 1) := by decide +kernel
theorem dL_law_1370 : decode cL_law 1370 = .ok (.ireturn, 1) := by decide +kernel
theorem dL_law_1371 : decode cL_law 1371 = .ok (.aload_n 1, 1) := by decide +kernel
theorem dL_law_1372 : decode cL_law 1372 = .ok (.aload_n 0, 1) := by decide +kernel
theorem dL_law_1373 : decode cL_law 1373 = .ok (.iload_n 3, 1) := by decide +kernel
theorem dL_law_1374 : decode cL_law 1374 = .ok (.iconst 1, 1) := by decide +kernel
theorem dL_law_1375 : decode cL_law 1375 = .ok (.iadd, 1) := by decide +kernel
theorem dL_law_1376 : decode cL_law 1376 = .ok (.iaload, 1) := by decide +kernel
theorem dL_law_1377 : decode cL_law 1377 = .ok (.aload_n 0, 1) := by decide +kernel
theorem dL_law_1378 : decode cL_law 1378 = .ok (.iload_n 3, 1) := by decide +kernel
theorem dL_law_1379 : decode cL_law 1379 = .ok (.iconst 2, 1) := by decide +kernel
theorem dL_law_1380 : decode cL_law 1380 = .ok (.iadd, 1) := by decide +kernel
theorem dL_law_1381 : decode cL_law 1381 = .ok (.iaload, 1) := by decide +kernel
theorem dL_law_1382 : decode cL_law 1382 = .ok (.aload_n 0, 1) := by decide +kernel
theorem dL_law_1383 : decode cL_law 1383 = .ok (.iload_n 3, 1) := by decide +kernel
theorem dL_law_1384 : decode cL_law 1384 = .ok (.iconst 3, 1) := by decide +kernel
theorem dL_law_1385 : decode cL_law 1385 = .ok (.iadd, 1) := by decide +kernel
theorem dL_law_1386 : decode cL_law 1386 = .ok (.iaload, 1) := by decide +kernel
theorem dL_law_1387 : decode cL_law 1387 = .ok (.aload_n 0, 1) := by decide +kernel
theorem dL_law_1388 : decode cL_law 1388 = .ok (.iload_n 3, 1) := by decide +kernel
theorem dL_law_1389 : decode cL_law 1389 = .ok (.iconst 4, 1) := by decide +kernel
theorem dL_law_1390 : decode cL_law 1390 = .ok (.iadd, 1) := by decide +kernel
theorem dL_law_1391 : decode cL_law 1391 = .ok (.iaload, 1) := by decide +kernel
theorem dL_law_1392 : decode cL_law 1392 = .ok (.invokevirtual 148, 3) := by decide +kernel
theorem dL_law_1395 : decode cL_law 1395 = .ok (.aload_n 2, 1) := by decide +kernel
theorem dL_law_1396 : decode cL_law 1396 = .ok (.aload_n 0, 1) := by decide +kernel
theorem dL_law_1397 : decode cL_law 1397 = .ok (.iload_n 3, 1) := by decide +kernel
theorem dL_law_1398 : decode cL_law 1398 = .ok (.iconst 1, 1) := by decide +kernel
theorem dL_law_1399 : decode cL_law 1399 = .ok (.iadd, 1) := by decide +kernel
theorem dL_law_1400 : decode cL_law 1400 = .ok (.iaload, 1) := by decide +kernel
theorem dL_law_1401 : decode cL_law 1401 = .ok (.aload_n 0, 1) := by decide +kernel
theorem dL_law_1402 : decode cL_law 1402 = .ok (.iload_n 3, 1) := by decide +kernel
theorem dL_law_1403 : decode cL_law 1403 = .ok (.iconst 2, 1) := by decide +kernel
theorem dL_law_1404 : decode cL_law 1404 = .ok (.iadd, 1) := by decide +kernel
theorem dL_law_1405 : decode cL_law 1405 = .ok (.iaload, 1) := by decide +kernel
theorem dL_law_1406 : decode cL_law 1406 = .ok (.aload_n 0, 1) := by decide +kernel
theorem dL_law_1407 : decode cL_law 1407 = .ok (.iload_n 3, 1) := by decide +kernel
theorem dL_law_1408 : decode cL_law 1408 = .ok (.iconst 3, 1) := by decide +kernel
theorem dL_law_1409 : decode cL_law 1409 = .ok (.iadd, 1) := by decide +kernel
theorem dL_law_1410 : decode cL_law 1410 = .ok (.iaload, 1) := by decide +kernel
theorem dL_law_1411 : decode cL_law 1411 = .ok (.aload_n 0, 1) := by decide +kernel
theorem dL_law_1412 : decode cL_law 1412 = .ok (.iload_n 3, 1) := by decide +kernel
theorem dL_law_1413 : decode cL_law 1413 = .ok (.iconst 4, 1) := by decide +kernel
theorem dL_law_1414 : decode cL_law 1414 = .ok (.iadd, 1) := by decide +kernel
theorem dL_law_1415 : decode cL_law 1415 = .ok (.iaload, 1) := by decide +kernel
theorem dL_law_1416 : decode cL_law 1416 = .ok (.invokevirtual 151, 3) := by decide +kernel
theorem dL_law_1419 : decode cL_law 1419 = .ok (.if_icmp .eq 5, 3) := by decide +kernel
theorem dL_law_1422 : decode cL_law 1422 = .ok (.iconst 0, 1) := by decide +kernel
theorem dL_law_1423 : decode cL_law 1423 = .ok (.ireturn, 1) := by decide +kernel
theorem dL_law_1424 : decode cL_law 1424 = .ok (.iinc 3 7, 3) := by decide +kernel
theorem dL_law_1427 : decode cL_law 1427 = .ok (.goto (-1409), 3) := by decide +kernel
theorem dL_law_1430 : decode cL_law 1430 = .ok (.iconst 1, 1) := by decide +kernel
theorem dL_law_1431 : decode cL_law 1431 = .ok (.ireturn, 1) := by decide +kernel
end
section
-- ===== the engine: a judgement over pictures of the heap =====
abbrev Ev : Type := Launch × va_G × Nat × (Nat → ClassId) × (State → Prop)
abbrev Hp : Type := Nat × Nat × (Nat → va_E)
abbrev MI : Type := MethodName × ByteArray × Nat × Option FieldType
def wA : List Cond := lw_tbl.filter goodWord
theorem wA_good {w : Cond} (h : w ∈ wA) : (w.onTables && w.keeps) = true ∨ ∃ ty, w = .arrayClass ty := good_of_word (List.mem_filter.mp h).2
theorem wA_of {w : Cond} (h : w ∈ lw_tbl) (hg : goodWord w = true) : w ∈ wA := List.mem_filter.mpr ⟨h, hg⟩
theorem wA_t {w : Cond} (i : Nat) (h : tables_1[i]? = some w) (hg : goodWord w = true) : w ∈ wA := wA_of (List.mem_append_right _ (List.mem_of_getElem? h)) hg
theorem wA_s {w : Cond} (i : Nat) (h : (k2_sels lw_privs)[i]? = some w) (hg : goodWord w = true) : w ∈ wA := wA_of (List.mem_append_left _ (List.mem_of_getElem? h)) hg
def wM (M : MI) : List Cond := .code M.1 M.2.1 M.2.2.1 M.2.2.2 :: wA
def adl (b n : Nat) : List Nat := (List.range n).map (fun i => b + i)
theorem mem_adl {b n a : Nat} : a ∈ adl b n ↔ b ≤ a ∧ a < b + n := by
  simp only [adl, List.mem_map, List.mem_range]
  constructor
  · rintro ⟨i, h, rfl⟩; omega
  · intro h; exact ⟨a - b, by omega, by omega⟩
theorem adl_succ (b n : Nat) : adl b (n + 1) = adl b n ++ [b + n] := by simp [adl, List.range_succ]
def tyL (cy : Nat → ClassId) : List (ClassId × FieldType) := [(cy 0, .int), (cy 1, .long), (cy 2, .boolean), (cy 3, .object RX1), (cy 4, .object RX2), (cy 5, .object RX3), (cy 6, .object RX4), (cy 7, .object RX5)]
def nwL : List (String × Nat × MethodName × String) := [(RX0, 36, yX2_init, RX8), (RX0, 37, yX4_init, RX8), (RX0, 38, yX3_init, RX8), (RX8, 25, yX1_init, RX8), (RX1, 20, yX3_init, RX8), (RX7, 39, yX1_init, RX8), (RX8, 42, yX6_init, RX8), (RX8, 53, yX5_init, RX8)]
def aoL : List String := [RX1, RX2, RX3, RX4, RX5]
def KK (E : Ev) (U : State) : Prop := va_K E.2.1 vwCl (tyL E.2.2.2.1) U ∧ (∀ q ∈ nwL, va_Nw (.methodLinkNest q.1 q.2.1 q.2.2.1 q.2.2.2) U) ∧ ∀ C ∈ aoL, va_AO C U
theorem KK.warm {E : Ev} {s U : State} (hW : s.WarmedH U.vm) (h : KK E s) : KK E U := ⟨h.1.moved hW.alike, fun q hq => va_Nw.warmM hW (h.2.1 q hq), fun C hC => (h.2.2 C hC).moved hW.alike⟩
def Aa (E : Ev) : Nat → Prop := fun q => E.2.2.1 ≤ q
def Pic (E : Ev) (h : Hp) (H : Heap) : Prop := va_P E.2.1 vwCl (va_pl (adl E.2.2.1 h.1) h.2.2) H
def roS (E : Ev) : Prop := ∀ s U : State, E.2.2.2.2 s → s.WarmedH U.vm → (∀ q : Nat, q < E.2.2.1 → U.heap[q]? = s.heap[q]?) → E.2.2.2.2 U
def QR (E : Ev) (r : Option Value) (h' : Hp) : Array Value → State → Outcome → State → Prop := fun _ st o t => o = .returned r ∧ Pic E h' t.heap ∧ va_F (Aa E) st t
theorem adl_nd (b : Nat) : ∀ n i j a : Nat, (adl b n)[i]? = some a → (adl b n)[j]? = some a → i = j := by
  intro n i j a h1 h2
  simp only [adl, List.getElem?_map, Option.map_eq_some_iff] at h1 h2
  obtain ⟨x, hx, e1⟩ := h1
  obtain ⟨y, hy, e2⟩ := h2
  have := List.getElem?_eq_some_iff.mp hx
  have := List.getElem?_eq_some_iff.mp hy
  simp_all
  omega
theorem Pic.D {E : Ev} {n : Nat} {f : Nat → va_E} : va_D (Aa E) (va_pl (adl E.2.2.1 n) f) := by
  refine ⟨fun i j p q hi hj hpq => ?_, fun k q hk => ?_⟩
  · simp only [va_pl, List.getElem?_map, Option.map_eq_some_iff] at hi hj
    obtain ⟨a, ha, rfl⟩ := hi
    obtain ⟨b, hb, rfl⟩ := hj
    have : a = b := hpq
    subst this
    exact adl_nd _ _ _ _ _ ha hb
  · simp only [va_pl, List.getElem?_map, Option.map_eq_some_iff] at hk
    obtain ⟨a, ha, rfl⟩ := hk
    exact (mem_adl.mp (List.mem_of_getElem? ha)).1
theorem pl_get {L : List Nat} {f : Nat → va_E} {a : Nat} (h : a ∈ L) : ∃ k : Nat, (va_pl L f)[k]? = some (a, f a) := List.getElem?_of_mem (List.mem_map.mpr ⟨a, h, rfl⟩)
theorem pl_set {A : Nat → Prop} {L : List Nat} {f : Nat → va_E} {a k : Nat} {e : va_E} (hD : va_D A (va_pl L f)) (h : a ∈ L) (hk : (va_pl L f)[k]? = some (a, f a)) : (va_pl L f).set k (a, e) = va_pl L (va_up f a e) := by
  have := va_pl_set (X := []) (e := e) (by simpa using hD) h (by simpa using hk)
  simpa using this
-- locals
def lvL : Nat → List (Option Value) → List (Nat × Value)
  | _, [] => []
  | k, none :: t => lvL (k + 1) t
  | k, some v :: t => (k, v) :: lvL (k + 1) t
theorem mem_lvL {ls : List (Option Value)} : ∀ {k : Nat} {q : Nat × Value}, q ∈ lvL k ls ↔ k ≤ q.1 ∧ ls[q.1 - k]? = some (some q.2) := by
  induction ls with
  | nil => intro k q; simp [lvL]
  | cons a t ih =>
    intro k q
    obtain ⟨i, v⟩ := q
    cases a with
    | none =>
      simp only [lvL, ih]
      constructor
      · rintro ⟨h1, h2⟩
        refine ⟨by omega, ?_⟩
        rw [show i - k = (i - (k + 1)) + 1 by omega, List.getElem?_cons_succ]; exact h2
      · rintro ⟨h1, h2⟩
        have : i ≠ k := by rintro rfl; simp at h2
        refine ⟨by omega, ?_⟩
        rw [show i - k = (i - (k + 1)) + 1 by omega, List.getElem?_cons_succ] at h2; exact h2
    | some w =>
      simp only [lvL, List.mem_cons, ih, Prod.mk.injEq]
      constructor
      · rintro (⟨rfl, rfl⟩ | ⟨h1, h2⟩)
        · simp
        · refine ⟨by omega, ?_⟩
          rw [show i - k = (i - (k + 1)) + 1 by omega, List.getElem?_cons_succ]; exact h2
      · rintro ⟨h1, h2⟩
        by_cases hi : i = k
        · subst hi
          simp at h2
          exact Or.inl ⟨rfl, h2.symm⟩
        · right
          refine ⟨by omega, ?_⟩
          rw [show i - k = (i - (k + 1)) + 1 by omega, List.getElem?_cons_succ] at h2; exact h2
def lvO (lsA : Array Slot) (n : Nat) (ls : List (Option Value)) : Prop := lv_has lsA n (lvL 0 ls)
theorem lvO.at {lsA : Array Slot} {n : Nat} {ls : List (Option Value)} (h : lvO lsA n ls) {i : Nat} {v : Value} (hi : ls[i]? = some (some v)) : lsA[i]? = some (.val v) := h.2.2 (i, v) (mem_lvL.mpr ⟨Nat.zero_le _, hi⟩)
/-- no long just ahead of place i -/
def okS (ls : List (Option Value)) (i : Nat) : Bool := match i with
  | 0 => true
  | i + 1 => match ls[i]? with
    | some (some v) => v.category == 1
    | _ => true
theorem lvO.set1 {lsA : Array Slot} {n i : Nat} {ls : List (Option Value)} {v : Value} (ho : okS ls i = true) (h : lv_has lsA n ((i, v) :: (lvL 0 ls).filter (fun q => !(q.1 == i) && !(q.1 + 1 == i && q.2.category == 2)))) : lvO lsA n (ls.set i (some v)) := by
  refine ⟨h.1, h.2.1, fun q hq => ?_⟩
  obtain ⟨j, w⟩ := q
  have hj := (mem_lvL.mp hq).2
  simp only [Nat.sub_zero, List.getElem?_set] at hj
  apply h.2.2 (j, w)
  by_cases hji : i = j
  · subst hji
    rw [if_pos rfl] at hj
    split at hj
    · simp at hj; subst hj; exact List.mem_cons_self
    · cases hj
  · rw [if_neg hji] at hj
    refine List.mem_cons_of_mem _ (List.mem_filter.mpr ⟨mem_lvL.mpr ⟨Nat.zero_le _, hj⟩, ?_⟩)
    have h1 : (j == i) = false := by simpa using fun e => hji e.symm
    by_cases hs : j + 1 = i
    · subst hs
      simp only [okS, hj] at ho
      have hc : (w.category == 2) = false := by
        have : w.category = 1 := by simpa using ho
        rw [this]; rfl
      simp [hc]
    · have h2 : (j + 1 == i) = false := by simpa using hs
      simp [h1, h2]
theorem lvO.set2 {lsA : Array Slot} {n i : Nat} {ls : List (Option Value)} {v : Value} (ho : okS ls i = true) (h : lv_has lsA n ((i, v) :: (lvL 0 ls).filter (fun q => !(q.1 == i) && (!(q.1 == i + 1) && !(q.1 + 1 == i && q.2.category == 2))))) : lvO lsA n ((ls.set i (some v)).set (i + 1) none) := by
  refine ⟨h.1, h.2.1, fun q hq => ?_⟩
  obtain ⟨j, w⟩ := q
  have hj := (mem_lvL.mp hq).2
  simp only [Nat.sub_zero, List.getElem?_set] at hj
  apply h.2.2 (j, w)
  by_cases hj1 : i + 1 = j
  · rw [if_pos hj1] at hj
    split at hj
    · cases hj
    · cases hj
  rw [if_neg hj1] at hj
  by_cases hji : i = j
  · subst hji
    rw [if_pos rfl] at hj
    split at hj
    · simp at hj; subst hj; exact List.mem_cons_self
    · cases hj
  · rw [if_neg hji] at hj
    refine List.mem_cons_of_mem _ (List.mem_filter.mpr ⟨mem_lvL.mpr ⟨Nat.zero_le _, hj⟩, ?_⟩)
    have h1 : (j == i) = false := by simpa using fun e => hji e.symm
    have h3 : (j == i + 1) = false := by simpa using fun e => hj1 e.symm
    by_cases hs : j + 1 = i
    · subst hs
      simp only [okS, hj] at ho
      have hc : (w.category == 2) = false := by
        have : w.category = 1 := by simpa using ho
        rw [this]; rfl
      simp [hc]; omega
    · have h2 : (j + 1 == i) = false := by simpa using hs
      simp [h1, h2, h3]
/-- the locals at the entry -/
def en : Nat → List Value → List (Option Value)
  | n, [] => List.replicate n none
  | n, v :: vs => if v.category = 2 then some v :: none :: en (n - 2) vs else some v :: en (n - 1) vs
theorem lvL_rep : ∀ (n k : Nat), lvL k (List.replicate n none) = []
  | 0, _ => rfl
  | n + 1, k => by simp only [List.replicate_succ, lvL]; exact lvL_rep n (k + 1)
theorem lvL_en : ∀ (vs : List Value) (n k : Nat), lvL k (en n vs) = lv_args k vs
  | [], n, k => by simp [en, lv_args, lvL_rep]
  | v :: vs, n, k => by
    by_cases h : v.category = 2
    · simp only [en, lv_args, if_pos h, lvL]
      rw [lvL_en vs (n - 2) (k + 1 + 1)]
    · simp only [en, lv_args, if_neg h, lvL]
      rw [lvL_en vs (n - 1) (k + 1)]
-- the judgement
def Cx (E : Ev) (M : MI) (p : Program) (s : State) (m : MethodId) (args : Array Value) (meth : Method) (c : Code) : Prop :=
  p.tables.exec = Jvm.exec ∧ c.code = M.2.1 ∧ c.maxLocals = M.2.2.1 ∧ s.vm.findClass M.1.cls = some m.cls ∧ (∀ w ∈ wA, w.before args s = true) ∧ meth.sig.returnType = M.2.2.2 ∧ meth.locks = false ∧ meth.name = M.1.name ∧ KK E s ∧ E.2.2.2.2 s ∧ E.2.2.1 ≤ s.heap.size ∧ roS E
def J (E : Ev) (d : Nat) (M : MI) (pc : Nat) (ls : List (Option Value)) (st : List Value) (h : Hp) (r : Option Value) (h' : Hp) : Prop :=
  h.1 ≤ h'.1 ∧ h.2.1 ≤ h'.2.1 ∧ ∀ (p : Program) (e : Env) (R : Room) (s : State) (m : MethodId) (args : Array Value) (below : List Frame) (meth : Method) (c : Code), Cx E M p s m args meth c → d ≤ R.frames → 100 * d ≤ R.locals →
    ∀ (H : Heap) (lsA : Array Slot) (locs : List Loc) (cells slots : Nat), Pic E h H → va_S (Aa E) s.heap H locs → lvO lsA M.2.2.1 ls → cells + (h'.1 - h.1) ≤ R.cells → slots + (h'.2.1 - h.2.1) ≤ R.slots → s.heap.size + cells = E.2.2.1 + h.1 →
      W p E.1 e R s m args below meth c H locs cells slots (MQ below (QR E r h') args s (cells + (h'.1 - h.1)) (slots + (h'.2.1 - h.2.1)) (Aa E)) (F0 m pc lsA st)
/-- a step from a picture to a picture -/
def Ph (E : Ev) (d : Nat) (M : MI) (pc : Nat) (ls : List (Option Value)) (st : List Value) (h : Hp) (pc' : Nat) (ls' : List (Option Value)) (st' : List Value) (h1 : Hp) : Prop :=
  h.1 ≤ h1.1 ∧ h.2.1 ≤ h1.2.1 ∧ ∀ (p : Program) (e : Env) (R : Room) (s : State) (m : MethodId) (args : Array Value) (below : List Frame) (meth : Method) (c : Code), Cx E M p s m args meth c → d ≤ R.frames → 100 * d ≤ R.locals →
    ∀ (H : Heap) (lsA : Array Slot) (locs : List Loc) (cells slots : Nat) (Q : State → Prop), Pic E h H → va_S (Aa E) s.heap H locs → lvO lsA M.2.2.1 ls → cells + (h1.1 - h.1) ≤ R.cells → slots + (h1.2.1 - h.2.1) ≤ R.slots → s.heap.size + cells = E.2.2.1 + h.1 →
      (∀ (H1 : Heap) (locs1 : List Loc) (lsB : Array Slot), Pic E h1 H1 → va_S (Aa E) s.heap H1 locs1 → lvO lsB M.2.2.1 ls' → W p E.1 e R s m args below meth c H1 locs1 (cells + (h1.1 - h.1)) (slots + (h1.2.1 - h.2.1)) Q (F0 m pc' lsB st')) →
      W p E.1 e R s m args below meth c H locs cells slots Q (F0 m pc lsA st)
/-- a step that leaves the heap -/
def Pl (E : Ev) (d : Nat) (M : MI) (pc : Nat) (ls : List (Option Value)) (st : List Value) (h : Hp) (pc' : Nat) (ls' : List (Option Value)) (st' : List Value) : Prop :=
  ∀ (p : Program) (e : Env) (R : Room) (s : State) (m : MethodId) (args : Array Value) (below : List Frame) (meth : Method) (c : Code), Cx E M p s m args meth c → d ≤ R.frames → 100 * d ≤ R.locals →
    ∀ (H : Heap) (lsA : Array Slot) (locs : List Loc) (cells slots : Nat) (Q : State → Prop), Pic E h H → va_S (Aa E) s.heap H locs → lvO lsA M.2.2.1 ls → cells ≤ R.cells → slots ≤ R.slots → s.heap.size + cells = E.2.2.1 + h.1 →
      (∀ (lsB : Array Slot), lvO lsB M.2.2.1 ls' → W p E.1 e R s m args below meth c H locs cells slots Q (F0 m pc' lsB st')) →
      W p E.1 e R s m args below meth c H locs cells slots Q (F0 m pc lsA st)
def T (E : Ev) (d : Nat) (M : MI) (pc : Nat) (ls : List (Option Value)) (st : List Value) (h : Hp) (Q : Option Value → Hp → Prop) : Prop := ∃ r h', J E d M pc ls st h r h' ∧ Q r h'
theorem W.sz {p : Program} {l : Launch} {e : Env} {R : Room} {s : State} {m : MethodId} {args : Array Value} {below : List Frame} {meth : Method} {c : Code} {H : Heap} {locs : List Loc} {cells slots : Nat} {Q : State → Prop} {g : JFrame} (k : H.size ≤ s.heap.size + cells → W p l e R s m args below meth c H locs cells slots Q g) : W p l e R s m args below meth c H locs cells slots Q g := fun T hT X => k (by rw [← hT]; exact X.heapSize) T hT X
theorem Pic.ge {E : Ev} {h : Hp} {H H0 : Heap} {locs : List Loc} (hP : Pic E h H) (hB : E.2.2.1 ≤ H0.size) (hS : va_S (Aa E) H0 H locs) : E.2.2.1 + h.1 ≤ H.size := by
  by_cases h0 : h.1 = 0
  · have := hS.1; omega
  · obtain ⟨k, hk⟩ := pl_get (f := h.2.2) (mem_adl.mpr (⟨by omega, by omega⟩ : E.2.2.1 ≤ E.2.2.1 + (h.1 - 1) ∧ E.2.2.1 + (h.1 - 1) < E.2.2.1 + h.1))
    have := (hP k _ hk).lt
    simp only at this
    omega
section ENG
variable {E : Ev} {d : Nat} {M : MI} {pc pc' : Nat} {ls ls' : List (Option Value)} {st st' : List Value} {h h1 h' : Hp} {r : Option Value} {Q : Option Value → Hp → Prop}
theorem Pl.ph (k : Pl E d M pc ls st h pc' ls' st') : Ph E d M pc ls st h pc' ls' st' h := by
  refine ⟨Nat.le_refl _, Nat.le_refl _, ?_⟩
  intro p e R s m args below meth c hC hf hl H lsA locs cells slots Q hP hS hL hc hs hz kk
  refine k p e R s m args below meth c hC hf hl H lsA locs cells slots Q hP hS hL (by omega) (by omega) hz (fun lsB hB => ?_)
  have := kk H locs lsB hP hS hB
  simpa only [Nat.sub_self, Nat.add_zero] using this
theorem J.ph (k : Ph E d M pc ls st h pc' ls' st' h1) (j : J E d M pc' ls' st' h1 r h') : J E d M pc ls st h r h' := by
  refine ⟨Nat.le_trans k.1 j.1, Nat.le_trans k.2.1 j.2.1, ?_⟩
  have a1 := k.1; have a2 := k.2.1; have b1 := j.1; have b2 := j.2.1
  intro p e R s m args below meth c hC hf hl H lsA locs cells slots hP hS hL hc hs hz
  refine k.2.2 p e R s m args below meth c hC hf hl H lsA locs cells slots _ hP hS hL (by omega) (by omega) hz (fun H1 locs1 lsB hP1 hS1 hB => ?_)
  have := j.2.2 p e R s m args below meth c hC hf hl H1 lsB locs1 (cells + (h1.1 - h.1)) (slots + (h1.2.1 - h.2.1)) hP1 hS1 hB (by omega) (by omega) (by omega)
  rwa [show cells + (h1.1 - h.1) + (h'.1 - h1.1) = cells + (h'.1 - h.1) by omega, show slots + (h1.2.1 - h.2.1) + (h'.2.1 - h1.2.1) = slots + (h'.2.1 - h.2.1) by omega] at this
theorem T.ph (k : Ph E d M pc ls st h pc' ls' st' h1) (j : T E d M pc' ls' st' h1 Q) : T E d M pc ls st h Q := by
  obtain ⟨r, h', j, q⟩ := j
  exact ⟨r, h', J.ph k j, q⟩
theorem T.pl (k : Pl E d M pc ls st h pc' ls' st') (j : T E d M pc' ls' st' h Q) : T E d M pc ls st h Q := T.ph k.ph j
theorem T.mono {Q' : Option Value → Hp → Prop} (j : T E d M pc ls st h Q) (hq : ∀ r h', Q r h' → Q' r h') : T E d M pc ls st h Q' := by
  obtain ⟨r, h', j, q⟩ := j
  exact ⟨r, h', j, hq _ _ q⟩
theorem T.deep {d' : Nat} (hd : d ≤ d') (j : T E d M pc ls st h Q) : T E d' M pc ls st h Q := by
  obtain ⟨r, h', j, q⟩ := j
  refine ⟨r, h', ⟨j.1, j.2.1, ?_⟩, q⟩
  intro p e R s m args below meth c hC hf hl
  exact j.2.2 p e R s m args below meth c hC (by omega) (by omega)
-- ends
theorem J.iret {v : Int32} (hd : decode M.2.1 pc = .ok (.ireturn, 1)) (hr : M.2.2.2 = some .int) : J E d M pc ls [.int v] h (some (.int v)) h := by
  refine ⟨Nat.le_refl _, Nat.le_refl _, ?_⟩
  intro p e R s m args below meth c hC hf hl H lsA locs cells slots hP hS hL hc hs hz
  obtain ⟨hx, hb, hml, hown, hts, hrt, hlk, hnm, hK, hro, hB, hRS⟩ := hC
  simp only [Nat.sub_self, Nat.add_zero]
  exact W.iret hx hb (by rw [hrt, hr]) (fun t ht hW => ⟨rfl, by rw [ht]; exact hP, hS.F ht⟩) hS.2.2 hd hlk
theorem J.zret {v : Int32} (hd : decode M.2.1 pc = .ok (.ireturn, 1)) (hr : M.2.2.2 = some .boolean) (hn : narrow .boolean (.int v) = .int v) : J E d M pc ls [.int v] h (some (.int v)) h := by
  refine ⟨Nat.le_refl _, Nat.le_refl _, ?_⟩
  intro p e R s m args below meth c hC hf hl H lsA locs cells slots hP hS hL hc hs hz
  obtain ⟨hx, hb, hml, hown, hts, hrt, hlk, hnm, hK, hro, hB, hRS⟩ := hC
  simp only [Nat.sub_self, Nat.add_zero]
  exact W.zret hx hb (hrt.trans hr) hn (fun t ht hW => ⟨rfl, by rw [ht]; exact hP, hS.F ht⟩) hS.2.2 hd hlk
theorem J.lret {v : Int64} (hd : decode M.2.1 pc = .ok (.lreturn, 1)) (hr : M.2.2.2 = some .long) : J E d M pc ls [.long v] h (some (.long v)) h := by
  refine ⟨Nat.le_refl _, Nat.le_refl _, ?_⟩
  intro p e R s m args below meth c hC hf hl H lsA locs cells slots hP hS hL hc hs hz
  obtain ⟨hx, hb, hml, hown, hts, hrt, hlk, hnm, hK, hro, hB, hRS⟩ := hC
  simp only [Nat.sub_self, Nat.add_zero]
  exact W.lret hx hb (hrt.trans hr) (fun t ht hW => ⟨rfl, by rw [ht]; exact hP, hS.F ht⟩) hS.2.2 hd hlk
theorem J.vret (hd : decode M.2.1 pc = .ok (.return_, 1)) (hr : M.2.2.2 = none) : J E d M pc ls [] h none h := by
  refine ⟨Nat.le_refl _, Nat.le_refl _, ?_⟩
  intro p e R s m args below meth c hC hf hl H lsA locs cells slots hP hS hL hc hs hz
  obtain ⟨hx, hb, hml, hown, hts, hrt, hlk, hnm, hK, hro, hB, hRS⟩ := hC
  simp only [Nat.sub_self, Nat.add_zero]
  exact W.vret hx hb (hrt.trans hr) (fun t ht hW => ⟨rfl, by rw [ht]; exact hP, hS.F ht⟩) hS.2.2 hd hlk
theorem T.iret {v : Int32} (hd : decode M.2.1 pc = .ok (.ireturn, 1)) (q : Q (some (.int v)) h) (hr : M.2.2.2 = some .int := by rfl) : T E d M pc ls [.int v] h Q := ⟨_, _, J.iret hd hr, q⟩
theorem T.lret {v : Int64} (hd : decode M.2.1 pc = .ok (.lreturn, 1)) (q : Q (some (.long v)) h) (hr : M.2.2.2 = some .long := by rfl) : T E d M pc ls [.long v] h Q := ⟨_, _, J.lret hd hr, q⟩
theorem T.vret (hd : decode M.2.1 pc = .ok (.return_, 1)) (q : Q none h) (hr : M.2.2.2 = none := by rfl) : T E d M pc ls [] h Q := ⟨_, _, J.vret hd hr, q⟩
theorem T.zret {v : Int32} (hd : decode M.2.1 pc = .ok (.ireturn, 1)) (hn : narrow .boolean (.int v) = .int v) (q : Q (some (.int v)) h) (hr : M.2.2.2 = some .boolean := by rfl) : T E d M pc ls [.int v] h Q := ⟨_, _, J.zret hd hr hn, q⟩
-- contracts
def CT (E : Ev) (d : Nat) (M : MI) (as : List Value) (h : Hp) (r : Option Value) (h' : Hp) : Prop := h.1 ≤ h'.1 ∧ h.2.1 ≤ h'.2.1 ∧ (roS E → Met E.1 M.1 (wM M) { frames := d, cells := h'.1 - h.1, slots := h'.2.1 - h.2.1, locals := 100 * d } (va_Pc as (fun U => U.heap.size = E.2.2.1 + h.1 ∧ Pic E h U.heap ∧ KK E U ∧ E.2.2.2.2 U)) (QR E r h') (h'.1 - h.1) (h'.2.1 - h.2.1) (Aa E))
def MOK (M : MI) (n : Nat) : Prop := Cond.code M.1 M.2.1 M.2.2.1 M.2.2.2 ∈ wA ∧ Cond.initialized M.1.cls ∈ wA ∧ (M.1.cls ≠ "java/lang/invoke/MethodHandle" ∧ M.1.cls ≠ "java/lang/invoke/VarHandle" ∧ (parseMethodDescriptor M.1.desc).map (fun d => d.parameters.length) = some n) ∧ plainName M.1.cls = true ∧ M.2.2.1 ≤ 80
theorem CT.of {n : Nat} {as : List Value} (hM : MOK M n) (hn : (lg_sl as).length ≤ M.2.2.1) (j : J E d M 0 (en M.2.2.1 as) [] h r h') : CT E d M as h r h' := by
  refine ⟨j.1, j.2.1, fun hRS => ?_⟩
  refine Met.ofW (cc := M.2.1) (maxL := M.2.2.1) (ret := M.2.2.2) (ws' := wA) hM.2.2.2.1 rfl ?_
  intro p e s m args below meth c s₁ B hml hv
  obtain ⟨rfl, hsz, hP, hK, hro⟩ := hv
  have hts := atoms_spec (ws := wM M) B.pre
  rw [lg_entry_eq]
  have hB0 : E.2.2.1 ≤ s.heap.size := by rw [hsz]; omega
  have hl := lv_entry as (n := M.2.2.1) hn
  have hL : lvO (lg_sl as ++ List.replicate (M.2.2.1 - (lg_sl as).length) Slot.unset).toArray M.2.2.1 (en M.2.2.1 as) := by
    unfold lvO; rw [lvL_en]; exact hl
  have k := j.2.2 p e (headSpec (wM M) { frames := d, cells := h'.1 - h.1, slots := h'.2.1 - h.2.1, locals := 100 * d }).room s m as.toArray below meth c ⟨B.exec, B.bytes, hml, findClass_of_methodNamed B.named, fun w hw => hts w (List.mem_cons_of_mem _ hw), B.returns, B.notSynchronized, (name_of_methodNamed B.named B.method).1, hK, hro, hB0, hRS⟩ (Nat.le_refl _) (Nat.le_refl _) s.heap _ [] 0 0 hP va_S.rf hL (by simp [headSpec]) (by simp [headSpec]) (by rw [hsz]; omega)
  simpa only [Nat.zero_add] using k
end ENG
end
section
-- ===== numbers =====
def iI (z : Int) : Int32 := Int32.ofInt z
def lI (z : Int) : Int64 := Int64.ofInt z
def rg (x : Int) : Prop := -2147483648 ≤ x ∧ x ≤ 2147483647
def rl (x : Int) : Prop := -9223372036854775808 ≤ x ∧ x ≤ 9223372036854775807
noncomputable def bZ (p : Prop) : Int := @ite _ p (Classical.propDecidable p) 1 0
theorem bZ_t {p : Prop} (h : p) : bZ p = 1 := by unfold bZ; exact if_pos h
theorem bZ_f {p : Prop} (h : ¬ p) : bZ p = 0 := by unfold bZ; exact if_neg h
theorem bZ_01 (p : Prop) : bZ p = 0 ∨ bZ p = 1 := by by_cases h : p; exact Or.inr (bZ_t h); exact Or.inl (bZ_f h)
theorem bZ_iff {p q : Prop} (h : p ↔ q) : bZ p = bZ q := by by_cases hp : p; rw [bZ_t hp, bZ_t (h.mp hp)]; rw [bZ_f hp, bZ_f (fun z => hp (h.mpr z))]
theorem bZ_inj {p q : Prop} (h : bZ p = bZ q) : p ↔ q := by
  by_cases hp : p <;> by_cases hq : q
  · exact ⟨fun _ => hq, fun _ => hp⟩
  · rw [bZ_t hp, bZ_f hq] at h; cases h
  · rw [bZ_f hp, bZ_t hq] at h; cases h
  · exact ⟨fun z => absurd z hp, fun z => absurd z hq⟩
theorem iI_add (x y : Int) : iI x + iI y = iI (x + y) := (Int32.ofInt_add x y).symm
theorem iI_sub (x y : Int) : iI x - iI y = iI (x - y) := (Int32.ofInt_sub x y).symm
theorem iI_mul (x y : Int) : iI x * iI y = iI (x * y) := (Int32.ofInt_mul x y).symm
theorem iI_neg (x : Int) : -iI x = iI (-x) := (Int32.ofInt_neg x).symm
theorem lI_add (x y : Int) : lI x + lI y = lI (x + y) := (Int64.ofInt_add x y).symm
theorem lI_sub (x y : Int) : lI x - lI y = lI (x - y) := (Int64.ofInt_sub x y).symm
theorem lI_mul (x y : Int) : lI x * lI y = lI (x * y) := (Int64.ofInt_mul x y).symm
theorem lI_neg (x : Int) : -lI x = lI (-x) := (Int64.ofInt_neg x).symm
theorem iI_toInt {x : Int} (h : rg x) : (iI x).toInt = x := Int32.toInt_ofInt_of_le (by unfold rg at h; omega) (by unfold rg at h; omega)
theorem lI_toInt {x : Int} (h : rl x) : (lI x).toInt = x := Int64.toInt_ofInt_of_le (by unfold rl at h; omega) (by unfold rl at h; omega)
theorem iI_of (x : Int32) : iI x.toInt = x := Int32.ofInt_toInt x
theorem lI_of (x : Int64) : lI x.toInt = x := Int64.ofInt_toInt x
theorem rg_of (x : Int32) : rg x.toInt := by have h1 := x.toInt_lt; have h2 := x.le_toInt; unfold rg; omega
theorem rl_of (x : Int64) : rl x.toInt := by have h1 := x.toInt_lt; have h2 := x.le_toInt; unfold rl; omega
theorem iI_lt {x y : Int} (hx : rg x) (hy : rg y) : iI x < iI y ↔ x < y := by rw [Int32.lt_iff_toInt_lt, iI_toInt hx, iI_toInt hy]
theorem iI_le {x y : Int} (hx : rg x) (hy : rg y) : iI x ≤ iI y ↔ x ≤ y := by rw [Int32.le_iff_toInt_le, iI_toInt hx, iI_toInt hy]
theorem iI_eq {x y : Int} (hx : rg x) (hy : rg y) : iI x = iI y ↔ x = y := by rw [← Int32.toInt_inj, iI_toInt hx, iI_toInt hy]
theorem lI_lt {x y : Int} (hx : rl x) (hy : rl y) : lI x < lI y ↔ x < y := by rw [Int64.lt_iff_toInt_lt, lI_toInt hx, lI_toInt hy]
theorem lI_le {x y : Int} (hx : rl x) (hy : rl y) : lI x ≤ lI y ↔ x ≤ y := by rw [Int64.le_iff_toInt_le, lI_toInt hx, lI_toInt hy]
theorem lI_eq {x y : Int} (hx : rl x) (hy : rl y) : lI x = lI y ↔ x = y := by rw [← Int64.toInt_inj, lI_toInt hx, lI_toInt hy]
theorem iI_long {x : Int} (h : rg x) : (iI x).toInt64 = lI x := by
  have h1 : Int32.minValue.toInt = -2147483648 := by decide
  have h2 : Int32.maxValue.toInt = 2147483647 := by decide
  unfold rg at h
  exact Int32.toInt64_ofInt (by omega) (by omega)
theorem lI_int (x : Int) : (lI x).toInt32 = iI x := Int64.toInt32_ofInt
theorem iI_clamp {i : Nat} {x : Int} (h : x = i) (hi : i < 2147483648) : (iI x).toNatClampNeg = i := by
  subst h
  have := Int32.toNatClampNeg_ofInt_of_le (n := (i : Int)) (by omega) (by omega)
  unfold iI; rw [this]; omega
theorem iI_in {i N : Nat} {x : Int} (h : x = i) (hi : i < N) (hN : N < 2147483648) : vp_in (iI x) N := by
  unfold vp_in
  rw [iI_clamp h (by omega)]
  intro hh
  rcases hh with hh | hh
  · have h0 : (0 : Int32) = iI 0 := rfl
    rw [h0, iI_lt (by unfold rg; omega) (by unfold rg; omega)] at hh
    omega
  · omega
theorem lI_div {x y : Int} (hx : rl x) (hy : rl y) (h0 : 0 ≤ x) (h1 : 0 < y) : lI x / lI y = lI (x / y) := by
  rw [← Int64.toInt_inj]
  have hne : lI y ≠ -1 := by
    intro h
    have h2 : (-1 : Int64) = lI (-1) := rfl
    rw [h2, lI_eq hy (by unfold rl; omega)] at h
    omega
  rw [Int64.toInt_div_of_ne_right _ _ hne, lI_toInt hx, lI_toInt hy, lI_toInt]
  · exact Int.tdiv_eq_ediv_of_nonneg h0
  · have := Int.ediv_nonneg h0 (Int.le_of_lt h1)
    have := Int.ediv_le_self y h0
    unfold rl at *; omega
theorem iI_div {x y : Int} (hx : rg x) (hy : rg y) (h0 : 0 ≤ x) (h1 : 0 < y) : iI x / iI y = iI (x / y) := by
  rw [← Int32.toInt_inj]
  have hne : iI y ≠ -1 := by
    intro h
    have h2 : (-1 : Int32) = iI (-1) := rfl
    rw [h2, iI_eq hy (by unfold rg; omega)] at h
    omega
  rw [Int32.toInt_div_of_ne_right _ _ hne, iI_toInt hx, iI_toInt hy, iI_toInt]
  · exact Int.tdiv_eq_ediv_of_nonneg h0
  · have := Int.ediv_nonneg h0 (Int.le_of_lt h1)
    have := Int.ediv_le_self y h0
    unfold rg at *; omega
theorem narZ {x : Int} (h : x = 0 ∨ x = 1) : narrow .boolean (.int (iI x)) = .int (iI x) := by rcases h with rfl | rfl <;> rfl
theorem fitZ {x : Int} (h : x = 0 ∨ x = 1) : fits .boolean (.int (iI x)) = true := by rcases h with rfl | rfl <;> rfl
theorem npZ {x : Int} (h : x = 0 ∨ x = 1) : vp_nar .boolean (iI x) = iI x := by rcases h with rfl | rfl <;> rfl
section ROWS
variable {E : Ev} {d : Nat} {M : MI} {pc pc' : Nat} {ls ls' : List (Option Value)} {st : List Value} {h : Hp} {Q : Option Value → Hp → Prop}

theorem T.iconst {n : Int} (hd : decode M.2.1 pc = .ok (.iconst n, 1)) (k : T E d M (pc + 1) ls (.int (iI n) :: st) h Q) : T E d M pc ls (st) h Q := by
  refine T.pl ?_ k
  intro p e R s m args below meth c hC hf hl H lsA locs cells slots Q hP hS hL hcl hsl hz kk
  obtain ⟨hx, hb, hml, hown, hts, hrt, hlk, hnm, hK, hro, hB, hRS⟩ := hC
  exact lv_iconst hx hb hd rfl (kk _ hL)
theorem T.bipush {n : Int} (hd : decode M.2.1 pc = .ok (.bipush n, 2)) (hv : (Int8.ofInt n).toInt32 = iI n := by decide) (k : T E d M (pc + 2) ls (.int (iI n) :: st) h Q) : T E d M pc ls (st) h Q := by
  refine T.pl ?_ k
  intro p e R s m args below meth c hC hf hl H lsA locs cells slots Q hP hS hL hcl hsl hz kk
  obtain ⟨hx, hb, hml, hown, hts, hrt, hlk, hnm, hK, hro, hB, hRS⟩ := hC
  exact lv_bipush hx hb hd hv (kk _ hL)
theorem T.sipush {n : Int} (hd : decode M.2.1 pc = .ok (.sipush n, 3)) (hv : (Int16.ofInt n).toInt32 = iI n := by decide) (k : T E d M (pc + 3) ls (.int (iI n) :: st) h Q) : T E d M pc ls (st) h Q := by
  refine T.pl ?_ k
  intro p e R s m args below meth c hC hf hl H lsA locs cells slots Q hP hS hL hcl hsl hz kk
  obtain ⟨hx, hb, hml, hown, hts, hrt, hlk, hnm, hK, hro, hB, hRS⟩ := hC
  exact lv_sipush hx hb hd hv (kk _ hL)
theorem T.lconst0 (hd : decode M.2.1 pc = .ok (.lconst 0, 1)) (k : T E d M (pc + 1) ls (.long (lI 0) :: st) h Q) : T E d M pc ls (st) h Q := by
  refine T.pl ?_ k
  intro p e R s m args below meth c hC hf hl H lsA locs cells slots Q hP hS hL hcl hsl hz kk
  obtain ⟨hx, hb, hml, hown, hts, hrt, hlk, hnm, hK, hro, hB, hRS⟩ := hC
  exact lv_lconst hx hb hd rfl (kk _ hL)
theorem T.lconst1 (hd : decode M.2.1 pc = .ok (.lconst 1, 1)) (k : T E d M (pc + 1) ls (.long (lI 1) :: st) h Q) : T E d M pc ls (st) h Q := by
  refine T.pl ?_ k
  intro p e R s m args below meth c hC hf hl H lsA locs cells slots Q hP hS hL hcl hsl hz kk
  obtain ⟨hx, hb, hml, hown, hts, hrt, hlk, hnm, hK, hro, hB, hRS⟩ := hC
  exact lv_lconst hx hb hd rfl (kk _ hL)
theorem T.ldc2 {idx : Nat} {z : Int} (hd : decode M.2.1 pc = .ok (.ldc2_w idx, 3)) (hw : Cond.constantLong M.1.cls idx (lI z) ∈ wA) (k : T E d M (pc + 3) ls (.long (lI z) :: st) h Q) : T E d M pc ls (st) h Q := by
  refine T.pl ?_ k
  intro p e R s m args below meth c hC hf hl H lsA locs cells slots Q hP hS hL hcl hsl hz kk
  obtain ⟨hx, hb, hml, hown, hts, hrt, hlk, hnm, hK, hro, hB, hRS⟩ := hC
  exact lv_ldc2 hx hb hown (hts _ hw) hd (kk _ hL)
theorem T.iload_n {k0 : Fin 4} {x : Int32} (hd : decode M.2.1 pc = .ok (.iload_n k0, 1)) (hl0 : ls[(k0 : Nat)]? = some (some (.int x))) (k : T E d M (pc + 1) ls (.int x :: st) h Q) : T E d M pc ls (st) h Q := by
  refine T.pl ?_ k
  intro p e R s m args below meth c hC hf hl H lsA locs cells slots Q hP hS hL hcl hsl hz kk
  obtain ⟨hx, hb, hml, hown, hts, hrt, hlk, hnm, hK, hro, hB, hRS⟩ := hC
  exact lv_iload_n hx hb hd rfl (hL.at hl0) (kk _ hL)
theorem T.iload {i : Nat} {x : Int32} (hd : decode M.2.1 pc = .ok (.iload i, 2)) (hl0 : ls[i]? = some (some (.int x))) (k : T E d M (pc + 2) ls (.int x :: st) h Q) : T E d M pc ls (st) h Q := by
  refine T.pl ?_ k
  intro p e R s m args below meth c hC hf hl H lsA locs cells slots Q hP hS hL hcl hsl hz kk
  obtain ⟨hx, hb, hml, hown, hts, hrt, hlk, hnm, hK, hro, hB, hRS⟩ := hC
  exact lv_iload hx hb hd (hL.at hl0) (kk _ hL)
theorem T.istore_n {k0 : Fin 4} {x : Int32} (hd : decode M.2.1 pc = .ok (.istore_n k0, 1)) (he : ls.set (k0 : Nat) (some (.int x)) = ls') (ho : okS ls (k0 : Nat) = true := by rfl) (hn : (k0 : Nat) < M.2.2.1 := by decide) (k : T E d M (pc + 1) ls' (st) h Q) : T E d M pc ls (.int x :: st) h Q := by
  refine T.pl ?_ k
  intro p e R s m args below meth c hC hf hl H lsA locs cells slots Q hP hS hL hcl hsl hz kk
  obtain ⟨hx, hb, hml, hown, hts, hrt, hlk, hnm, hK, hro, hB, hRS⟩ := hC
  subst he
  exact lv_istore_n hx hb hd rfl hL hn rfl (fun lsB hB => kk _ (lvO.set1 ho hB))
theorem T.istore {i : Nat} {x : Int32} (hd : decode M.2.1 pc = .ok (.istore i, 2)) (he : ls.set i (some (.int x)) = ls') (ho : okS ls i = true := by rfl) (hn : i < M.2.2.1 := by decide) (k : T E d M (pc + 2) ls' (st) h Q) : T E d M pc ls (.int x :: st) h Q := by
  refine T.pl ?_ k
  intro p e R s m args below meth c hC hf hl H lsA locs cells slots Q hP hS hL hcl hsl hz kk
  obtain ⟨hx, hb, hml, hown, hts, hrt, hlk, hnm, hK, hro, hB, hRS⟩ := hC
  subst he
  exact lv_istore hx hb hd hL hn rfl (fun lsB hB => kk _ (lvO.set1 ho hB))
theorem T.lload_n {k0 : Fin 4} {x : Int64} (hd : decode M.2.1 pc = .ok (.lload_n k0, 1)) (hl0 : ls[(k0 : Nat)]? = some (some (.long x))) (k : T E d M (pc + 1) ls (.long x :: st) h Q) : T E d M pc ls (st) h Q := by
  refine T.pl ?_ k
  intro p e R s m args below meth c hC hf hl H lsA locs cells slots Q hP hS hL hcl hsl hz kk
  obtain ⟨hx, hb, hml, hown, hts, hrt, hlk, hnm, hK, hro, hB, hRS⟩ := hC
  exact lv_lload_n hx hb hd rfl (hL.at hl0) (kk _ hL)
theorem T.lload {i : Nat} {x : Int64} (hd : decode M.2.1 pc = .ok (.lload i, 2)) (hl0 : ls[i]? = some (some (.long x))) (k : T E d M (pc + 2) ls (.long x :: st) h Q) : T E d M pc ls (st) h Q := by
  refine T.pl ?_ k
  intro p e R s m args below meth c hC hf hl H lsA locs cells slots Q hP hS hL hcl hsl hz kk
  obtain ⟨hx, hb, hml, hown, hts, hrt, hlk, hnm, hK, hro, hB, hRS⟩ := hC
  exact lv_lload hx hb hd (hL.at hl0) (kk _ hL)
theorem T.lstore_n {k0 : Fin 4} {x : Int64} (hd : decode M.2.1 pc = .ok (.lstore_n k0, 1)) (he : ((ls.set (k0 : Nat) (some (.long x))).set ((k0 : Nat) + 1) none) = ls') (ho : okS ls (k0 : Nat) = true := by rfl) (hn : (k0 : Nat) + 1 < M.2.2.1 := by decide) (k : T E d M (pc + 1) ls' (st) h Q) : T E d M pc ls (.long x :: st) h Q := by
  refine T.pl ?_ k
  intro p e R s m args below meth c hC hf hl H lsA locs cells slots Q hP hS hL hcl hsl hz kk
  obtain ⟨hx, hb, hml, hown, hts, hrt, hlk, hnm, hK, hro, hB, hRS⟩ := hC
  subst he
  exact lv_lstore_n hx hb hd rfl hL hn rfl (fun lsB hB => kk _ (lvO.set2 ho hB))
theorem T.lstore {i : Nat} {x : Int64} (hd : decode M.2.1 pc = .ok (.lstore i, 2)) (he : ((ls.set i (some (.long x))).set (i + 1) none) = ls') (ho : okS ls i = true := by rfl) (hn : i + 1 < M.2.2.1 := by decide) (k : T E d M (pc + 2) ls' (st) h Q) : T E d M pc ls (.long x :: st) h Q := by
  refine T.pl ?_ k
  intro p e R s m args below meth c hC hf hl H lsA locs cells slots Q hP hS hL hcl hsl hz kk
  obtain ⟨hx, hb, hml, hown, hts, hrt, hlk, hnm, hK, hro, hB, hRS⟩ := hC
  subst he
  exact lv_lstore hx hb hd hL hn rfl (fun lsB hB => kk _ (lvO.set2 ho hB))
theorem T.aload_n {k0 : Fin 4} {x : Nat} (hd : decode M.2.1 pc = .ok (.aload_n k0, 1)) (hl0 : ls[(k0 : Nat)]? = some (some (.ref x))) (k : T E d M (pc + 1) ls (.ref x :: st) h Q) : T E d M pc ls (st) h Q := by
  refine T.pl ?_ k
  intro p e R s m args below meth c hC hf hl H lsA locs cells slots Q hP hS hL hcl hsl hz kk
  obtain ⟨hx, hb, hml, hown, hts, hrt, hlk, hnm, hK, hro, hB, hRS⟩ := hC
  exact lv_aload_n hx hb hd rfl (hL.at hl0) (kk _ hL)
theorem T.aload {i : Nat} {x : Nat} (hd : decode M.2.1 pc = .ok (.aload i, 2)) (hl0 : ls[i]? = some (some (.ref x))) (k : T E d M (pc + 2) ls (.ref x :: st) h Q) : T E d M pc ls (st) h Q := by
  refine T.pl ?_ k
  intro p e R s m args below meth c hC hf hl H lsA locs cells slots Q hP hS hL hcl hsl hz kk
  obtain ⟨hx, hb, hml, hown, hts, hrt, hlk, hnm, hK, hro, hB, hRS⟩ := hC
  exact lv_aload hx hb hd (hL.at hl0) (kk _ hL)
theorem T.astore_n {k0 : Fin 4} {x : Nat} (hd : decode M.2.1 pc = .ok (.astore_n k0, 1)) (he : ls.set (k0 : Nat) (some (.ref x)) = ls') (ho : okS ls (k0 : Nat) = true := by rfl) (hn : (k0 : Nat) < M.2.2.1 := by decide) (k : T E d M (pc + 1) ls' (st) h Q) : T E d M pc ls (.ref x :: st) h Q := by
  refine T.pl ?_ k
  intro p e R s m args below meth c hC hf hl H lsA locs cells slots Q hP hS hL hcl hsl hz kk
  obtain ⟨hx, hb, hml, hown, hts, hrt, hlk, hnm, hK, hro, hB, hRS⟩ := hC
  subst he
  exact lv_astore_n hx hb hd rfl hL hn rfl (fun lsB hB => kk _ (lvO.set1 ho hB))
theorem T.astore {i : Nat} {x : Nat} (hd : decode M.2.1 pc = .ok (.astore i, 2)) (he : ls.set i (some (.ref x)) = ls') (ho : okS ls i = true := by rfl) (hn : i < M.2.2.1 := by decide) (k : T E d M (pc + 2) ls' (st) h Q) : T E d M pc ls (.ref x :: st) h Q := by
  refine T.pl ?_ k
  intro p e R s m args below meth c hC hf hl H lsA locs cells slots Q hP hS hL hcl hsl hz kk
  obtain ⟨hx, hb, hml, hown, hts, hrt, hlk, hnm, hK, hro, hB, hRS⟩ := hC
  subst he
  exact lv_astore hx hb hd hL hn rfl (fun lsB hB => kk _ (lvO.set1 ho hB))
theorem lv_find {ls : List (Option Value)} {i : Nat} {v : Value} (h : ls[i]? = some (some v)) : ∃ k : Nat, (lvL 0 ls)[k]? = some (i, v) := List.getElem?_of_mem (mem_lvL.mpr ⟨Nat.zero_le _, h⟩)
theorem T.iinc {i : Nat} {n x : Int} (hd : decode M.2.1 pc = .ok (.iinc i n, 3)) (hl0 : ls[i]? = some (some (.int (iI x)))) (he : ls.set i (some (.int (iI (x + n)))) = ls') (ho : okS ls i = true := by rfl) (hn : i < M.2.2.1 := by decide) (k : T E d M (pc + 3) ls' (st) h Q) : T E d M pc ls (st) h Q := by
  refine T.pl ?_ k
  intro p e R s m args below meth c hC hf hl H lsA locs cells slots Q hP hS hL hcl hsl hz kk
  obtain ⟨hx, hb, hml, hown, hts, hrt, hlk, hnm, hK, hro, hB, hRS⟩ := hC
  subst he
  obtain ⟨k1, hk1⟩ := lv_find hl0
  exact lv_iinc hx hb hd hL hk1 (iI_add x n) hn rfl (fun lsB hB => kk _ (lvO.set1 ho hB))
theorem T.iadd {x y : Int} (hd : decode M.2.1 pc = .ok (.iadd, 1)) (k : T E d M (pc + 1) ls (.int (iI (x + y)) :: st) h Q) : T E d M pc ls (.int (iI y) :: .int (iI x) :: st) h Q := by
  refine T.pl ?_ k
  intro p e R s m args below meth c hC hf hl H lsA locs cells slots Q hP hS hL hcl hsl hz kk
  obtain ⟨hx, hb, hml, hown, hts, hrt, hlk, hnm, hK, hro, hB, hRS⟩ := hC
  refine lv_iadd hx hb hd ?_
  rw [iI_add]
  exact kk _ hL
theorem T.isub {x y : Int} (hd : decode M.2.1 pc = .ok (.isub, 1)) (k : T E d M (pc + 1) ls (.int (iI (x - y)) :: st) h Q) : T E d M pc ls (.int (iI y) :: .int (iI x) :: st) h Q := by
  refine T.pl ?_ k
  intro p e R s m args below meth c hC hf hl H lsA locs cells slots Q hP hS hL hcl hsl hz kk
  obtain ⟨hx, hb, hml, hown, hts, hrt, hlk, hnm, hK, hro, hB, hRS⟩ := hC
  refine lv_isub hx hb hd ?_
  rw [iI_sub]
  exact kk _ hL
theorem T.imul {x y : Int} (hd : decode M.2.1 pc = .ok (.imul, 1)) (k : T E d M (pc + 1) ls (.int (iI (x * y)) :: st) h Q) : T E d M pc ls (.int (iI y) :: .int (iI x) :: st) h Q := by
  refine T.pl ?_ k
  intro p e R s m args below meth c hC hf hl H lsA locs cells slots Q hP hS hL hcl hsl hz kk
  obtain ⟨hx, hb, hml, hown, hts, hrt, hlk, hnm, hK, hro, hB, hRS⟩ := hC
  refine lv_imul hx hb hd ?_
  rw [iI_mul]
  exact kk _ hL
theorem T.ladd {x y : Int} (hd : decode M.2.1 pc = .ok (.ladd, 1)) (k : T E d M (pc + 1) ls (.long (lI (x + y)) :: st) h Q) : T E d M pc ls (.long (lI y) :: .long (lI x) :: st) h Q := by
  refine T.pl ?_ k
  intro p e R s m args below meth c hC hf hl H lsA locs cells slots Q hP hS hL hcl hsl hz kk
  obtain ⟨hx, hb, hml, hown, hts, hrt, hlk, hnm, hK, hro, hB, hRS⟩ := hC
  refine lv_ladd hx hb hd ?_
  rw [lI_add]
  exact kk _ hL
theorem T.lsub {x y : Int} (hd : decode M.2.1 pc = .ok (.lsub, 1)) (k : T E d M (pc + 1) ls (.long (lI (x - y)) :: st) h Q) : T E d M pc ls (.long (lI y) :: .long (lI x) :: st) h Q := by
  refine T.pl ?_ k
  intro p e R s m args below meth c hC hf hl H lsA locs cells slots Q hP hS hL hcl hsl hz kk
  obtain ⟨hx, hb, hml, hown, hts, hrt, hlk, hnm, hK, hro, hB, hRS⟩ := hC
  refine lv_lsub hx hb hd ?_
  rw [lI_sub]
  exact kk _ hL
theorem T.lmul {x y : Int} (hd : decode M.2.1 pc = .ok (.lmul, 1)) (k : T E d M (pc + 1) ls (.long (lI (x * y)) :: st) h Q) : T E d M pc ls (.long (lI y) :: .long (lI x) :: st) h Q := by
  refine T.pl ?_ k
  intro p e R s m args below meth c hC hf hl H lsA locs cells slots Q hP hS hL hcl hsl hz kk
  obtain ⟨hx, hb, hml, hown, hts, hrt, hlk, hnm, hK, hro, hB, hRS⟩ := hC
  refine lv_lmul hx hb hd ?_
  rw [lI_mul]
  exact kk _ hL
theorem T.ineg {x : Int} (hd : decode M.2.1 pc = .ok (.ineg, 1)) (k : T E d M (pc + 1) ls (.int (iI (-x)) :: st) h Q) : T E d M pc ls (.int (iI x) :: st) h Q := by
  refine T.pl ?_ k
  intro p e R s m args below meth c hC hf hl H lsA locs cells slots Q hP hS hL hcl hsl hz kk
  obtain ⟨hx, hb, hml, hown, hts, hrt, hlk, hnm, hK, hro, hB, hRS⟩ := hC
  refine lv_ineg hx hb hd ?_
  rw [iI_neg]
  exact kk _ hL
theorem T.lneg {x : Int} (hd : decode M.2.1 pc = .ok (.lneg, 1)) (k : T E d M (pc + 1) ls (.long (lI (-x)) :: st) h Q) : T E d M pc ls (.long (lI x) :: st) h Q := by
  refine T.pl ?_ k
  intro p e R s m args below meth c hC hf hl H lsA locs cells slots Q hP hS hL hcl hsl hz kk
  obtain ⟨hx, hb, hml, hown, hts, hrt, hlk, hnm, hK, hro, hB, hRS⟩ := hC
  refine lv_lneg hx hb hd ?_
  rw [lI_neg]
  exact kk _ hL
theorem T.ldiv {x y : Int} (hd : decode M.2.1 pc = .ok (.ldiv, 1)) (hrx : rl x) (hry : rl y) (h0 : 0 ≤ x) (h1 : 0 < y) (k : T E d M (pc + 1) ls (.long (lI (x / y)) :: st) h Q) : T E d M pc ls (.long (lI y) :: .long (lI x) :: st) h Q := by
  refine T.pl ?_ k
  intro p e R s m args below meth c hC hf hl H lsA locs cells slots Q hP hS hL hcl hsl hz kk
  obtain ⟨hx, hb, hml, hown, hts, hrt, hlk, hnm, hK, hro, hB, hRS⟩ := hC
  refine lv_ldiv hx hb hd (fun e0 => ?_) ?_
  · rw [show (0 : Int64) = lI 0 from rfl, lI_eq hry (by unfold rl; omega)] at e0; omega
  · rw [lI_div hrx hry h0 h1]; exact kk _ hL
theorem T.idiv {x y : Int} (hd : decode M.2.1 pc = .ok (.idiv, 1)) (hrx : rg x) (hry : rg y) (h0 : 0 ≤ x) (h1 : 0 < y) (k : T E d M (pc + 1) ls (.int (iI (x / y)) :: st) h Q) : T E d M pc ls (.int (iI y) :: .int (iI x) :: st) h Q := by
  refine T.pl ?_ k
  intro p e R s m args below meth c hC hf hl H lsA locs cells slots Q hP hS hL hcl hsl hz kk
  obtain ⟨hx, hb, hml, hown, hts, hrt, hlk, hnm, hK, hro, hB, hRS⟩ := hC
  refine lv_idiv hx hb hd (fun e0 => ?_) ?_
  · rw [show (0 : Int32) = iI 0 from rfl, iI_eq hry (by unfold rg; omega)] at e0; omega
  · rw [iI_div hrx hry h0 h1]; exact kk _ hL
theorem T.irem {x y : Int} (hd : decode M.2.1 pc = .ok (.irem, 1)) (hrx : rg x) (hry : rg y) (h0 : 0 ≤ x) (h1 : 0 < y) (k : T E d M (pc + 1) ls (.int (iI (x % y)) :: st) h Q) : T E d M pc ls (.int (iI y) :: .int (iI x) :: st) h Q := by
  refine T.pl ?_ k
  intro p e R s m args below meth c hC hf hl H lsA locs cells slots Q hP hS hL hcl hsl hz kk
  obtain ⟨hx, hb, hml, hown, hts, hrt, hlk, hnm, hK, hro, hB, hRS⟩ := hC
  refine lv_irem hx hb hd (fun e0 => ?_) ?_
  · rw [show (0 : Int32) = iI 0 from rfl, iI_eq hry (by unfold rg; omega)] at e0; omega
  · rw [iI_div hrx hry h0 h1, iI_mul, iI_sub, show x - x / y * y = x % y by rw [Int.emod_def, Int.mul_comm]]; exact kk _ hL
theorem T.iand {x y : Int32} (hd : decode M.2.1 pc = .ok (.iand, 1)) (k : T E d M (pc + 1) ls (.int (x &&& y) :: st) h Q) : T E d M pc ls (.int y :: .int x :: st) h Q := by
  refine T.pl ?_ k
  intro p e R s m args below meth c hC hf hl H lsA locs cells slots Q hP hS hL hcl hsl hz kk
  obtain ⟨hx, hb, hml, hown, hts, hrt, hlk, hnm, hK, hro, hB, hRS⟩ := hC
  exact lv_iand hx hb hd (kk _ hL)
theorem T.ior {x y : Int32} (hd : decode M.2.1 pc = .ok (.ior, 1)) (k : T E d M (pc + 1) ls (.int (x ||| y) :: st) h Q) : T E d M pc ls (.int y :: .int x :: st) h Q := by
  refine T.pl ?_ k
  intro p e R s m args below meth c hC hf hl H lsA locs cells slots Q hP hS hL hcl hsl hz kk
  obtain ⟨hx, hb, hml, hown, hts, hrt, hlk, hnm, hK, hro, hB, hRS⟩ := hC
  exact lv_ior hx hb hd (kk _ hL)
theorem T.land {x y : Int64} (hd : decode M.2.1 pc = .ok (.land, 1)) (k : T E d M (pc + 1) ls (.long (x &&& y) :: st) h Q) : T E d M pc ls (.long y :: .long x :: st) h Q := by
  refine T.pl ?_ k
  intro p e R s m args below meth c hC hf hl H lsA locs cells slots Q hP hS hL hcl hsl hz kk
  obtain ⟨hx, hb, hml, hown, hts, hrt, hlk, hnm, hK, hro, hB, hRS⟩ := hC
  exact lv_land hx hb hd (kk _ hL)
theorem T.lor {x y : Int64} (hd : decode M.2.1 pc = .ok (.lor, 1)) (k : T E d M (pc + 1) ls (.long (x ||| y) :: st) h Q) : T E d M pc ls (.long y :: .long x :: st) h Q := by
  refine T.pl ?_ k
  intro p e R s m args below meth c hC hf hl H lsA locs cells slots Q hP hS hL hcl hsl hz kk
  obtain ⟨hx, hb, hml, hown, hts, hrt, hlk, hnm, hK, hro, hB, hRS⟩ := hC
  exact lv_lor hx hb hd (kk _ hL)
theorem T.ishl {x y : Int32} (hd : decode M.2.1 pc = .ok (.ishl, 1)) (k : T E d M (pc + 1) ls (.int (x <<< (y &&& 31)) :: st) h Q) : T E d M pc ls (.int y :: .int x :: st) h Q := by
  refine T.pl ?_ k
  intro p e R s m args below meth c hC hf hl H lsA locs cells slots Q hP hS hL hcl hsl hz kk
  obtain ⟨hx, hb, hml, hown, hts, hrt, hlk, hnm, hK, hro, hB, hRS⟩ := hC
  exact lv_ishl hx hb hd (kk _ hL)
theorem T.ishr {x y : Int32} (hd : decode M.2.1 pc = .ok (.ishr, 1)) (k : T E d M (pc + 1) ls (.int (x >>> (y &&& 31)) :: st) h Q) : T E d M pc ls (.int y :: .int x :: st) h Q := by
  refine T.pl ?_ k
  intro p e R s m args below meth c hC hf hl H lsA locs cells slots Q hP hS hL hcl hsl hz kk
  obtain ⟨hx, hb, hml, hown, hts, hrt, hlk, hnm, hK, hro, hB, hRS⟩ := hC
  exact lv_ishr hx hb hd (kk _ hL)
theorem T.lshl {x : Int64} {y : Int32} (hd : decode M.2.1 pc = .ok (.lshl, 1)) (k : T E d M (pc + 1) ls (.long (x <<< (y.toInt64 &&& 63)) :: st) h Q) : T E d M pc ls (.int y :: .long x :: st) h Q := by
  refine T.pl ?_ k
  intro p e R s m args below meth c hC hf hl H lsA locs cells slots Q hP hS hL hcl hsl hz kk
  obtain ⟨hx, hb, hml, hown, hts, hrt, hlk, hnm, hK, hro, hB, hRS⟩ := hC
  exact lv_lshl hx hb hd rfl (kk _ hL)
theorem T.lshr {x : Int64} {y : Int32} (hd : decode M.2.1 pc = .ok (.lshr, 1)) (k : T E d M (pc + 1) ls (.long (x >>> (y.toInt64 &&& 63)) :: st) h Q) : T E d M pc ls (.int y :: .long x :: st) h Q := by
  refine T.pl ?_ k
  intro p e R s m args below meth c hC hf hl H lsA locs cells slots Q hP hS hL hcl hsl hz kk
  obtain ⟨hx, hb, hml, hown, hts, hrt, hlk, hnm, hK, hro, hB, hRS⟩ := hC
  exact lv_lshr hx hb hd rfl (kk _ hL)
theorem T.lushr {x : Int64} {y : Int32} (hd : decode M.2.1 pc = .ok (.lushr, 1)) (k : T E d M (pc + 1) ls (.long ((x.toUInt64 >>> (y.toInt64.toUInt64 &&& Int64.toUInt64 63)).toInt64) :: st) h Q) : T E d M pc ls (.int y :: .long x :: st) h Q := by
  refine T.pl ?_ k
  intro p e R s m args below meth c hC hf hl H lsA locs cells slots Q hP hS hL hcl hsl hz kk
  obtain ⟨hx, hb, hml, hown, hts, hrt, hlk, hnm, hK, hro, hB, hRS⟩ := hC
  exact lv_lushr hx hb hd rfl (kk _ hL)
theorem T.i2lR {x : Int32} (hd : decode M.2.1 pc = .ok (.i2l, 1)) (k : T E d M (pc + 1) ls (.long x.toInt64 :: st) h Q) : T E d M pc ls (.int x :: st) h Q := by
  refine T.pl ?_ k
  intro p e R s m args below meth c hC hf hl H lsA locs cells slots Q hP hS hL hcl hsl hz kk
  obtain ⟨hx, hb, hml, hown, hts, hrt, hlk, hnm, hK, hro, hB, hRS⟩ := hC
  exact lv_i2l hx hb hd rfl (kk _ hL)
theorem T.i2l {x : Int} (hd : decode M.2.1 pc = .ok (.i2l, 1)) (hrx : rg x) (k : T E d M (pc + 1) ls (.long (lI x) :: st) h Q) : T E d M pc ls (.int (iI x) :: st) h Q := by
  refine T.pl ?_ k
  intro p e R s m args below meth c hC hf hl H lsA locs cells slots Q hP hS hL hcl hsl hz kk
  obtain ⟨hx, hb, hml, hown, hts, hrt, hlk, hnm, hK, hro, hB, hRS⟩ := hC
  exact lv_i2l hx hb hd (iI_long hrx) (kk _ hL)
theorem T.l2i {x : Int64} (hd : decode M.2.1 pc = .ok (.l2i, 1)) (k : T E d M (pc + 1) ls (.int x.toInt32 :: st) h Q) : T E d M pc ls (.long x :: st) h Q := by
  refine T.pl ?_ k
  intro p e R s m args below meth c hC hf hl H lsA locs cells slots Q hP hS hL hcl hsl hz kk
  obtain ⟨hx, hb, hml, hown, hts, hrt, hlk, hnm, hK, hro, hB, hRS⟩ := hC
  exact lv_l2i hx hb hd rfl (kk _ hL)
theorem T.i2b {x : Int32} (hd : decode M.2.1 pc = .ok (.i2b, 1)) (k : T E d M (pc + 1) ls (.int x.toInt8.toInt32 :: st) h Q) : T E d M pc ls (.int x :: st) h Q := by
  refine T.pl ?_ k
  intro p e R s m args below meth c hC hf hl H lsA locs cells slots Q hP hS hL hcl hsl hz kk
  obtain ⟨hx, hb, hml, hown, hts, hrt, hlk, hnm, hK, hro, hB, hRS⟩ := hC
  exact lv_i2b hx hb hd rfl (kk _ hL)
theorem T.i2s {x : Int32} (hd : decode M.2.1 pc = .ok (.i2s, 1)) (k : T E d M (pc + 1) ls (.int x.toInt16.toInt32 :: st) h Q) : T E d M pc ls (.int x :: st) h Q := by
  refine T.pl ?_ k
  intro p e R s m args below meth c hC hf hl H lsA locs cells slots Q hP hS hL hcl hsl hz kk
  obtain ⟨hx, hb, hml, hown, hts, hrt, hlk, hnm, hK, hro, hB, hRS⟩ := hC
  exact lv_i2s hx hb hd rfl (kk _ hL)
theorem T.i2c {x : Int32} (hd : decode M.2.1 pc = .ok (.i2c, 1)) (k : T E d M (pc + 1) ls (.int (x.toUInt32 % 65536).toInt32 :: st) h Q) : T E d M pc ls (.int x :: st) h Q := by
  refine T.pl ?_ k
  intro p e R s m args below meth c hC hf hl H lsA locs cells slots Q hP hS hL hcl hsl hz kk
  obtain ⟨hx, hb, hml, hown, hts, hrt, hlk, hnm, hK, hro, hB, hRS⟩ := hC
  exact lv_i2c hx hb hd rfl (kk _ hL)
theorem T.dup {v : Value} (hd : decode M.2.1 pc = .ok (.dup, 1)) (hv : v.category = 1 := by rfl) (k : T E d M (pc + 1) ls (v :: v :: st) h Q) : T E d M pc ls (v :: st) h Q := by
  refine T.pl ?_ k
  intro p e R s m args below meth c hC hf hl H lsA locs cells slots Q hP hS hL hcl hsl hz kk
  obtain ⟨hx, hb, hml, hown, hts, hrt, hlk, hnm, hK, hro, hB, hRS⟩ := hC
  exact lv_dup hx hb hd hv (kk _ hL)
theorem T.dup2 {v w : Value} (hd : decode M.2.1 pc = .ok (.dup2, 1)) (hv : v.category = 1 := by rfl) (hw : w.category = 1 := by rfl) (k : T E d M (pc + 1) ls (v :: w :: v :: w :: st) h Q) : T E d M pc ls (v :: w :: st) h Q := by
  refine T.pl ?_ k
  intro p e R s m args below meth c hC hf hl H lsA locs cells slots Q hP hS hL hcl hsl hz kk
  obtain ⟨hx, hb, hml, hown, hts, hrt, hlk, hnm, hK, hro, hB, hRS⟩ := hC
  exact lv_dup2_11 hx hb hd hv hw (kk _ hL)
theorem T.topi {v : Int32} {z : Int} (he : v = iI z) (k : T E d M pc ls (.int (iI z) :: st) h Q) : T E d M pc ls (.int v :: st) h Q := by rw [he]; exact k
theorem T.topl {v : Int64} {z : Int} (he : v = lI z) (k : T E d M pc ls (.long (lI z) :: st) h Q) : T E d M pc ls (.long v :: st) h Q := by rw [he]; exact k
theorem T.icmp_lt {x y : Int} {off : Int} (tgt : Nat) (hd : decode M.2.1 pc = .ok (.if_icmp .lt off, 3)) (hrx : rg x) (hry : rg y) (kt : x < y → T E d M tgt ls st h Q) (kf : y ≤ x → T E d M (pc + 3) ls st h Q) (ht : (pc : Int) + off = (tgt : Int) := by decide) : T E d M pc ls (.int (iI y) :: .int (iI x) :: st) h Q := by
  by_cases hq : x < y
  · refine T.pl ?_ (kt hq)
    intro p e R s m args below meth c hC hf hl H lsA locs cells slots Q hP hS hL hcl hsl hz kk
    obtain ⟨hx, hb, hml, hown, hts, hrt, hlk, hnm, hK, hro, hB, hRS⟩ := hC
    exact lv_icmp_lt hx hb hd ht (fun _ => kk _ hL) (fun z => absurd ((iI_lt hrx hry).mpr hq) z)
  · refine T.pl ?_ (kf (by omega))
    intro p e R s m args below meth c hC hf hl H lsA locs cells slots Q hP hS hL hcl hsl hz kk
    obtain ⟨hx, hb, hml, hown, hts, hrt, hlk, hnm, hK, hro, hB, hRS⟩ := hC
    exact lv_icmp_lt hx hb hd ht (fun z => (hq ((iI_lt hrx hry).mp z)).elim) (fun _ => kk _ hL)
theorem T.if_lt {x : Int} {off : Int} (tgt : Nat) (hd : decode M.2.1 pc = .ok (.ifCond .lt off, 3)) (hrx : rg x) (kt : x < 0 → T E d M tgt ls st h Q) (kf : 0 ≤ x → T E d M (pc + 3) ls st h Q) (ht : (pc : Int) + off = (tgt : Int) := by decide) : T E d M pc ls (.int (iI x) :: st) h Q := by
  have hry : rg 0 := by unfold rg; omega
  by_cases hq : x < 0
  · refine T.pl ?_ (kt hq)
    intro p e R s m args below meth c hC hf hl H lsA locs cells slots Q hP hS hL hcl hsl hz kk
    obtain ⟨hx, hb, hml, hown, hts, hrt, hlk, hnm, hK, hro, hB, hRS⟩ := hC
    exact lv_if_lt hx hb hd ht (fun _ => kk _ hL) (fun z => absurd ((iI_lt hrx hry).mpr hq) z)
  · refine T.pl ?_ (kf (by omega))
    intro p e R s m args below meth c hC hf hl H lsA locs cells slots Q hP hS hL hcl hsl hz kk
    obtain ⟨hx, hb, hml, hown, hts, hrt, hlk, hnm, hK, hro, hB, hRS⟩ := hC
    exact lv_if_lt hx hb hd ht (fun z => (hq ((iI_lt hrx hry).mp z)).elim) (fun _ => kk _ hL)
theorem T.icmp_ge {x y : Int} {off : Int} (tgt : Nat) (hd : decode M.2.1 pc = .ok (.if_icmp .ge off, 3)) (hrx : rg x) (hry : rg y) (kt : y ≤ x → T E d M tgt ls st h Q) (kf : x < y → T E d M (pc + 3) ls st h Q) (ht : (pc : Int) + off = (tgt : Int) := by decide) : T E d M pc ls (.int (iI y) :: .int (iI x) :: st) h Q := by
  by_cases hq : y ≤ x
  · refine T.pl ?_ (kt hq)
    intro p e R s m args below meth c hC hf hl H lsA locs cells slots Q hP hS hL hcl hsl hz kk
    obtain ⟨hx, hb, hml, hown, hts, hrt, hlk, hnm, hK, hro, hB, hRS⟩ := hC
    exact lv_icmp_ge hx hb hd ht (fun _ => kk _ hL) (fun z => absurd ((iI_le hry hrx).mpr hq) z)
  · refine T.pl ?_ (kf (by omega))
    intro p e R s m args below meth c hC hf hl H lsA locs cells slots Q hP hS hL hcl hsl hz kk
    obtain ⟨hx, hb, hml, hown, hts, hrt, hlk, hnm, hK, hro, hB, hRS⟩ := hC
    exact lv_icmp_ge hx hb hd ht (fun z => (hq ((iI_le hry hrx).mp z)).elim) (fun _ => kk _ hL)
theorem T.if_ge {x : Int} {off : Int} (tgt : Nat) (hd : decode M.2.1 pc = .ok (.ifCond .ge off, 3)) (hrx : rg x) (kt : 0 ≤ x → T E d M tgt ls st h Q) (kf : x < 0 → T E d M (pc + 3) ls st h Q) (ht : (pc : Int) + off = (tgt : Int) := by decide) : T E d M pc ls (.int (iI x) :: st) h Q := by
  have hry : rg 0 := by unfold rg; omega
  by_cases hq : 0 ≤ x
  · refine T.pl ?_ (kt hq)
    intro p e R s m args below meth c hC hf hl H lsA locs cells slots Q hP hS hL hcl hsl hz kk
    obtain ⟨hx, hb, hml, hown, hts, hrt, hlk, hnm, hK, hro, hB, hRS⟩ := hC
    exact lv_if_ge hx hb hd ht (fun _ => kk _ hL) (fun z => absurd ((iI_le hry hrx).mpr hq) z)
  · refine T.pl ?_ (kf (by omega))
    intro p e R s m args below meth c hC hf hl H lsA locs cells slots Q hP hS hL hcl hsl hz kk
    obtain ⟨hx, hb, hml, hown, hts, hrt, hlk, hnm, hK, hro, hB, hRS⟩ := hC
    exact lv_if_ge hx hb hd ht (fun z => (hq ((iI_le hry hrx).mp z)).elim) (fun _ => kk _ hL)
theorem T.icmp_gt {x y : Int} {off : Int} (tgt : Nat) (hd : decode M.2.1 pc = .ok (.if_icmp .gt off, 3)) (hrx : rg x) (hry : rg y) (kt : y < x → T E d M tgt ls st h Q) (kf : x ≤ y → T E d M (pc + 3) ls st h Q) (ht : (pc : Int) + off = (tgt : Int) := by decide) : T E d M pc ls (.int (iI y) :: .int (iI x) :: st) h Q := by
  by_cases hq : y < x
  · refine T.pl ?_ (kt hq)
    intro p e R s m args below meth c hC hf hl H lsA locs cells slots Q hP hS hL hcl hsl hz kk
    obtain ⟨hx, hb, hml, hown, hts, hrt, hlk, hnm, hK, hro, hB, hRS⟩ := hC
    exact lv_icmp_gt hx hb hd ht (fun _ => kk _ hL) (fun z => absurd ((iI_lt hry hrx).mpr hq) z)
  · refine T.pl ?_ (kf (by omega))
    intro p e R s m args below meth c hC hf hl H lsA locs cells slots Q hP hS hL hcl hsl hz kk
    obtain ⟨hx, hb, hml, hown, hts, hrt, hlk, hnm, hK, hro, hB, hRS⟩ := hC
    exact lv_icmp_gt hx hb hd ht (fun z => (hq ((iI_lt hry hrx).mp z)).elim) (fun _ => kk _ hL)
theorem T.if_gt {x : Int} {off : Int} (tgt : Nat) (hd : decode M.2.1 pc = .ok (.ifCond .gt off, 3)) (hrx : rg x) (kt : 0 < x → T E d M tgt ls st h Q) (kf : x ≤ 0 → T E d M (pc + 3) ls st h Q) (ht : (pc : Int) + off = (tgt : Int) := by decide) : T E d M pc ls (.int (iI x) :: st) h Q := by
  have hry : rg 0 := by unfold rg; omega
  by_cases hq : 0 < x
  · refine T.pl ?_ (kt hq)
    intro p e R s m args below meth c hC hf hl H lsA locs cells slots Q hP hS hL hcl hsl hz kk
    obtain ⟨hx, hb, hml, hown, hts, hrt, hlk, hnm, hK, hro, hB, hRS⟩ := hC
    exact lv_if_gt hx hb hd ht (fun _ => kk _ hL) (fun z => absurd ((iI_lt hry hrx).mpr hq) z)
  · refine T.pl ?_ (kf (by omega))
    intro p e R s m args below meth c hC hf hl H lsA locs cells slots Q hP hS hL hcl hsl hz kk
    obtain ⟨hx, hb, hml, hown, hts, hrt, hlk, hnm, hK, hro, hB, hRS⟩ := hC
    exact lv_if_gt hx hb hd ht (fun z => (hq ((iI_lt hry hrx).mp z)).elim) (fun _ => kk _ hL)
theorem T.icmp_le {x y : Int} {off : Int} (tgt : Nat) (hd : decode M.2.1 pc = .ok (.if_icmp .le off, 3)) (hrx : rg x) (hry : rg y) (kt : x ≤ y → T E d M tgt ls st h Q) (kf : y < x → T E d M (pc + 3) ls st h Q) (ht : (pc : Int) + off = (tgt : Int) := by decide) : T E d M pc ls (.int (iI y) :: .int (iI x) :: st) h Q := by
  by_cases hq : x ≤ y
  · refine T.pl ?_ (kt hq)
    intro p e R s m args below meth c hC hf hl H lsA locs cells slots Q hP hS hL hcl hsl hz kk
    obtain ⟨hx, hb, hml, hown, hts, hrt, hlk, hnm, hK, hro, hB, hRS⟩ := hC
    exact lv_icmp_le hx hb hd ht (fun _ => kk _ hL) (fun z => absurd ((iI_le hrx hry).mpr hq) z)
  · refine T.pl ?_ (kf (by omega))
    intro p e R s m args below meth c hC hf hl H lsA locs cells slots Q hP hS hL hcl hsl hz kk
    obtain ⟨hx, hb, hml, hown, hts, hrt, hlk, hnm, hK, hro, hB, hRS⟩ := hC
    exact lv_icmp_le hx hb hd ht (fun z => (hq ((iI_le hrx hry).mp z)).elim) (fun _ => kk _ hL)
theorem T.if_le {x : Int} {off : Int} (tgt : Nat) (hd : decode M.2.1 pc = .ok (.ifCond .le off, 3)) (hrx : rg x) (kt : x ≤ 0 → T E d M tgt ls st h Q) (kf : 0 < x → T E d M (pc + 3) ls st h Q) (ht : (pc : Int) + off = (tgt : Int) := by decide) : T E d M pc ls (.int (iI x) :: st) h Q := by
  have hry : rg 0 := by unfold rg; omega
  by_cases hq : x ≤ 0
  · refine T.pl ?_ (kt hq)
    intro p e R s m args below meth c hC hf hl H lsA locs cells slots Q hP hS hL hcl hsl hz kk
    obtain ⟨hx, hb, hml, hown, hts, hrt, hlk, hnm, hK, hro, hB, hRS⟩ := hC
    exact lv_if_le hx hb hd ht (fun _ => kk _ hL) (fun z => absurd ((iI_le hrx hry).mpr hq) z)
  · refine T.pl ?_ (kf (by omega))
    intro p e R s m args below meth c hC hf hl H lsA locs cells slots Q hP hS hL hcl hsl hz kk
    obtain ⟨hx, hb, hml, hown, hts, hrt, hlk, hnm, hK, hro, hB, hRS⟩ := hC
    exact lv_if_le hx hb hd ht (fun z => (hq ((iI_le hrx hry).mp z)).elim) (fun _ => kk _ hL)
theorem T.icmp_eq {x y : Int} {off : Int} (tgt : Nat) (hd : decode M.2.1 pc = .ok (.if_icmp .eq off, 3)) (hrx : rg x) (hry : rg y) (kt : x = y → T E d M tgt ls st h Q) (kf : x ≠ y → T E d M (pc + 3) ls st h Q) (ht : (pc : Int) + off = (tgt : Int) := by decide) : T E d M pc ls (.int (iI y) :: .int (iI x) :: st) h Q := by
  by_cases hq : x = y
  · refine T.pl ?_ (kt hq)
    intro p e R s m args below meth c hC hf hl H lsA locs cells slots Q hP hS hL hcl hsl hz kk
    obtain ⟨hx, hb, hml, hown, hts, hrt, hlk, hnm, hK, hro, hB, hRS⟩ := hC
    exact lv_icmp_eq hx hb hd ht (fun _ => kk _ hL) (fun z => absurd ((iI_eq hrx hry).mpr hq) z)
  · refine T.pl ?_ (kf (hq))
    intro p e R s m args below meth c hC hf hl H lsA locs cells slots Q hP hS hL hcl hsl hz kk
    obtain ⟨hx, hb, hml, hown, hts, hrt, hlk, hnm, hK, hro, hB, hRS⟩ := hC
    exact lv_icmp_eq hx hb hd ht (fun z => (hq ((iI_eq hrx hry).mp z)).elim) (fun _ => kk _ hL)
theorem T.if_eq {x : Int} {off : Int} (tgt : Nat) (hd : decode M.2.1 pc = .ok (.ifCond .eq off, 3)) (hrx : rg x) (kt : x = 0 → T E d M tgt ls st h Q) (kf : x ≠ 0 → T E d M (pc + 3) ls st h Q) (ht : (pc : Int) + off = (tgt : Int) := by decide) : T E d M pc ls (.int (iI x) :: st) h Q := by
  have hry : rg 0 := by unfold rg; omega
  by_cases hq : x = 0
  · refine T.pl ?_ (kt hq)
    intro p e R s m args below meth c hC hf hl H lsA locs cells slots Q hP hS hL hcl hsl hz kk
    obtain ⟨hx, hb, hml, hown, hts, hrt, hlk, hnm, hK, hro, hB, hRS⟩ := hC
    exact lv_if_eq hx hb hd ht (fun _ => kk _ hL) (fun z => absurd ((iI_eq hrx hry).mpr hq) z)
  · refine T.pl ?_ (kf (hq))
    intro p e R s m args below meth c hC hf hl H lsA locs cells slots Q hP hS hL hcl hsl hz kk
    obtain ⟨hx, hb, hml, hown, hts, hrt, hlk, hnm, hK, hro, hB, hRS⟩ := hC
    exact lv_if_eq hx hb hd ht (fun z => (hq ((iI_eq hrx hry).mp z)).elim) (fun _ => kk _ hL)
theorem T.icmp_ne {x y : Int} {off : Int} (tgt : Nat) (hd : decode M.2.1 pc = .ok (.if_icmp .ne off, 3)) (hrx : rg x) (hry : rg y) (kt : x ≠ y → T E d M tgt ls st h Q) (kf : x = y → T E d M (pc + 3) ls st h Q) (ht : (pc : Int) + off = (tgt : Int) := by decide) : T E d M pc ls (.int (iI y) :: .int (iI x) :: st) h Q := by
  by_cases hq : x ≠ y
  · refine T.pl ?_ (kt hq)
    intro p e R s m args below meth c hC hf hl H lsA locs cells slots Q hP hS hL hcl hsl hz kk
    obtain ⟨hx, hb, hml, hown, hts, hrt, hlk, hnm, hK, hro, hB, hRS⟩ := hC
    exact lv_icmp_ne hx hb hd ht (fun _ => kk _ hL) (fun z => (hq ((iI_eq hrx hry).mp z)).elim)
  · refine T.pl ?_ (kf (by omega))
    intro p e R s m args below meth c hC hf hl H lsA locs cells slots Q hP hS hL hcl hsl hz kk
    obtain ⟨hx, hb, hml, hown, hts, hrt, hlk, hnm, hK, hro, hB, hRS⟩ := hC
    exact lv_icmp_ne hx hb hd ht (fun z => (hq (fun z1 => z ((iI_eq hrx hry).mpr z1))).elim) (fun _ => kk _ hL)
theorem T.if_ne {x : Int} {off : Int} (tgt : Nat) (hd : decode M.2.1 pc = .ok (.ifCond .ne off, 3)) (hrx : rg x) (kt : x ≠ 0 → T E d M tgt ls st h Q) (kf : x = 0 → T E d M (pc + 3) ls st h Q) (ht : (pc : Int) + off = (tgt : Int) := by decide) : T E d M pc ls (.int (iI x) :: st) h Q := by
  have hry : rg 0 := by unfold rg; omega
  by_cases hq : x ≠ 0
  · refine T.pl ?_ (kt hq)
    intro p e R s m args below meth c hC hf hl H lsA locs cells slots Q hP hS hL hcl hsl hz kk
    obtain ⟨hx, hb, hml, hown, hts, hrt, hlk, hnm, hK, hro, hB, hRS⟩ := hC
    exact lv_if_ne hx hb hd ht (fun _ => kk _ hL) (fun z => (hq ((iI_eq hrx hry).mp z)).elim)
  · refine T.pl ?_ (kf (by omega))
    intro p e R s m args below meth c hC hf hl H lsA locs cells slots Q hP hS hL hcl hsl hz kk
    obtain ⟨hx, hb, hml, hown, hts, hrt, hlk, hnm, hK, hro, hB, hRS⟩ := hC
    exact lv_if_ne hx hb hd ht (fun z => (hq (fun z1 => z ((iI_eq hrx hry).mpr z1))).elim) (fun _ => kk _ hL)
theorem T.ifB_eq {p : Prop} {off : Int} (tgt : Nat) (hd : decode M.2.1 pc = .ok (.ifCond .eq off, 3)) (kt : ¬ p → T E d M tgt ls st h Q) (kf : p → T E d M (pc + 3) ls st h Q) (ht : (pc : Int) + off = (tgt : Int) := by decide) : T E d M pc ls (.int (iI (bZ p)) :: st) h Q := by
  refine T.if_eq tgt hd (by rcases bZ_01 p with h0 | h0 <;> rw [h0] <;> unfold rg <;> decide) (fun hz => kt ?_) (fun hz => kf ?_) ht
  · intro hp; rw [bZ_t hp] at hz; cases hz
  · apply Classical.byContradiction; intro hp; exact hz (bZ_f hp)
theorem T.ifB_ne {p : Prop} {off : Int} (tgt : Nat) (hd : decode M.2.1 pc = .ok (.ifCond .ne off, 3)) (kt : p → T E d M tgt ls st h Q) (kf : ¬ p → T E d M (pc + 3) ls st h Q) (ht : (pc : Int) + off = (tgt : Int) := by decide) : T E d M pc ls (.int (iI (bZ p)) :: st) h Q := by
  refine T.if_ne tgt hd (by rcases bZ_01 p with h0 | h0 <;> rw [h0] <;> unfold rg <;> decide) (fun hz => kt ?_) (fun hz => kf ?_) ht
  · apply Classical.byContradiction; intro hp; exact hz (bZ_f hp)
  · intro hp; rw [bZ_t hp] at hz; cases hz
theorem lg_cmpI {x y : Int} (hx : rl x) (hy : rl y) : lg_cmp (lI x) (lI y) = iI (if x < y then -1 else if x = y then 0 else 1) := by
  unfold lg_cmp
  by_cases h1 : x < y
  · have a1 := (lI_lt hx hy).mpr h1
    have a2 : ¬ lI y < lI x := fun z => by have := (lI_lt hy hx).mp z; omega
    have a3 : ¬ lI x = lI y := fun z => by have := (lI_eq hx hy).mp z; omega
    simp [a2, a3, h1]; try rfl
  · by_cases h2 : x = y
    · subst h2
      have a1 : ¬ lI x < lI x := fun z => by have := (lI_lt hx hx).mp z; omega
      simp [a1]; try rfl
    · have a1 : ¬ lI x < lI y := fun z => by have := (lI_lt hx hy).mp z; omega
      have a2 := (lI_lt hy hx).mpr (by omega : y < x)
      have a3 : ¬ lI x = lI y := fun z => h2 ((lI_eq hx hy).mp z)
      simp [a2, a3, h1, h2]; try rfl
theorem T.lcmp {x y : Int} (hd : decode M.2.1 pc = .ok (.lcmp, 1)) (hrx : rl x) (hry : rl y) (k : T E d M (pc + 1) ls (.int (iI (if x < y then -1 else if x = y then 0 else 1)) :: st) h Q) : T E d M pc ls (.long (lI y) :: .long (lI x) :: st) h Q := by
  refine T.pl ?_ k
  intro p e R s m args below meth c hC hf hl H lsA locs cells slots Q hP hS hL hcl hsl hz kk
  obtain ⟨hx, hb, hml, hown, hts, hrt, hlk, hnm, hK, hro, hB, hRS⟩ := hC
  refine W.lcmp hx hb hd ?_
  rw [lg_cmpI hrx hry]
  exact kk _ hL
theorem T.lcmp_lt {x y : Int} {off : Int} (tgt : Nat) (hd : decode M.2.1 pc = .ok (.lcmp, 1)) (hd2 : decode M.2.1 (pc + 1) = .ok (.ifCond .lt off, 3)) (hrx : rl x) (hry : rl y) (kt : x < y → T E d M tgt ls st h Q) (kf : y ≤ x → T E d M (pc + 1 + 3) ls st h Q) (ht : ((pc + 1 : Nat) : Int) + off = (tgt : Int) := by decide) : T E d M pc ls (.long (lI y) :: .long (lI x) :: st) h Q := by
  refine T.lcmp hd hrx hry ?_
  refine T.if_lt tgt hd2 (by unfold rg; split <;> (try split) <;> omega) (fun hz => kt ?_) (fun hz => kf ?_) ht <;> (split at hz <;> (try split at hz) <;> omega)
theorem T.lcmp_ge {x y : Int} {off : Int} (tgt : Nat) (hd : decode M.2.1 pc = .ok (.lcmp, 1)) (hd2 : decode M.2.1 (pc + 1) = .ok (.ifCond .ge off, 3)) (hrx : rl x) (hry : rl y) (kt : y ≤ x → T E d M tgt ls st h Q) (kf : x < y → T E d M (pc + 1 + 3) ls st h Q) (ht : ((pc + 1 : Nat) : Int) + off = (tgt : Int) := by decide) : T E d M pc ls (.long (lI y) :: .long (lI x) :: st) h Q := by
  refine T.lcmp hd hrx hry ?_
  refine T.if_ge tgt hd2 (by unfold rg; split <;> (try split) <;> omega) (fun hz => kt ?_) (fun hz => kf ?_) ht <;> (split at hz <;> (try split at hz) <;> omega)
theorem T.lcmp_gt {x y : Int} {off : Int} (tgt : Nat) (hd : decode M.2.1 pc = .ok (.lcmp, 1)) (hd2 : decode M.2.1 (pc + 1) = .ok (.ifCond .gt off, 3)) (hrx : rl x) (hry : rl y) (kt : y < x → T E d M tgt ls st h Q) (kf : x ≤ y → T E d M (pc + 1 + 3) ls st h Q) (ht : ((pc + 1 : Nat) : Int) + off = (tgt : Int) := by decide) : T E d M pc ls (.long (lI y) :: .long (lI x) :: st) h Q := by
  refine T.lcmp hd hrx hry ?_
  refine T.if_gt tgt hd2 (by unfold rg; split <;> (try split) <;> omega) (fun hz => kt ?_) (fun hz => kf ?_) ht <;> (split at hz <;> (try split at hz) <;> omega)
theorem T.lcmp_le {x y : Int} {off : Int} (tgt : Nat) (hd : decode M.2.1 pc = .ok (.lcmp, 1)) (hd2 : decode M.2.1 (pc + 1) = .ok (.ifCond .le off, 3)) (hrx : rl x) (hry : rl y) (kt : x ≤ y → T E d M tgt ls st h Q) (kf : y < x → T E d M (pc + 1 + 3) ls st h Q) (ht : ((pc + 1 : Nat) : Int) + off = (tgt : Int) := by decide) : T E d M pc ls (.long (lI y) :: .long (lI x) :: st) h Q := by
  refine T.lcmp hd hrx hry ?_
  refine T.if_le tgt hd2 (by unfold rg; split <;> (try split) <;> omega) (fun hz => kt ?_) (fun hz => kf ?_) ht <;> (split at hz <;> (try split at hz) <;> omega)
theorem T.lcmp_eq {x y : Int} {off : Int} (tgt : Nat) (hd : decode M.2.1 pc = .ok (.lcmp, 1)) (hd2 : decode M.2.1 (pc + 1) = .ok (.ifCond .eq off, 3)) (hrx : rl x) (hry : rl y) (kt : x = y → T E d M tgt ls st h Q) (kf : x ≠ y → T E d M (pc + 1 + 3) ls st h Q) (ht : ((pc + 1 : Nat) : Int) + off = (tgt : Int) := by decide) : T E d M pc ls (.long (lI y) :: .long (lI x) :: st) h Q := by
  refine T.lcmp hd hrx hry ?_
  refine T.if_eq tgt hd2 (by unfold rg; split <;> (try split) <;> omega) (fun hz => kt ?_) (fun hz => kf ?_) ht <;> (split at hz <;> (try split at hz) <;> omega)
theorem T.lcmp_ne {x y : Int} {off : Int} (tgt : Nat) (hd : decode M.2.1 pc = .ok (.lcmp, 1)) (hd2 : decode M.2.1 (pc + 1) = .ok (.ifCond .ne off, 3)) (hrx : rl x) (hry : rl y) (kt : x ≠ y → T E d M tgt ls st h Q) (kf : x = y → T E d M (pc + 1 + 3) ls st h Q) (ht : ((pc + 1 : Nat) : Int) + off = (tgt : Int) := by decide) : T E d M pc ls (.long (lI y) :: .long (lI x) :: st) h Q := by
  refine T.lcmp hd hrx hry ?_
  refine T.if_ne tgt hd2 (by unfold rg; split <;> (try split) <;> omega) (fun hz => kt ?_) (fun hz => kf ?_) ht <;> (split at hz <;> (try split at hz) <;> omega)
theorem T.goto {off : Int} (tgt : Nat) (hd : decode M.2.1 pc = .ok (.goto off, 3)) (k : T E d M tgt ls st h Q) (ht : (pc : Int) + off = (tgt : Int) := by decide) : T E d M pc ls st h Q := by
  refine T.pl ?_ k
  intro p e R s m args below meth c hC hf hl H lsA locs cells slots Q hP hS hL hcl hsl hz kk
  obtain ⟨hx, hb, hml, hown, hts, hrt, hlk, hnm, hK, hro, hB, hRS⟩ := hC
  exact lv_goto hx hb hd ht (kk _ hL)
theorem T.tableIn {dflt lo hi : Int} {offs : Array Int} {len : Nat} {x off : Int} (tgt : Nat) (hd : decode M.2.1 pc = .ok (.tableswitch dflt lo hi offs, len)) (hrx : rg x) (h1 : lo ≤ x) (h2 : x ≤ hi) (ho : offs[(x - lo).toNat]? = some off) (k : T E d M tgt ls st h Q) (ht : (pc : Int) + off = (tgt : Int) := by decide) : T E d M pc ls (.int (iI x) :: st) h Q := by
  refine T.pl ?_ k
  intro p e R s m args below meth c hC hf hl H lsA locs cells slots Q hP hS hL hcl hsl hz kk
  obtain ⟨hx, hb, hml, hown, hts, hrt, hlk, hnm, hK, hro, hB, hRS⟩ := hC
  exact lv_tableIn hx hb hd (by rw [iI_toInt hrx]; omega) (by rw [iI_toInt hrx]; omega) (by rw [iI_toInt hrx]; exact ho) ht (kk _ hL)
theorem T.tableOut {dflt lo hi : Int} {offs : Array Int} {len : Nat} {x : Int} (tgt : Nat) (hd : decode M.2.1 pc = .ok (.tableswitch dflt lo hi offs, len)) (hrx : rg x) (h1 : x < lo ∨ hi < x) (k : T E d M tgt ls st h Q) (ht : (pc : Int) + dflt = (tgt : Int) := by decide) : T E d M pc ls (.int (iI x) :: st) h Q := by
  refine T.pl ?_ k
  intro p e R s m args below meth c hC hf hl H lsA locs cells slots Q hP hS hL hcl hsl hz kk
  obtain ⟨hx, hb, hml, hown, hts, hrt, hlk, hnm, hK, hro, hB, hRS⟩ := hC
  exact lv_tableOut hx hb hd (by rw [iI_toInt hrx]; exact h1) ht (kk _ hL)
theorem T.lookup {dflt : Int} {ps : Array (Int × Int)} {len : Nat} {x off : Int} (tgt : Nat) (hd : decode M.2.1 pc = .ok (.lookupswitch dflt ps, len)) (hrx : rg x) (ho : Op.lookupswitch.offset ps.toList dflt x = off) (k : T E d M tgt ls st h Q) (hp : (ps.toList.zip (ps.toList.drop 1)).all (fun (a, next) => a.1 < next.1) = true := by decide) (ht : (pc : Int) + off = (tgt : Int) := by decide) : T E d M pc ls (.int (iI x) :: st) h Q := by
  refine T.pl ?_ k
  intro p e R s m args below meth c hC hf hl H lsA locs cells slots Q hP hS hL hcl hsl hz kk
  obtain ⟨hx, hb, hml, hown, hts, hrt, hlk, hnm, hK, hro, hB, hRS⟩ := hC
  exact lv_lookup hx hb hd hp (by rw [iI_toInt hrx]; exact ho) ht (kk _ hL)
end ROWS
end
section
-- ===== rows over the heap, calls =====
def FO (own : String) (idx ci k : Nat) : Prop := ∃ (C : String) (T0 : u_T) (N : Nat), vwCl[ci]? = some (C, T0, N) ∧ k < N ∧ (∀ w ∈ u_ws C T0 N, w ∈ wA) ∧ Cond.fieldLink own idx (T0 k).1 (T0 k).2.1 (T0 k).2.2.1 ∈ wA
def FP (own : String) (idx ci k : Nat) (ty : FieldType) (fin : Bool) : Prop := ∃ (C : String) (T0 : u_T) (N : Nat) (ty0 : Nat → FieldType), vwCl[ci]? = some (C, T0, N) ∧ k < N ∧ (∀ w ∈ u_ws C T0 N, w ∈ wA) ∧ Cond.fieldLink own idx (T0 k).1 (T0 k).2.1 (T0 k).2.2.1 ∈ wA ∧ (∀ j, j < N → parseFieldDescriptor (T0 j).2.2.1 = some (ty0 j)) ∧ (∀ a, a < N → ∀ b, b < N → a ≠ b → (T0 a).2.1 ≠ (T0 b).2.1) ∧ (T0 k).2.2.2 = fin ∧ parseFieldDescriptor (T0 k).2.2.1 = some ty ∧ (fin = true → (T0 k).1 = own)
/-- a class that can be made: its number, the default values of its fields -/
def NO (own : String) (idx ci : Nat) (fs : List Value) : Prop := ∃ (C : String) (T0 : u_T) (N : Nat) (ty0 : Nat → FieldType), vwCl[ci]? = some (C, T0, N) ∧ (∀ w ∈ u_ws C T0 N, w ∈ wA) ∧ (∀ j, j < N → parseFieldDescriptor (T0 j).2.2.1 = some (ty0 j)) ∧ Cond.classLink own idx C ∈ wA ∧ Cond.instantiable C N ∈ wA ∧ Cond.initialized C ∈ wA ∧ (∀ j, j < N → defaultValue (ty0 j) = vp_V fs j) ∧ fs.length = N
def inH (E : Ev) (h : Hp) (a : Nat) : Prop := E.2.2.1 ≤ a ∧ a < E.2.2.1 + h.1
/-- a store: one cell is another -/
abbrev hst (h : Hp) (a : Nat) (e : va_E) : Hp := (h.1, h.2.1, va_up h.2.2 a e)
/-- a cell more, of n slots -/
abbrev hnw (E : Ev) (h : Hp) (n : Nat) (e : va_E) : Hp := (h.1 + 1, h.2.1 + n, va_up h.2.2 (E.2.2.1 + h.1) e)
section HEAP
variable {E : Ev} {d : Nat} {M : MI} {pc pc' : Nat} {ls ls' : List (Option Value)} {st : List Value} {h h1 : Hp} {Q : Option Value → Hp → Prop} {a : Nat}
theorem Pic.set {H1 : Heap} {e e0 : va_E} {k : Nat} (ha : inH E h a) (he : h.2.2 a = e0) (hk : (va_pl (adl E.2.2.1 h.1) h.2.2)[k]? = some (a, e0)) (h1 : va_P E.2.1 vwCl ((va_pl (adl E.2.2.1 h.1) h.2.2).set k (a, e)) H1) : Pic E (hst h a e) H1 := by
  subst he
  rw [pl_set Pic.D (mem_adl.mpr ha) hk] at h1
  exact h1
theorem Pic.at {H : Heap} {e0 : va_E} (ha : inH E h a) (he : h.2.2 a = e0) : ∃ k : Nat, (va_pl (adl E.2.2.1 h.1) h.2.2)[k]? = some (a, e0) := by
  subst he
  exact pl_get (f := h.2.2) (mem_adl.mpr ha)
theorem T.getf {idx ci k : Nat} {fs : List Value} {v : Value} (hd : decode M.2.1 pc = .ok (.getfield idx, 3)) (hF : FO M.1.cls idx ci k) (ha : inH E h a) (he : h.2.2 a = .inr (ci, fs)) (hv : fs[k]? = some v) (kt : T E d M (pc + 3) ls (v :: st) h Q) : T E d M pc ls (.ref a :: st) h Q := by
  refine T.pl ?_ kt
  intro p e R s m args below meth c hC hf hl H lsA locs cells slots Q hP hS hL hcl hsl hz kk
  obtain ⟨hx, hb, hml, hown, hts, hrt, hlk, hnm, hK, hro, hB, hRS⟩ := hC
  obtain ⟨C, T0, N, f1, f2, f3, f4⟩ := hF
  obtain ⟨q0, hq⟩ := Pic.at (H := H) ha he
  exact va_get hx hb hts f3 hown hK.1 hP q0 hq f1 k f2 (hts _ f4) (fun _ z => z) hv hd (kk _ hL)
theorem T.putf {idx ci k : Nat} {fs : List Value} {v : Value} {ty : FieldType} (hd : decode M.2.1 pc = .ok (.putfield idx, 3)) (hF : FP M.1.cls idx ci k ty false) (ha : inH E h a) (he : h.2.2 a = .inr (ci, fs)) (hn : narrow ty v = v) (hfit : fits ty v = true) (hlen : k < fs.length) (kt : T E d M (pc + 3) ls st (hst h a (.inr (ci, fs.set k v))) Q) : T E d M pc ls (v :: .ref a :: st) h Q := by
  refine T.ph (h1 := hst h a (.inr (ci, fs.set k v))) ⟨Nat.le_refl _, Nat.le_refl _, ?_⟩ kt
  intro p e R s m args below meth c hC hf hl H lsA locs cells slots Q hP hS hL hcl hsl hz kk
  obtain ⟨hx, hb, hml, hown, hts, hrt, hlk, hnm, hK, hro, hB, hRS⟩ := hC
  obtain ⟨C, T0, N, ty0, f1, f2, f3, f4, f5, f6, f7, f8, f9⟩ := hF
  obtain ⟨q0, hq⟩ := Pic.at (H := H) ha he
  simp only [Nat.sub_self, Nat.add_zero] at kk
  exact va_put hx hb hts f3 ty0 f5 f6 hown hK.1 hP Pic.D hS q0 hq f1 k f2 (hts _ f4) (fun _ z => z) f7 f8 hn hfit hlen hd (fun H1 locs1 k1 k2 k3 => kk H1 locs1 _ (Pic.set ha he hq k1) k3 hL)
theorem T.putF {idx ci k : Nat} {fs : List Value} {v : Value} {ty : FieldType} (hd : decode M.2.1 pc = .ok (.putfield idx, 3)) (hF : FP M.1.cls idx ci k ty true) (hi : M.1.name = "<init>") (ha : inH E h a) (he : h.2.2 a = .inr (ci, fs)) (hn : narrow ty v = v) (hfit : fits ty v = true) (hlen : k < fs.length) (kt : T E d M (pc + 3) ls st (hst h a (.inr (ci, fs.set k v))) Q) : T E d M pc ls (v :: .ref a :: st) h Q := by
  refine T.ph (h1 := hst h a (.inr (ci, fs.set k v))) ⟨Nat.le_refl _, Nat.le_refl _, ?_⟩ kt
  intro p e R s m args below meth c hC hf hl H lsA locs cells slots Q hP hS hL hcl hsl hz kk
  obtain ⟨hx, hb, hml, hown, hts, hrt, hlk, hnm, hK, hro, hB, hRS⟩ := hC
  obtain ⟨C, T0, N, ty0, f1, f2, f3, f4, f5, f6, f7, f8, f9⟩ := hF
  obtain ⟨q0, hq⟩ := Pic.at (H := H) ha he
  simp only [Nat.sub_self, Nat.add_zero] at kk
  exact va_putF hx hb hts f3 ty0 f5 f6 hown hK.1 hP Pic.D hS q0 hq f1 k f2 (hts _ f4) (fun _ z => z) f7 (hnm.trans hi) (f9 rfl) f8 hn hfit hlen hd (fun H1 locs1 k1 k2 k3 => kk H1 locs1 _ (Pic.set ha he hq k1) k3 hL)
-- arrays
theorem T.iald {n i : Nat} {f : Nat → Int32} {x : Int} (hd : decode M.2.1 pc = .ok (.iaload, 1)) (ha : inH E h a) (he : h.2.2 a = .inl (E.2.2.2.1 0, n, .inl f)) (hi : x = i) (hN : i < n) (hn : n < 2147483648) (kt : T E d M (pc + 1) ls (.int (f i) :: st) h Q) : T E d M pc ls (.int (iI x) :: .ref a :: st) h Q := by
  refine T.pl ?_ kt
  intro p e R s m args below meth c hC hf hl H lsA locs cells slots Q hP hS hL hcl hsl hz kk
  obtain ⟨hx, hb, hml, hown, hts, hrt, hlk, hnm, hK, hro, hB, hRS⟩ := hC
  obtain ⟨q0, hq⟩ := Pic.at (H := H) ha he
  refine va_iald hx hb hK.1 hP q0 0 hq rfl (iI_in hi hN hn) hd ?_
  rw [iI_clamp hi (by omega)]
  exact kk _ hL
theorem T.lald {n i : Nat} {f : Nat → Int64} {x : Int} (hd : decode M.2.1 pc = .ok (.laload, 1)) (ha : inH E h a) (he : h.2.2 a = .inl (E.2.2.2.1 1, n, .inr (.inl f))) (hi : x = i) (hN : i < n) (hn : n < 2147483648) (kt : T E d M (pc + 1) ls (.long (f i) :: st) h Q) : T E d M pc ls (.int (iI x) :: .ref a :: st) h Q := by
  refine T.pl ?_ kt
  intro p e R s m args below meth c hC hf hl H lsA locs cells slots Q hP hS hL hcl hsl hz kk
  obtain ⟨hx, hb, hml, hown, hts, hrt, hlk, hnm, hK, hro, hB, hRS⟩ := hC
  obtain ⟨q0, hq⟩ := Pic.at (H := H) ha he
  refine va_lald hx hb hK.1 hP q0 1 hq rfl (iI_in hi hN hn) hd ?_
  rw [iI_clamp hi (by omega)]
  exact kk _ hL
theorem T.zald {n i : Nat} {f : Nat → Int32} {x : Int} (hd : decode M.2.1 pc = .ok (.baload, 1)) (ha : inH E h a) (he : h.2.2 a = .inl (E.2.2.2.1 2, n, .inl f)) (hi : x = i) (hN : i < n) (hn : n < 2147483648) (kt : T E d M (pc + 1) ls (.int (f i) :: st) h Q) : T E d M pc ls (.int (iI x) :: .ref a :: st) h Q := by
  refine T.pl ?_ kt
  intro p e R s m args below meth c hC hf hl H lsA locs cells slots Q hP hS hL hcl hsl hz kk
  obtain ⟨hx, hb, hml, hown, hts, hrt, hlk, hnm, hK, hro, hB, hRS⟩ := hC
  obtain ⟨q0, hq⟩ := Pic.at (H := H) ha he
  refine va_zald hx hb hK.1 hP q0 2 hq rfl (iI_in hi hN hn) hd ?_
  rw [iI_clamp hi (by omega)]
  exact kk _ hL
theorem T.aald {n i t0 : Nat} {C : String} {f : Nat → Option Nat} {x : Int} (hd : decode M.2.1 pc = .ok (.aaload, 1)) (ha : inH E h a) (he : h.2.2 a = .inl (E.2.2.2.1 t0, n, .inr (.inr (.inr (.inr f))))) (ht : (tyL E.2.2.2.1)[t0]? = some (E.2.2.2.1 t0, .object C)) (hi : x = i) (hN : i < n) (hn : n < 2147483648) (kt : T E d M (pc + 1) ls (va_rf (f i) :: st) h Q) : T E d M pc ls (.int (iI x) :: .ref a :: st) h Q := by
  refine T.pl ?_ kt
  intro p e R s m args below meth c hC hf hl H lsA locs cells slots Q hP hS hL hcl hsl hz kk
  obtain ⟨hx, hb, hml, hown, hts, hrt, hlk, hnm, hK, hro, hB, hRS⟩ := hC
  obtain ⟨q0, hq⟩ := Pic.at (H := H) ha he
  refine va_aldq hx hb hK.1 hP q0 t0 hq ht (iI_in hi hN hn) hd ?_
  rw [iI_clamp hi (by omega)]
  exact kk _ hL
theorem T.alen {n t0 : Nat} {ty : FieldType} {c0 : (Nat → Int32) ⊕ (Nat → Int64) ⊕ (Nat → UInt32) ⊕ (Nat → UInt64) ⊕ (Nat → Option Nat)} (hd : decode M.2.1 pc = .ok (.arraylength, 1)) (ha : inH E h a) (he : h.2.2 a = .inl (E.2.2.2.1 t0, n, c0)) (ht : (tyL E.2.2.2.1)[t0]? = some (E.2.2.2.1 t0, ty)) (kt : T E d M (pc + 1) ls (.int (iI n) :: st) h Q) : T E d M pc ls (.ref a :: st) h Q := by
  refine T.pl ?_ kt
  intro p e R s m args below meth c hC hf hl H lsA locs cells slots Q hP hS hL hcl hsl hz kk
  obtain ⟨hx, hb, hml, hown, hts, hrt, hlk, hnm, hK, hro, hB, hRS⟩ := hC
  obtain ⟨q0, hq⟩ := Pic.at (H := H) ha he
  exact va_alen hx hb hK.1 hP q0 t0 hq ht (v := iI n) (by unfold iI; exact (Int32.ofInt_eq_ofNat (n := n)).symm) hd (kk _ hL)
theorem T.iast {n i : Nat} {f : Nat → Int32} {x : Int} {v : Int32} (hd : decode M.2.1 pc = .ok (.iastore, 1)) (ha : inH E h a) (he : h.2.2 a = .inl (E.2.2.2.1 0, n, .inl f)) (hi : x = i) (hN : i < n) (hn : n < 2147483648) (kt : T E d M (pc + 1) ls st (hst h a (.inl (E.2.2.2.1 0, n, .inl (upd f i v)))) Q) : T E d M pc ls (.int v :: .int (iI x) :: .ref a :: st) h Q := by
  refine T.ph (h1 := hst h a (.inl (E.2.2.2.1 0, n, .inl (upd f i v)))) ⟨Nat.le_refl _, Nat.le_refl _, ?_⟩ kt
  intro p e R s m args below meth c hC hf hl H lsA locs cells slots Q hP hS hL hcl hsl hz kk
  obtain ⟨hx, hb, hml, hown, hts, hrt, hlk, hnm, hK, hro, hB, hRS⟩ := hC
  obtain ⟨q0, hq⟩ := Pic.at (H := H) ha he
  simp only [Nat.sub_self, Nat.add_zero] at kk
  refine va_iast hx hb hK.1 hP Pic.D hS q0 0 hq rfl (iI_in hi hN hn) hd (fun H1 locs1 k1 k2 k3 => ?_)
  rw [iI_clamp hi (by omega)] at k1
  exact kk H1 locs1 _ (Pic.set ha he hq k1) k3 hL
theorem T.last {n i : Nat} {f : Nat → Int64} {x : Int} {v : Int64} (hd : decode M.2.1 pc = .ok (.lastore, 1)) (ha : inH E h a) (he : h.2.2 a = .inl (E.2.2.2.1 1, n, .inr (.inl f))) (hi : x = i) (hN : i < n) (hn : n < 2147483648) (kt : T E d M (pc + 1) ls st (hst h a (.inl (E.2.2.2.1 1, n, .inr (.inl (vp_updL f i v))))) Q) : T E d M pc ls (.long v :: .int (iI x) :: .ref a :: st) h Q := by
  refine T.ph (h1 := hst h a (.inl (E.2.2.2.1 1, n, .inr (.inl (vp_updL f i v))))) ⟨Nat.le_refl _, Nat.le_refl _, ?_⟩ kt
  intro p e R s m args below meth c hC hf hl H lsA locs cells slots Q hP hS hL hcl hsl hz kk
  obtain ⟨hx, hb, hml, hown, hts, hrt, hlk, hnm, hK, hro, hB, hRS⟩ := hC
  obtain ⟨q0, hq⟩ := Pic.at (H := H) ha he
  simp only [Nat.sub_self, Nat.add_zero] at kk
  refine va_last hx hb hK.1 hP Pic.D hS q0 1 hq rfl (iI_in hi hN hn) hd (fun H1 locs1 k1 k2 k3 => ?_)
  rw [iI_clamp hi (by omega)] at k1
  exact kk H1 locs1 _ (Pic.set ha he hq k1) k3 hL
theorem T.zast {n i : Nat} {f : Nat → Int32} {x y : Int} (hd : decode M.2.1 pc = .ok (.bastore, 1)) (ha : inH E h a) (he : h.2.2 a = .inl (E.2.2.2.1 2, n, .inl f)) (hi : x = i) (hN : i < n) (hn : n < 2147483648) (hy : y = 0 ∨ y = 1) (kt : T E d M (pc + 1) ls st (hst h a (.inl (E.2.2.2.1 2, n, .inl (upd f i (iI y))))) Q) : T E d M pc ls (.int (iI y) :: .int (iI x) :: .ref a :: st) h Q := by
  refine T.ph (h1 := hst h a (.inl (E.2.2.2.1 2, n, .inl (upd f i (iI y))))) ⟨Nat.le_refl _, Nat.le_refl _, ?_⟩ kt
  intro p e R s m args below meth c hC hf hl H lsA locs cells slots Q hP hS hL hcl hsl hz kk
  obtain ⟨hx, hb, hml, hown, hts, hrt, hlk, hnm, hK, hro, hB, hRS⟩ := hC
  obtain ⟨q0, hq⟩ := Pic.at (H := H) ha he
  simp only [Nat.sub_self, Nat.add_zero] at kk
  refine va_zast hx hb hK.1 hP Pic.D hS q0 2 hq rfl (iI_in hi hN hn) hd (fun H1 locs1 k1 k2 k3 => ?_)
  rw [iI_clamp hi (by omega), npZ hy] at k1
  exact kk H1 locs1 _ (Pic.set ha he hq k1) k3 hL
theorem T.aast {n i t0 ci b : Nat} {q : vw_C} {vs : List Value} {f : Nat → Option Nat} {x : Int} (hd : decode M.2.1 pc = .ok (.aastore, 1)) (ha : inH E h a) (he : h.2.2 a = .inl (E.2.2.2.1 t0, n, .inr (.inr (.inr (.inr f))))) (ht : (tyL E.2.2.2.1)[t0]? = some (E.2.2.2.1 t0, .object q.1)) (hb0 : inH E h b) (hbe : h.2.2 b = .inr (ci, vs)) (hci : vwCl[ci]? = some q) (hi : x = i) (hN : i < n) (hn : n < 2147483648) (kt : T E d M (pc + 1) ls st (hst h a (.inl (E.2.2.2.1 t0, n, .inr (.inr (.inr (.inr (va_up f i (some b)))))))) Q) : T E d M pc ls (.ref b :: .int (iI x) :: .ref a :: st) h Q := by
  refine T.ph (h1 := hst h a (.inl (E.2.2.2.1 t0, n, .inr (.inr (.inr (.inr (va_up f i (some b)))))))) ⟨Nat.le_refl _, Nat.le_refl _, ?_⟩ kt
  intro p e R s m args below meth c hC hf hl H lsA locs cells slots Q hP hS hL hcl hsl hz kk
  obtain ⟨hx, hb, hml, hown, hts, hrt, hlk, hnm, hK, hro, hB, hRS⟩ := hC
  obtain ⟨q0, hq⟩ := Pic.at (H := H) ha he
  obtain ⟨q1, hq1⟩ := Pic.at (H := H) hb0 hbe
  simp only [Nat.sub_self, Nat.add_zero] at kk
  refine va_astq hx hb hK.1 hP Pic.D hS q0 t0 q1 ci hq ht hq1 hci (iI_in hi hN hn) hd (fun H1 locs1 k1 k2 k3 => ?_)
  rw [iI_clamp hi (by omega)] at k1
  exact kk H1 locs1 _ (Pic.set ha he hq k1) k3 hL
-- makings
theorem Pic.push {H H1 : Heap} {e : va_E} (n : Nat) (hP : Pic E h H) (hz : H.size = E.2.2.1 + h.1) (o1 : ∀ q : Nat, q < H.size → H1[q]? = H[q]?) (hE : va_at E.2.1 vwCl (E.2.2.1 + h.1, e) H1) : Pic E (hnw E h n e) H1 := by
  show va_P E.2.1 vwCl (va_pl (adl E.2.2.1 (h.1 + 1)) (va_up h.2.2 (E.2.2.1 + h.1) e)) H1
  rw [adl_succ, ← va_pl_push (fun z => by have := (mem_adl.mp z).2; omega)]
  refine va_P.app (va_P.kept hP (fun k q hk => o1 q.1 ((hP k q hk).lt))) ?_
  intro k q hk
  have h0 : k < 1 := (List.getElem?_eq_some_iff.mp hk).1
  rw [show k = 0 by omega] at hk
  cases hk
  exact hE
theorem va_S.more {A : Nat → Prop} {H0 H H1 : Heap} {locs : List Loc} (hS : va_S A H0 H locs) (hz : H.size ≤ H1.size) (o1 : ∀ q : Nat, q < H.size → H1[q]? = H[q]?) : va_S A H0 H1 locs := ⟨Nat.le_trans hS.1 hz, fun x h1 h2 => (o1 x (Nat.lt_of_lt_of_le h1 hS.1)).trans (hS.2.1 x h1 h2), hS.2.2⟩
theorem T.new {idx ci : Nat} {fs : List Value} (hd : decode M.2.1 pc = .ok (.new idx, 3)) (hN : NO M.1.cls idx ci fs) (kt : T E d M (pc + 3) ls (.ref (E.2.2.1 + h.1) :: st) (hnw E h fs.length (.inr (ci, fs))) Q) : T E d M pc ls st h Q := by
  refine T.ph (h1 := hnw E h fs.length (.inr (ci, fs))) ⟨Nat.le_succ _, Nat.le_add_right _ _, ?_⟩ kt
  intro p e R s m args below meth c hC hf hl H lsA locs cells slots Q hP hS hL hcl hsl hz kk
  obtain ⟨hx, hb, hml, hown, hts, hrt, hlk, hnm, hK, hro, hB, hRS⟩ := hC
  obtain ⟨C, T0, N, ty0, f1, f2, f3, f4, f5, f6, f7, f8⟩ := hN
  refine W.sz (fun hsz => ?_)
  have hz2 := hP.ge hB hS
  have hz1 : H.size = E.2.2.1 + h.1 := by omega
  have hKn := hK.1.1 ci _ f1
  have a1 : h.1 + 1 - h.1 = 1 := by omega
  have a2 : h.2.1 + fs.length - h.2.1 = N := by omega
  simp only [a1, a2] at kk hcl hsl
  refine W.newcK hx hb hown (hts _ f4) (hts _ f5) (hts _ f6) rfl hd hcl hsl hKn.2.1 hz1 fun H1 kC hkC e1 z1 o1 => ?_
  refine kk H1 locs lsA (Pic.push _ hP hz1 (fun q hq => o1 q (by omega)) ?_) (hS.more (by omega) (fun q hq => o1 q (by omega))) hL
  exact ⟨_, f1, (u_born ty0 hts f2 hKn hkC e1 f3).to f7⟩
theorem T.newa {atype : ArrayType} {n t0 : Nat} {x : Int} {a0 : vp_A} (hd : decode M.2.1 pc = .ok (.newarray atype, 2)) (hw : Cond.arrayClass (newarray.typeOf atype) ∈ wA) (ht : (tyL E.2.2.2.1)[t0]? = some (E.2.2.2.1 t0, newarray.typeOf atype)) (h0 : ∀ cA : ClassId, vp_cell cA a0 = arrV cA n (fun _ => defaultValue (newarray.typeOf atype))) (hi : x = n) (hn : n < 2147483648) (hby : n * componentBytes (newarray.typeOf atype) ≤ 536870912) (hpr : ∀ cA : ClassId, ∀ U : State, va_RA U cA (newarray.typeOf atype) → U.vm.findClass ("[" ++ (newarray.typeOf atype).toString) = some cA) (kt : T E d M (pc + 2) ls (.ref (E.2.2.1 + h.1) :: st) (hnw E h n (.inl (E.2.2.2.1 t0, a0))) Q) : T E d M pc ls (.int (iI x) :: st) h Q := by
  refine T.ph (h1 := hnw E h n (.inl (E.2.2.2.1 t0, a0))) ⟨Nat.le_succ _, Nat.le_add_right _ _, ?_⟩ kt
  intro p e R s m args below meth c hC hf hl H lsA locs cells slots Q hP hS hL hcl hsl hz kk
  obtain ⟨hx, hb, hml, hown, hts, hrt, hlk, hnm, hK, hro, hB, hRS⟩ := hC
  refine W.sz (fun hsz => ?_)
  have hz2 := hP.ge hB hS
  have hz1 : H.size = E.2.2.1 + h.1 := by omega
  have a1 : h.1 + 1 - h.1 = 1 := by omega
  have a2 : h.2.1 + n - h.2.1 = n := by omega
  simp only [a1, a2] at kk hcl hsl
  have hc0 : ¬ iI x < 0 := by
    rw [show (0 : Int32) = iI 0 from rfl, iI_lt (by unfold rg; omega) (by unfold rg; omega)]; omega
  refine va_newaK hx hb (hts _ hw) rfl hd rfl hc0 (iI_clamp hi (by omega)) hby hcl hsl hz1 fun H1 cA e1 z1 o1 hAr hNm => ?_
  have hcA : cA = E.2.2.2.1 t0 := Option.some.inj (hNm.symm.trans (hpr _ _ (hK.1.2 t0 _ ht).2))
  subst hcA
  refine kk H1 locs lsA (Pic.push _ hP hz1 (fun q hq => o1 q (by omega)) ?_) (hS.more (by omega) (fun q hq => o1 q (by omega))) hL
  show H1[_]? = some (vp_cell _ _)
  rw [h0]
  exact e1
theorem T.anew {idx n t0 : Nat} {x : Int} {C : String} (hd : decode M.2.1 pc = .ok (.anewarray idx, 3)) (hw : Cond.classLink M.1.cls idx C ∈ wA) (hao : C ∈ aoL) (ht : (tyL E.2.2.2.1)[t0]? = some (E.2.2.2.1 t0, .object C)) (hi : x = n) (hn : n < 100000000) (kt : T E d M (pc + 3) ls (.ref (E.2.2.1 + h.1) :: st) (hnw E h n (.inl (E.2.2.2.1 t0, n, .inr (.inr (.inr (.inr (fun _ => none))))))) Q) : T E d M pc ls (.int (iI x) :: st) h Q := by
  refine T.ph (h1 := hnw E h n (.inl (E.2.2.2.1 t0, n, .inr (.inr (.inr (.inr (fun _ => none))))))) ⟨Nat.le_succ _, Nat.le_add_right _ _, ?_⟩ kt
  intro p e R s m args below meth c hC hf hl H lsA locs cells slots Q hP hS hL hcl hsl hz kk
  obtain ⟨hx, hb, hml, hown, hts, hrt, hlk, hnm, hK, hro, hB, hRS⟩ := hC
  refine W.sz (fun hsz => ?_)
  have hz2 := hP.ge hB hS
  have hz1 : H.size = E.2.2.1 + h.1 := by omega
  have a1 : h.1 + 1 - h.1 = 1 := by omega
  have a2 : h.2.1 + n - h.2.1 = n := by omega
  simp only [a1, a2] at kk hcl hsl
  have hc0 : ¬ iI x < 0 := by
    rw [show (0 : Int32) = iI 0 from rfl, iI_lt (by unfold rg; omega) (by unfold rg; omega)]; omega
  have hcn := iI_clamp hi (by omega)
  refine W.anew hx hb hown (hts _ hw) (va_AO.use (hK.2.2 C hao)) rfl hd rfl hc0 (by rw [hcn]; omega) hcl (by rw [hcn]; exact hsl) fun cA kA comp f1 f2 f3 f4 => ?_
  obtain ⟨kA2, comp2, g1, g2, g3, g4⟩ := (hK.1.2 t0 _ ht).2
  have hcA : cA = E.2.2.2.1 t0 := Option.some.inj (f1.symm.trans g4)
  subst hcA
  rw [hcn]
  generalize hH1 : H.push ({ cls := E.2.2.2.1 t0, slots := Array.replicate n .null, vm := .none } : Cell) = H1
  have z1 : H1.size = H.size + 1 := by rw [← hH1, Array.size_push]
  have e1 : H1[H.size]? = some (arrV (E.2.2.2.1 t0) n (fun _ => .null)) := by rw [← hH1, Array.getElem?_push_size, ← arrV_new]
  have o1 : ∀ q : Nat, q < H.size → H1[q]? = H[q]? := fun q hq => by rw [← hH1, Array.getElem?_push, if_neg (Nat.ne_of_lt hq)]
  rw [hz1]
  refine kk H1 locs lsA (Pic.push _ hP hz1 o1 ?_) (hS.more (by omega) o1) hL
  show H1[E.2.2.1 + h.1]? = some (vp_cell _ _)
  rw [← hz1, e1, vp_cell_q]
  rfl
end HEAP
end
section
-- ===== calls =====
def LKS (own : String) (idx : Nat) (N : MI) (n : Nat) : Prop := MOK N n ∧ Cond.methodLink own idx N.1 ∈ wA ∧ Cond.static N.1 ∈ wA
def LKV (own : String) (idx : Nat) (N : MI) (n : Nat) : Prop := MOK N n ∧ Cond.methodLink own idx N.1 ∈ wA ∧ Cond.instanceMethod N.1 ∈ wA ∧ Cond.selects N.1.cls N.1 N.1 ∈ wA
def LKI (own : String) (idx : Nat) (N : MI) (n : Nat) : Prop := MOK N n ∧ Cond.methodLink own idx N.1 ∈ wA ∧ Cond.instanceMethod N.1 ∈ wA ∧ N.1.name = "<init>" ∧ N.2.2.2 = none
def LKN (own : String) (idx : Nat) (N : MI) (n : Nat) : Prop := MOK N n ∧ (∃ host, (own, idx, N.1, host) ∈ nwL) ∧ Cond.instanceMethod N.1 ∈ wA ∧ N.1.name = "<init>" ∧ N.2.2.2 = none
section CALLS
variable {E : Ev} {d dc : Nat} {M N : MI} {pc pc' : Nat} {ls ls' : List (Option Value)} {st st0 : List Value} {h h1 : Hp} {Q : Option Value → Hp → Prop} {a n idx : Nat} {r : Option Value} {As : List Value}
theorem wM_good {args : Array Value} {s : State} (hN : MOK N n) (hts : ∀ w ∈ wA, w.before args s = true) : GoodIn wA (wM N) := by
  intro w hw
  rcases List.mem_cons.mp hw with rfl | hw
  · exact ⟨hN.1, wA_good hN.1⟩
  · exact ⟨hw, wA_good hw⟩
/-- behind a call -/
theorem call_go {p : Program} {e : Env} {R : Room} {s : State} {m : MethodId} {args : Array Value} {below : List Frame} {meth : Method} {c : Code} {H : Heap} {lsA : Array Slot} {locs : List Loc} {cells slots mc ms : Nat} {QW : State → Prop} {av : Array Value}
    (hr : va_Run p E.1 e R s m args below meth c H locs cells slots mc ms (F0 m pc lsA st0) st (QR E r h1 av) (Aa E)) (hS : va_S (Aa E) s.heap H locs)
    (kk : ∀ (H1 : Heap) (locs1 : List Loc), Pic E h1 H1 → va_S (Aa E) s.heap H1 locs1 → W p E.1 e R s m args below meth c H1 locs1 (cells + mc) (slots + ms) QW (F0 m (pc + 3) lsA (r.toList ++ st))) : W p E.1 e R s m args below meth c H locs cells slots QW (F0 m pc lsA st0) := by
  intro T hT X
  obtain ⟨v, st₀, t, T', L, h0, X', hL, e1, e2, ⟨hv, hp, hz, hk⟩, step⟩ := hr T hT X
  have hv : v = r := by injection hv
  subst hv
  rw [h0] at hz hk
  obtain ⟨t2, a1, b1⟩ := kk T'.heap (locs ++ L) (by rw [e1]; exact hp) ⟨Nat.le_trans hS.1 (by rw [e1]; exact hz), fun q h1 h2 => by rw [e1, hk q (Nat.lt_of_lt_of_le h1 hS.1) h2]; exact hS.2.1 q h1 h2, fun q hq => by
      rcases List.mem_append.mp hq with h | h
      · exact hS.2.2 q h
      · exact hL q h⟩ T' rfl X'
  exact ⟨t2, step t2 a1, b1⟩
theorem preS_of {s : State} {H : Heap} {args : Array Value} {locs : List Loc} (hP : Pic E h H) (hK : KK E s) (hro : E.2.2.2.2 s) (hRS : roS E) (hB : E.2.2.1 ≤ s.heap.size) (hS : va_S (Aa E) s.heap H locs) (hz : H.size = E.2.2.1 + h.1) : PreS s H (va_Pc As (fun U => U.heap.size = E.2.2.1 + h.1 ∧ Pic E h U.heap ∧ KK E U ∧ E.2.2.2.2 U)) As := by
  refine ⟨fun a U g mk q => ?_, fun U hU hW => ⟨rfl, by rw [hU]; exact hz, by rw [hU]; exact hP, hK.warm hW, hRS s U hro hW (fun q hq => ?_)⟩⟩
  · obtain ⟨q0, q1, q2, q3, q4⟩ := q
    exact ⟨q0, q1, q2, KK.warm (s := U) (U := U.calling g mk a) (State.WarmedH.refl U) q3, hRS U _ q4 (State.WarmedH.refl U) (fun _ _ => rfl)⟩
  · rw [hU]
    exact hS.2.1 q (by omega) (by unfold Aa; omega)
theorem T.callS (hd : decode M.2.1 pc = .ok (.invokestatic idx, 3)) (hk : LKS M.1.cls idx N n) (hct : CT E dc N As h r h1) (hdc : dc + 1 ≤ d) (hn : As.length = n) (hst : st0 = As.reverse ++ st) (hrm : (st.map fun v => v.category).sum ≤ 8) (kt : T E d M (pc + 3) ls (r.toList ++ st) h1 Q) : T E d M pc ls st0 h Q := by
  refine T.ph (h1 := h1) ⟨hct.1, hct.2.1, ?_⟩ kt
  intro p e R s m args below meth c hC hf hl H lsA locs cells slots QW hP hS hL hcl hsl hz kk
  obtain ⟨hx, hb, hml, hown, hts, hrt, hlk, hnm, hK, hro, hB, hRS⟩ := hC
  obtain ⟨hN, k1, k2⟩ := hk
  refine W.sz (fun hsz => ?_)
  have hz2 := hP.ge hB hS
  have hz1 : H.size = E.2.2.1 + h.1 := by omega
  have hmx := hN.2.2.2.2
  refine call_go (va_runS (As := As) (rest := st) (Ts := wA) ⟨hx, hb, hml, hown, hts⟩ (hct.2.2 hRS) ⟨callB_of (Ts := wA) n hts (wM_good hN hts) rfl rfl rfl (hts _ hN.2.1) (hts _ k1) hN.2.2.1 ⟨by show dc + 1 ≤ R.frames; omega, by show 8 + (N.2.2.1 + 11) + 100 * dc ≤ R.locals; omega⟩, hts _ k2⟩ (preS_of (args := args) hP hK hro hRS hB hS hz1) rfl hn hL.1 hst (lv_room hrm) hd ⟨hcl, hsl⟩) hS (fun H1 locs1 hP1 hS1 => kk H1 locs1 lsA hP1 hS1 hL)
theorem T.callI {b : Nat} (hd : decode M.2.1 pc = .ok (.invokespecial idx, 3)) (hk : LKI M.1.cls idx N n) (hct : CT E dc N (.ref b :: As) h none h1) (hdc : dc + 1 ≤ d) (hn : As.length = n) (hst : st0 = As.reverse ++ .ref b :: st) (hrm : (st.map fun v => v.category).sum ≤ 8) (kt : T E d M (pc + 3) ls st h1 Q) : T E d M pc ls st0 h Q := by
  refine T.ph (h1 := h1) ⟨hct.1, hct.2.1, ?_⟩ kt
  intro p e R s m args below meth c hC hf hl H lsA locs cells slots QW hP hS hL hcl hsl hz kk
  obtain ⟨hx, hb, hml, hown, hts, hrt, hlk, hnm, hK, hro, hB, hRS⟩ := hC
  obtain ⟨hN, k1, k2, k3, k4⟩ := hk
  refine W.sz (fun hsz => ?_)
  have hz2 := hP.ge hB hS
  have hz1 : H.size = E.2.2.1 + h.1 := by omega
  have hmx := hN.2.2.2.2
  have hw0 : wM N = Cond.code N.1 N.2.1 N.2.2.1 none :: wA := by unfold wM; rw [k4]
  refine call_go (r := none) (va_runI (As := As) (rest := st) (Ts := wA) ⟨hx, hb, hml, hown, hts⟩ (hct.2.2 hRS) ⟨callB_of (Ts := wA) n hts (wM_good hN hts) hw0 rfl rfl (hts _ hN.2.1) (hts _ k1) hN.2.2.1 ⟨by show dc + 1 ≤ R.frames; omega, by show 8 + (N.2.2.1 + 11) + 100 * dc ≤ R.locals; omega⟩, k3, hts _ k2⟩ (preS_of (args := args) hP hK hro hRS hB hS hz1) rfl hn hL.1 hst (lv_room hrm) hd ⟨hcl, hsl⟩) hS (fun H1 locs1 hP1 hS1 => kk H1 locs1 lsA hP1 hS1 hL)
theorem T.callN {b : Nat} (hd : decode M.2.1 pc = .ok (.invokespecial idx, 3)) (hk : LKN M.1.cls idx N n) (hct : CT E dc N (.ref b :: As) h none h1) (hdc : dc + 1 ≤ d) (hn : As.length = n) (hst : st0 = As.reverse ++ .ref b :: st) (hrm : (st.map fun v => v.category).sum ≤ 8) (kt : T E d M (pc + 3) ls st h1 Q) : T E d M pc ls st0 h Q := by
  refine T.ph (h1 := h1) ⟨hct.1, hct.2.1, ?_⟩ kt
  intro p e R s m args below meth c hC hf hl H lsA locs cells slots QW hP hS hL hcl hsl hz kk
  obtain ⟨hx, hb, hml, hown, hts, hrt, hlk, hnm, hK, hro, hB, hRS⟩ := hC
  obtain ⟨hN, ⟨host, k1⟩, k2, k3, k4⟩ := hk
  refine W.sz (fun hsz => ?_)
  have hz2 := hP.ge hB hS
  have hz1 : H.size = E.2.2.1 + h.1 := by omega
  have hmx := hN.2.2.2.2
  have hw0 : wM N = Cond.code N.1 N.2.1 N.2.2.1 none :: wA := by unfold wM; rw [k4]
  refine call_go (r := none) (va_runIN (As := As) (rest := st) (Ts := wA) ⟨hx, hb, hml, hown, hts⟩ (hct.2.2 hRS) ⟨va_cnB (Ts := wA) n hts (wM_good hN hts) hw0 rfl rfl (hK.2.1 _ k1) (hts _ hN.2.1) hN.2.2.1 ⟨by show dc + 1 ≤ R.frames; omega, by show 8 + (N.2.2.1 + 11) + 100 * dc ≤ R.locals; omega⟩, k3, hts _ k2⟩ (preS_of (args := args) hP hK hro hRS hB hS hz1) rfl hn hL.1 hst (lv_room hrm) hd ⟨hcl, hsl⟩) hS (fun H1 locs1 hP1 hS1 => kk H1 locs1 lsA hP1 hS1 hL)
theorem T.callV {b ci k0 : Nat} {T0 : u_T} {fs : List Value} (hd : decode M.2.1 pc = .ok (.invokevirtual idx, 3)) (hk : LKV M.1.cls idx N n) (hct : CT E dc N (.ref b :: As) h r h1) (hb0 : inH E h b) (hbe : h.2.2 b = .inr (ci, fs)) (hci : vwCl[ci]? = some (N.1.cls, T0, k0)) (hdc : dc + 1 ≤ d) (hn : As.length = n) (hst : st0 = As.reverse ++ .ref b :: st) (hrm : (st.map fun v => v.category).sum ≤ 8) (kt : T E d M (pc + 3) ls (r.toList ++ st) h1 Q) : T E d M pc ls st0 h Q := by
  refine T.ph (h1 := h1) ⟨hct.1, hct.2.1, ?_⟩ kt
  intro p e R s m args below meth c hC hf hl H lsA locs cells slots QW hP hS hL hcl hsl hz kk
  obtain ⟨hx, hb, hml, hown, hts, hrt, hlk, hnm, hK, hro, hB, hRS⟩ := hC
  obtain ⟨hN, k1, k2, k3⟩ := hk
  refine W.sz (fun hsz => ?_)
  have hz2 := hP.ge hB hS
  have hz1 : H.size = E.2.2.1 + h.1 := by omega
  have hmx := hN.2.2.2.2
  obtain ⟨q0, hq⟩ := Pic.at (H := H) hb0 hbe
  have hp := preS_of (As := .ref b :: As) (args := args) hP hK hro hRS hB hS hz1
  refine call_go (va_runV (As := As) (rest := st) (Ts := wA) (C := N.1.cls) ⟨hx, hb, hml, hown, hts⟩ (hct.2.2 hRS) ⟨callB_of (Ts := wA) n hts (wM_good hN hts) rfl rfl rfl (hts _ hN.2.1) (hts _ k1) hN.2.2.1 ⟨by show dc + 1 ≤ R.frames; omega, by show 8 + (N.2.2.1 + 11) + 100 * dc ≤ R.locals; omega⟩, hts _ k2, hts _ k3⟩ ⟨hp.1, va_recv hK.1 hP hci hq, hp.2⟩ rfl hn hL.1 hst (lv_room hrm) hd ⟨hcl, hsl⟩) hS (fun H1 locs1 hP1 hS1 => kk H1 locs1 lsA hP1 hS1 hL)
theorem T.objI {b : Nat} (hd : decode M.2.1 pc = .ok (.invokespecial idx, 3)) (k1 : Cond.methodLink M.1.cls idx Lib.objectInit ∈ wA) (k2 : Cond.instanceMethod Lib.objectInit ∈ wA) (k3 : Cond.code Lib.objectInit ⟨#[0xb1]⟩ 1 none ∈ wA) (hdc : 1 ≤ d) (hrm : (st.map fun v => v.category).sum ≤ 8) (kt : T E d M (pc + 3) ls st h Q) : T E d M pc ls (.ref b :: st) h Q := by
  refine T.pl ?_ kt
  intro p e R s m args below meth c hC hf hl H lsA locs cells slots Q hP hS hL hcl hsl hz kk
  obtain ⟨hx, hb, hml, hown, hts, hrt, hlk, hnm, hK, hro, hB, hRS⟩ := hC
  have hr8 := lv_room (m := m) (pc := pc) (ls := lsA) (rest := .ref b :: st) hrm
  exact W.objInit hx hb hown (hts _ k1) (hts _ k2) (hts _ k3) (g := F0 m pc lsA (.ref b :: st)) rfl (hL.1.trans hml.symm) rfl hd (by omega) (by omega) (kk _ hL)
/-- a contract in the judgement's words -/
def TC (E : Ev) (d : Nat) (N : MI) (as : List Value) (h : Hp) (Q : Option Value → Hp → Prop) : Prop := ∃ r h', CT E d N as h r h' ∧ Q r h'
theorem TC.of {as : List Value} (hM : MOK N n) (hn : (lg_sl as).length ≤ N.2.2.1) (j : T E d N 0 (en N.2.2.1 as) [] h Q) : TC E d N as h Q := by
  obtain ⟨r, h', j, q⟩ := j
  exact ⟨r, h', CT.of hM hn j, q⟩
theorem TC.ct {as : List Value} (j : TC E d N as h (fun r' h' => r' = r ∧ h' = h1)) : CT E d N as h r h1 := by
  obtain ⟨r', h', j, rfl, rfl⟩ := j
  exact j
end CALLS
end
section
-- ===== System.arraycopy =====
def LKC (own : String) (idx : Nat) : Prop := Cond.methodLink own idx arraycopyName ∈ wA ∧ Cond.native arraycopyName ∈ wA ∧ Cond.static arraycopyName ∈ wA ∧ Cond.initialized "java/lang/System" ∈ wA
section COPY
variable {E : Ev} {d : Nat} {M : MI} {pc : Nat} {ls : List (Option Value)} {st : List Value} {h : Hp} {Q : Option Value → Hp → Prop} {a a0 idx : Nat}
theorem iI_nneg {x : Int} {i : Nat} (h : x = i) (hi : i < 2147483648) : ¬ iI x < 0 := by
  rw [show (0 : Int32) = iI 0 from rfl, iI_lt (by unfold rg; omega) (by unfold rg; omega)]; omega
theorem T.copyi {n0 n1 n sp dp : Nat} {xs xd xn : Int} {f g : Nat → Int32} (hd : decode M.2.1 pc = .ok (.invokestatic idx, 3)) (hk : LKC M.1.cls idx) (ha : inH E h a) (he : h.2.2 a = .inl (E.2.2.2.1 0, n1, .inl g)) (ha0 : inH E h a0) (he0 : h.2.2 a0 = .inl (E.2.2.2.1 0, n0, .inl f)) (hs : xs = sp) (hdp : xd = dp) (hn : xn = n) (h4 : sp + n ≤ n0) (h5 : dp + n ≤ n1) (hn0 : n0 < 1000000) (hn1 : n1 < 1000000) (hdd : 1 ≤ d) (hrm : (st.map fun v => v.category).sum ≤ 8) (kt : T E d M (pc + 3) ls st (hst h a (.inl (E.2.2.2.1 0, n1, .inl (va_cpy f g sp dp n)))) Q) : T E d M pc ls (.int (iI xn) :: .int (iI xd) :: .ref a :: .int (iI xs) :: .ref a0 :: st) h Q := by
  refine T.ph (h1 := hst h a (.inl (E.2.2.2.1 0, n1, .inl (va_cpy f g sp dp n)))) ⟨Nat.le_refl _, Nat.le_refl _, ?_⟩ kt
  intro p e R s m args below meth c hC hf hl H lsA locs cells slots Q hP hS hL hcl hsl hz kk
  obtain ⟨hx, hb, hml, hown, hts, hrt, hlk, hnm, hK, hro, hB, hRS⟩ := hC
  obtain ⟨q0, hq⟩ := Pic.at (H := H) ha he
  obtain ⟨q1, hq1⟩ := Pic.at (H := H) ha0 he0
  obtain ⟨k1, k2, k3, k4⟩ := hk
  have c1 := iI_clamp hs (by omega)
  have c2 := iI_clamp hdp (by omega)
  have c3 := iI_clamp hn (by omega)
  simp only [Nat.sub_self, Nat.add_zero] at kk
  have hnw : nativeFrameWords "java/lang/System" "arraycopy" 5 + 11 ≤ 90 := by decide
  refine va_copyi hx hb (hml.trans hL.1.symm) hown (hts _ k1) (hts _ k2) (hts _ k3) (hts _ k4) hK.1 hP Pic.D hS q1 q0 0 0 (ty := .int) hq1 hq rfl rfl rfl (iI_nneg hs (by omega)) (iI_nneg hdp (by omega)) (iI_nneg hn (by omega)) (by rw [c1, c3]; exact h4) (by rw [c2, c3]; exact h5) (fun i _ => rfl) (by omega) (by omega) hd (fun H1 locs1 z1 z2 z3 => ?_)
  rw [c1, c2, c3] at z1
  exact kk H1 locs1 _ (Pic.set ha he hq z1) z3 hL
theorem T.copyl {n0 n1 n sp dp : Nat} {xs xd xn : Int} {f g : Nat → Int64} (hd : decode M.2.1 pc = .ok (.invokestatic idx, 3)) (hk : LKC M.1.cls idx) (ha : inH E h a) (he : h.2.2 a = .inl (E.2.2.2.1 1, n1, .inr (.inl g))) (ha0 : inH E h a0) (he0 : h.2.2 a0 = .inl (E.2.2.2.1 1, n0, .inr (.inl f))) (hs : xs = sp) (hdp : xd = dp) (hn : xn = n) (h4 : sp + n ≤ n0) (h5 : dp + n ≤ n1) (hn0 : n0 < 1000000) (hn1 : n1 < 1000000) (hdd : 1 ≤ d) (hrm : (st.map fun v => v.category).sum ≤ 8) (kt : T E d M (pc + 3) ls st (hst h a (.inl (E.2.2.2.1 1, n1, .inr (.inl (va_cpy f g sp dp n))))) Q) : T E d M pc ls (.int (iI xn) :: .int (iI xd) :: .ref a :: .int (iI xs) :: .ref a0 :: st) h Q := by
  refine T.ph (h1 := hst h a (.inl (E.2.2.2.1 1, n1, .inr (.inl (va_cpy f g sp dp n))))) ⟨Nat.le_refl _, Nat.le_refl _, ?_⟩ kt
  intro p e R s m args below meth c hC hf hl H lsA locs cells slots Q hP hS hL hcl hsl hz kk
  obtain ⟨hx, hb, hml, hown, hts, hrt, hlk, hnm, hK, hro, hB, hRS⟩ := hC
  obtain ⟨q0, hq⟩ := Pic.at (H := H) ha he
  obtain ⟨q1, hq1⟩ := Pic.at (H := H) ha0 he0
  obtain ⟨k1, k2, k3, k4⟩ := hk
  have c1 := iI_clamp hs (by omega)
  have c2 := iI_clamp hdp (by omega)
  have c3 := iI_clamp hn (by omega)
  simp only [Nat.sub_self, Nat.add_zero] at kk
  have hnw : nativeFrameWords "java/lang/System" "arraycopy" 5 + 11 ≤ 90 := by decide
  refine va_copyl hx hb (hml.trans hL.1.symm) hown (hts _ k1) (hts _ k2) (hts _ k3) (hts _ k4) hK.1 hP Pic.D hS q1 q0 1 1 (ty := .long) hq1 hq rfl rfl rfl (iI_nneg hs (by omega)) (iI_nneg hdp (by omega)) (iI_nneg hn (by omega)) (by rw [c1, c3]; exact h4) (by rw [c2, c3]; exact h5) (fun i _ => rfl) (by omega) (by omega) hd (fun H1 locs1 z1 z2 z3 => ?_)
  rw [c1, c2, c3] at z1
  exact kk H1 locs1 _ (Pic.set ha he hq z1) z3 hL
end COPY
end
section
theorem gwX0 : (u_ws RX0 TX0 5).all goodWord = true := by decide +kernel
theorem wX0 : ∀ w ∈ u_ws RX0 TX0 5, w ∈ wA := fun w h => wA_of (inX0 w h) (List.all_eq_true.mp gwX0 w h)
theorem gwX1 : (u_ws RX1 TX1 14).all goodWord = true := by decide +kernel
theorem wX1 : ∀ w ∈ u_ws RX1 TX1 14, w ∈ wA := fun w h => wA_of (inX1 w h) (List.all_eq_true.mp gwX1 w h)
theorem gwX2 : (u_ws RX2 TX2 3).all goodWord = true := by decide +kernel
theorem wX2 : ∀ w ∈ u_ws RX2 TX2 3, w ∈ wA := fun w h => wA_of (inX2 w h) (List.all_eq_true.mp gwX2 w h)
theorem gwX3 : (u_ws RX3 TX3 3).all goodWord = true := by decide +kernel
theorem wX3 : ∀ w ∈ u_ws RX3 TX3 3, w ∈ wA := fun w h => wA_of (inX3 w h) (List.all_eq_true.mp gwX3 w h)
theorem gwX4 : (u_ws RX4 TX4 4).all goodWord = true := by decide +kernel
theorem wX4 : ∀ w ∈ u_ws RX4 TX4 4, w ∈ wA := fun w h => wA_of (inX4 w h) (List.all_eq_true.mp gwX4 w h)
theorem gwX5 : (u_ws RX5 TX5 4).all goodWord = true := by decide +kernel
theorem wX5 : ∀ w ∈ u_ws RX5 TX5 4, w ∈ wA := fun w h => wA_of (inX5 w h) (List.all_eq_true.mp gwX5 w h)
theorem gwX6 : (u_ws RX6 TX6 2).all goodWord = true := by decide +kernel
theorem wX6 : ∀ w ∈ u_ws RX6 TX6 2, w ∈ wA := fun w h => wA_of (inX6 w h) (List.all_eq_true.mp gwX6 w h)
theorem gwX7 : (u_ws RX7 TX7 7).all goodWord = true := by decide +kernel
theorem wX7 : ∀ w ∈ u_ws RX7 TX7 7, w ∈ wA := fun w h => wA_of (inX7 w h) (List.all_eq_true.mp gwX7 w h)
theorem gwX8 : (u_ws RX8 TX8 8).all goodWord = true := by decide +kernel
theorem wX8 : ∀ w ∈ u_ws RX8 TX8 8, w ∈ wA := fun w h => wA_of (inX8 w h) (List.all_eq_true.mp gwX8 w h)
theorem gwX9 : (u_ws RX9 TX9 29).all goodWord = true := by decide +kernel
theorem wX9 : ∀ w ∈ u_ws RX9 TX9 29, w ∈ wA := fun w h => wA_of (inX9 w h) (List.all_eq_true.mp gwX9 w h)
abbrev mX0_init : MI := (yX0_init, cX0_init, 2, none)
abbrev mX0_addPayment : MI := (yX0_addPayment, cX0_addPayment, 4, none)
abbrev mX0_debtsWithAtLeast : MI := (yX0_debtsWithAtLeast, cX0_debtsWithAtLeast, 5, (some .int))
abbrev mX0_copyFrom : MI := (yX0_copyFrom, cX0_copyFrom, 3, none)
abbrev mX1_init : MI := (yX1_init, cX1_init, 1, none)
abbrev mX1_start : MI := (yX1_start, cX1_start, 4, none)
abbrev mX1_standWith : MI := (yX1_standWith, cX1_standWith, 2, none)
abbrev mX1_goAheadOf : MI := (yX1_goAheadOf, cX1_goAheadOf, 2, none)
abbrev mX1_goBehind : MI := (yX1_goBehind, cX1_goBehind, 4, none)
abbrev mX1_takeUpTo : MI := (yX1_takeUpTo, cX1_takeUpTo, 4, none)
abbrev mX1_nextPayment : MI := (yX1_nextPayment, cX1_nextPayment, 7, (some .int))
abbrev mX1_take : MI := (yX1_take, cX1_take, 3, none)
abbrev mX1_runTo : MI := (yX1_runTo, cX1_runTo, 3, none)
abbrev mX1_runOn : MI := (yX1_runOn, cX1_runOn, 7, none)
abbrev mX1_isOpen : MI := (yX1_isOpen, cX1_isOpen, 2, (some .boolean))
abbrev mX1_sumLeft : MI := (yX1_sumLeft, cX1_sumLeft, 2, (some .long))
abbrev mX1_runLeft : MI := (yX1_runLeft, cX1_runLeft, 2, (some .long))
abbrev mX1_leftOf : MI := (yX1_leftOf, cX1_leftOf, 2, (some .long))
abbrev mX1_owedNow : MI := (yX1_owedNow, cX1_owedNow, 4, (some .long))
abbrev mX1_isLeftAlike : MI := (yX1_isLeftAlike, cX1_isLeftAlike, 3, (some .boolean))
abbrev mX1_findDead : MI := (yX1_findDead, cX1_findDead, 4, none)
abbrev mX1_orderOpen : MI := (yX1_orderOpen, cX1_orderOpen, 5, (some .int))
abbrev mX1_compareByKeys : MI := (yX1_compareByKeys, cX1_compareByKeys, 7, (some .int))
abbrev mX1_firstIf : MI := (yX1_firstIf, cX1_firstIf, 2, (some .int))
abbrev mX1_chosenDebt : MI := (yX1_chosenDebt, cX1_chosenDebt, 2, (some .int))
abbrev mX1_heedsWord : MI := (yX1_heedsWord, cX1_heedsWord, 2, (some .boolean))
abbrev mX1_distribute : MI := (yX1_distribute, cX1_distribute, 10, none)
abbrev mX1_share : MI := (yX1_share, cX1_share, 10, (some .long))
abbrev mX1_give : MI := (yX1_give, cX1_give, 8, (some .long))
abbrev mX2_init : MI := (yX2_init, cX2_init, 1, none)
abbrev mX2_begin : MI := (yX2_begin, cX2_begin, 5, none)
abbrev mX2_isSecured : MI := (yX2_isSecured, cX2_isSecured, 1, (some .boolean))
abbrev mX2_copyFrom : MI := (yX2_copyFrom, cX2_copyFrom, 2, none)
abbrev mX3_init : MI := (yX3_init, cX3_init, 1, none)
abbrev mX3_has : MI := (yX3_has, cX3_has, 2, (some .boolean))
abbrev mX3_read : MI := (yX3_read, cX3_read, 3, none)
abbrev mX3_copyFrom : MI := (yX3_copyFrom, cX3_copyFrom, 2, none)
abbrev mX3_bitOf : MI := (yX3_bitOf, cX3_bitOf, 1, (some .int))
abbrev mX4_init : MI := (yX4_init, cX4_init, 1, none)
abbrev mX4_copyFrom : MI := (yX4_copyFrom, cX4_copyFrom, 2, none)
abbrev mX5_init : MI := (yX5_init, cX5_init, 1, none)
abbrev mX5_begin : MI := (yX5_begin, cX5_begin, 3, none)
abbrev mX5_refusal : MI := (yX5_refusal, cX5_refusal, 4, (some .int))
abbrev mX5_write : MI := (yX5_write, cX5_write, 3, none)
abbrev mX6_init : MI := (yX6_init, cX6_init, 1, none)
abbrev mX6_append : MI := (yX6_append, cX6_append, 2, none)
abbrev mX6_fault : MI := (yX6_fault, cX6_fault, 4, (some .int))
abbrev mX7_init : MI := (yX7_init, cX7_init, 2, none)
abbrev mX7_find : MI := (yX7_find, cX7_find, 6, none)
abbrev mX7_tryFrom : MI := (yX7_tryFrom, cX7_tryFrom, 6, none)
abbrev mX7_weigh : MI := (yX7_weigh, cX7_weigh, 3, none)
abbrev mX7_isTriedAhead : MI := (yX7_isTriedAhead, cX7_isTriedAhead, 2, (some .boolean))
abbrev mX8_init : MI := (yX8_init, cX8_init, 2, none)
abbrev mX8_debt : MI := (yX8_debt, cX8_debt, 5, (some .int))
abbrev mX8_set : MI := (yX8_set, cX8_set, 6, (some .int))
abbrev mX8_pay : MI := (yX8_pay, cX8_pay, 3, (some .int))
abbrev mX8_pays : MI := (yX8_pays, cX8_pays, 8, (some .int))
abbrev mX8_word : MI := (yX8_word, cX8_word, 6, (some .int))
abbrev mX8_move : MI := (yX8_move, cX8_move, 4, (some .int))
abbrev mX8_count : MI := (yX8_count, cX8_count, 2, (some .int))
abbrev mX8_type : MI := (yX8_type, cX8_type, 5, (some .int))
abbrev mX8_law : MI := (yX8_law, cX8_law, 3, (some .int))
abbrev mX8_letter : MI := (yX8_letter, cX8_letter, 4, (some .int))
abbrev mX8_left : MI := (yX8_left, cX8_left, 5, (some .long))
abbrev mX8_owed : MI := (yX8_owed, cX8_owed, 3, (some .long))
abbrev mX8_put : MI := (yX8_put, cX8_put, 5, (some .long))
abbrev mX8_paid : MI := (yX8_paid, cX8_paid, 3, (some .int))
abbrev mX8_dead : MI := (yX8_dead, cX8_dead, 4, (some .int))
abbrev mX8_wakes : MI := (yX8_wakes, cX8_wakes, 3, (some .int))
abbrev mX8_free : MI := (yX8_free, cX8_free, 5, (some .int))
abbrev mX8_rank : MI := (yX8_rank, cX8_rank, 5, (some .int))
abbrev mX8_best : MI := (yX8_best, cX8_best, 5, (some .int))
abbrev mX8_least : MI := (yX8_least, cX8_least, 4, (some .long))
abbrev mX8_answer : MI := (yX8_answer, cX8_answer, 10, (some .int))
abbrev mX8_hangs : MI := (yX8_hangs, cX8_hangs, 13, (some .long))
abbrev mX8_plan : MI := (yX8_plan, cX8_plan, 7, (some .long))
abbrev mX8_parts : MI := (yX8_parts, cX8_parts, 2, (some .int))
abbrev mX8_gap : MI := (yX8_gap, cX8_gap, 4, (some .long))
abbrev mX8_judge : MI := (yX8_judge, cX8_judge, 10, (some .int))
abbrev mX8_image : MI := (yX8_image, cX8_image, 1, (some .int))
abbrev mX8_restore : MI := (yX8_restore, cX8_restore, 1, (some .int))
abbrev mX8_sheet : MI := (yX8_sheet, cX8_sheet, 4, (some .int))
abbrev mX8_drop : MI := (yX8_drop, cX8_drop, 2, (some .int))
abbrev mX8_item : MI := (yX8_item, cX8_item, 6, (some .int))
abbrev mX8_within : MI := (yX8_within, cX8_within, 3, (some .boolean))
abbrev mX8_isDay : MI := (yX8_isDay, cX8_isDay, 1, (some .boolean))
abbrev mX8_isPayable : MI := (yX8_isPayable, cX8_isPayable, 2, (some .boolean))
abbrev mX8_isLaw : MI := (yX8_isLaw, cX8_isLaw, 1, (some .boolean))
abbrev mX8_isSheet : MI := (yX8_isSheet, cX8_isSheet, 1, (some .boolean))
abbrev mX8_isLane : MI := (yX8_isLane, cX8_isLane, 1, (some .boolean))
abbrev mX8_isDebt : MI := (yX8_isDebt, cX8_isDebt, 2, (some .boolean))
abbrev mX8_isDebtOrNone : MI := (yX8_isDebtOrNone, cX8_isDebtOrNone, 2, (some .boolean))
abbrev mX8_isPayment : MI := (yX8_isPayment, cX8_isPayment, 2, (some .boolean))
abbrev mX8_dayOrNone : MI := (yX8_dayOrNone, cX8_dayOrNone, 1, (some .int))
abbrev mX8_byteOf : MI := (yX8_byteOf, cX8_byteOf, 3, (some .int))
abbrev mX8_allSigns : MI := (yX8_allSigns, cX8_allSigns, 4, (some .boolean))
abbrev mX8_goBehind : MI := (yX8_goBehind, cX8_goBehind, 3, none)
abbrev mX9_in : MI := (yX9_in, cX9_in, 6, (some .boolean))
abbrev mX9_init : MI := (yX9_init, cX9_init, 2, none)
abbrev mX9_isDay : MI := (yX9_isDay, cX9_isDay, 1, (some .boolean))
abbrev mX9_isDebt : MI := (yX9_isDebt, cX9_isDebt, 2, (some .boolean))
abbrev mX9_isPayment : MI := (yX9_isPayment, cX9_isPayment, 2, (some .boolean))
abbrev mX9_isLaw : MI := (yX9_isLaw, cX9_isLaw, 1, (some .boolean))
abbrev mX9_debt : MI := (yX9_debt, cX9_debt, 6, (some .int))
abbrev mX9_set : MI := (yX9_set, cX9_set, 7, (some .int))
abbrev mX9_addPayment : MI := (yX9_addPayment, cX9_addPayment, 4, none)
abbrev mX9_pay : MI := (yX9_pay, cX9_pay, 3, (some .int))
abbrev mX9_word : MI := (yX9_word, cX9_word, 5, (some .int))
abbrev mX9_move : MI := (yX9_move, cX9_move, 4, (some .int))
abbrev mX9_count : MI := (yX9_count, cX9_count, 4, (some .int))
abbrev mX9_type : MI := (yX9_type, cX9_type, 5, (some .int))
abbrev mX9_isLetter : MI := (yX9_isLetter, cX9_isLetter, 1, (some .boolean))
abbrev mX9_law : MI := (yX9_law, cX9_law, 7, (some .int))
abbrev mX9_letter : MI := (yX9_letter, cX9_letter, 3, (some .int))
abbrev mX9_has : MI := (yX9_has, cX9_has, 5, (some .boolean))
abbrev mX9_beginDays : MI := (yX9_beginDays, cX9_beginDays, 2, none)
abbrev mX9_runOn : MI := (yX9_runOn, cX9_runOn, 5, none)
abbrev mX9_leftOf : MI := (yX9_leftOf, cX9_leftOf, 2, (some .long))
abbrev mX9_isDead : MI := (yX9_isDead, cX9_isDead, 4, (some .boolean))
abbrev mX9_putTo : MI := (yX9_putTo, cX9_putTo, 15, (some .long))
abbrev mX9_compare : MI := (yX9_compare, cX9_compare, 11, (some .int))
abbrev mX9_findOrder : MI := (yX9_findOrder, cX9_findOrder, 6, (some .int))
abbrev mX9_putParts : MI := (yX9_putParts, cX9_putParts, 12, none)
abbrev mX9_putAll : MI := (yX9_putAll, cX9_putAll, 11, none)
abbrev mX9_putPayment : MI := (yX9_putPayment, cX9_putPayment, 4, none)
abbrev mX9_goDay : MI := (yX9_goDay, cX9_goDay, 4, none)
abbrev mX9_goTo : MI := (yX9_goTo, cX9_goTo, 4, none)
abbrev mX9_owedNow : MI := (yX9_owedNow, cX9_owedNow, 4, (some .long))
abbrev mX9_owedOn : MI := (yX9_owedOn, cX9_owedOn, 3, (some .long))
abbrev mX9_left : MI := (yX9_left, cX9_left, 5, (some .long))
abbrev mX9_owed : MI := (yX9_owed, cX9_owed, 3, (some .long))
abbrev mX9_put : MI := (yX9_put, cX9_put, 7, (some .long))
abbrev mX9_paid : MI := (yX9_paid, cX9_paid, 4, (some .int))
abbrev mX9_dead : MI := (yX9_dead, cX9_dead, 5, (some .int))
abbrev mX9_wakes : MI := (yX9_wakes, cX9_wakes, 3, (some .int))
abbrev mX9_free : MI := (yX9_free, cX9_free, 8, (some .int))
abbrev mX9_rank : MI := (yX9_rank, cX9_rank, 5, (some .int))
abbrev mX9_findWords : MI := (yX9_findWords, cX9_findWords, 10, none)
abbrev mX9_best : MI := (yX9_best, cX9_best, 5, (some .int))
abbrev mX9_least : MI := (yX9_least, cX9_least, 4, (some .long))
abbrev mX9_answer : MI := (yX9_answer, cX9_answer, 11, (some .int))
abbrev mX9_hangs : MI := (yX9_hangs, cX9_hangs, 13, (some .long))
abbrev mX9_plan : MI := (yX9_plan, cX9_plan, 7, (some .long))
abbrev mX9_parts : MI := (yX9_parts, cX9_parts, 3, (some .int))
abbrev mX9_gap : MI := (yX9_gap, cX9_gap, 2, (some .long))
abbrev mX9_carry : MI := (yX9_carry, cX9_carry, 4, none)
abbrev mX9_image : MI := (yX9_image, cX9_image, 1, (some .int))
abbrev mX9_restore : MI := (yX9_restore, cX9_restore, 1, (some .int))
abbrev mX9_isSheet : MI := (yX9_isSheet, cX9_isSheet, 2, (some .boolean))
abbrev mX9_sheet : MI := (yX9_sheet, cX9_sheet, 5, (some .int))
abbrev mX9_drop : MI := (yX9_drop, cX9_drop, 2, (some .int))
abbrev mX9_lacksRow : MI := (yX9_lacksRow, cX9_lacksRow, 5, (some .int))
abbrev mX9_item : MI := (yX9_item, cX9_item, 6, (some .int))
abbrev mX9_pays : MI := (yX9_pays, cX9_pays, 8, (some .int))
abbrev mX9_judge : MI := (yX9_judge, cX9_judge, 8, (some .int))
abbrev mJ11_isValidCodePoint_9a6ad : MI := (yJ11_isValidCodePoint_9a6ad, cJ11_isValidCodePoint_9a6ad, 2, (some .boolean))
abbrev mJ11_highSurrogate_5068e : MI := (yJ11_highSurrogate_5068e, cJ11_highSurrogate_5068e, 1, (some .char))
abbrev mJ11_lowSurrogate_5068e : MI := (yJ11_lowSurrogate_5068e, cJ11_lowSurrogate_5068e, 1, (some .char))
abbrev mJ6_compare_7cf53 : MI := (yJ6_compare_7cf53, cJ6_compare_7cf53, 2, (some .int))
abbrev mJ13_compare_74951 : MI := (yJ13_compare_74951, cJ13_compare_74951, 4, (some .int))
abbrev mJ9_max_7cf53 : MI := (yJ9_max_7cf53, cJ9_max_7cf53, 2, (some .int))
abbrev mJ9_max_f86c9 : MI := (yJ9_max_f86c9, cJ9_max_f86c9, 4, (some .long))
abbrev mJ9_min_7cf53 : MI := (yJ9_min_7cf53, cJ9_min_7cf53, 2, (some .int))
abbrev mJ9_min_f86c9 : MI := (yJ9_min_f86c9, cJ9_min_f86c9, 4, (some .long))
abbrev mJ0_length_8abf5 : MI := (yJ0_length_8abf5, cJ0_length_8abf5, 1, (some .int))
abbrev mJ0_indexOf_0f7a4 : MI := (yJ0_indexOf_0f7a4, cJ0_indexOf_0f7a4, 2, (some .int))
abbrev mJ0_indexOf_7cf53 : MI := (yJ0_indexOf_7cf53, cJ0_indexOf_7cf53, 3, (some .int))
abbrev mJ0_coder_7d493 : MI := (yJ0_coder_7d493, cJ0_coder_7d493, 1, (some .byte))
abbrev mJ0_isLatin1_aae02 : MI := (yJ0_isLatin1_aae02, cJ0_isLatin1_aae02, 1, (some .boolean))
abbrev mJ0_checkBoundsBeginEnd_23922 : MI := (yJ0_checkBoundsBeginEnd_23922, cJ0_checkBoundsBeginEnd_23922, 3, none)
abbrev mJ1_canEncode_9a6ad : MI := (yJ1_canEncode_9a6ad, cJ1_canEncode_9a6ad, 1, (some .boolean))
abbrev mJ1_indexOf_4cfef : MI := (yJ1_indexOf_4cfef, cJ1_indexOf_4cfef, 4, (some .int))
abbrev mJ1_indexOfChar_4cfef : MI := (yJ1_indexOfChar_4cfef, cJ1_indexOfChar_4cfef, 6, (some .int))
abbrev mJ2_getChar_3b067 : MI := (yJ2_getChar_3b067, cJ2_getChar_3b067, 2, (some .char))
abbrev mJ2_length_9d52b : MI := (yJ2_length_9d52b, cJ2_length_9d52b, 1, (some .int))
abbrev mJ2_indexOf_4cfef : MI := (yJ2_indexOf_4cfef, cJ2_indexOf_4cfef, 4, (some .int))
abbrev mJ2_indexOfChar_4cfef : MI := (yJ2_indexOfChar_4cfef, cJ2_indexOfChar_4cfef, 4, (some .int))
abbrev mJ2_indexOfCharUnsafe_4cfef : MI := (yJ2_indexOfCharUnsafe_4cfef, cJ2_indexOfCharUnsafe_4cfef, 5, (some .int))
abbrev mJ2_indexOfSupplementary_4cfef : MI := (yJ2_indexOfSupplementary_4cfef, cJ2_indexOfSupplementary_4cfef, 7, (some .int))
abbrev mJ2_checkBoundsBeginEnd_d044e : MI := (yJ2_checkBoundsBeginEnd_d044e, cJ2_checkBoundsBeginEnd_d044e, 3, none)
abbrev mJ7_fill_d0a16 : MI := (yJ7_fill_d0a16, cJ7_fill_d0a16, 5, none)
abbrev mJ7_fill_53178 : MI := (yJ7_fill_53178, cJ7_fill_53178, 4, none)
abbrev mJ3_checkFromToIndex_8c36e : MI := (yJ3_checkFromToIndex_8c36e, cJ3_checkFromToIndex_8c36e, 4, (some .int))
set_option maxRecDepth 20000 in
theorem okX0_init : MOK mX0_init 0 := ⟨(wA_t 33 rfl rfl), (wA_t 2 (by decide +kernel) rfl), by decide +kernel, by decide +kernel, by decide⟩
set_option maxRecDepth 20000 in
theorem okX0_addPayment : MOK mX0_addPayment 2 := ⟨(wA_t 337 rfl rfl), (wA_t 2 (by decide +kernel) rfl), by decide +kernel, by decide +kernel, by decide⟩
set_option maxRecDepth 20000 in
theorem okX0_debtsWithAtLeast : MOK mX0_debtsWithAtLeast 2 := ⟨(wA_t 375 rfl rfl), (wA_t 2 (by decide +kernel) rfl), by decide +kernel, by decide +kernel, by decide⟩
set_option maxRecDepth 20000 in
theorem okX0_copyFrom : MOK mX0_copyFrom 1 := ⟨(wA_t 517 rfl rfl), (wA_t 2 (by decide +kernel) rfl), by decide +kernel, by decide +kernel, by decide⟩
set_option maxRecDepth 20000 in
theorem okX1_init : MOK mX1_init 0 := ⟨(wA_t 144 rfl rfl), (wA_t 6 (by decide +kernel) rfl), by decide +kernel, by decide +kernel, by decide⟩
set_option maxRecDepth 20000 in
theorem okX1_start : MOK mX1_start 2 := ⟨(wA_t 513 rfl rfl), (wA_t 6 (by decide +kernel) rfl), by decide +kernel, by decide +kernel, by decide⟩
set_option maxRecDepth 20000 in
theorem okX1_standWith : MOK mX1_standWith 1 := ⟨(wA_t 710 rfl rfl), (wA_t 6 (by decide +kernel) rfl), by decide +kernel, by decide +kernel, by decide⟩
set_option maxRecDepth 20000 in
theorem okX1_goAheadOf : MOK mX1_goAheadOf 1 := ⟨(wA_t 657 rfl rfl), (wA_t 6 (by decide +kernel) rfl), by decide +kernel, by decide +kernel, by decide⟩
set_option maxRecDepth 20000 in
theorem okX1_goBehind : MOK mX1_goBehind 1 := ⟨(wA_t 539 rfl rfl), (wA_t 6 (by decide +kernel) rfl), by decide +kernel, by decide +kernel, by decide⟩
set_option maxRecDepth 20000 in
theorem okX1_takeUpTo : MOK mX1_takeUpTo 1 := ⟨(wA_t 642 rfl rfl), (wA_t 6 (by decide +kernel) rfl), by decide +kernel, by decide +kernel, by decide⟩
set_option maxRecDepth 20000 in
theorem okX1_nextPayment : MOK mX1_nextPayment 1 := ⟨(wA_t 543 rfl rfl), (wA_t 6 (by decide +kernel) rfl), by decide +kernel, by decide +kernel, by decide⟩
set_option maxRecDepth 20000 in
theorem okX1_take : MOK mX1_take 1 := ⟨(wA_t 547 rfl rfl), (wA_t 6 (by decide +kernel) rfl), by decide +kernel, by decide +kernel, by decide⟩
set_option maxRecDepth 20000 in
theorem okX1_runTo : MOK mX1_runTo 1 := ⟨(wA_t 551 rfl rfl), (wA_t 6 (by decide +kernel) rfl), by decide +kernel, by decide +kernel, by decide⟩
set_option maxRecDepth 20000 in
theorem okX1_runOn : MOK mX1_runOn 2 := ⟨(wA_t 556 rfl rfl), (wA_t 6 (by decide +kernel) rfl), by decide +kernel, by decide +kernel, by decide⟩
set_option maxRecDepth 20000 in
theorem okX1_isOpen : MOK mX1_isOpen 1 := ⟨(wA_t 568 rfl rfl), (wA_t 6 (by decide +kernel) rfl), by decide +kernel, by decide +kernel, by decide⟩
set_option maxRecDepth 20000 in
theorem okX1_sumLeft : MOK mX1_sumLeft 1 := ⟨(wA_t 615 rfl rfl), (wA_t 6 (by decide +kernel) rfl), by decide +kernel, by decide +kernel, by decide⟩
set_option maxRecDepth 20000 in
theorem okX1_runLeft : MOK mX1_runLeft 1 := ⟨(wA_t 619 rfl rfl), (wA_t 6 (by decide +kernel) rfl), by decide +kernel, by decide +kernel, by decide⟩
set_option maxRecDepth 20000 in
theorem okX1_leftOf : MOK mX1_leftOf 1 := ⟨(wA_t 623 rfl rfl), (wA_t 6 (by decide +kernel) rfl), by decide +kernel, by decide +kernel, by decide⟩
set_option maxRecDepth 20000 in
theorem okX1_owedNow : MOK mX1_owedNow 0 := ⟨(wA_t 633 rfl rfl), (wA_t 6 (by decide +kernel) rfl), by decide +kernel, by decide +kernel, by decide⟩
set_option maxRecDepth 20000 in
theorem okX1_isLeftAlike : MOK mX1_isLeftAlike 1 := ⟨(wA_t 744 rfl rfl), (wA_t 6 (by decide +kernel) rfl), by decide +kernel, by decide +kernel, by decide⟩
set_option maxRecDepth 20000 in
theorem okX1_findDead : MOK mX1_findDead 0 := ⟨(wA_t 579 rfl rfl), (wA_t 6 (by decide +kernel) rfl), by decide +kernel, by decide +kernel, by decide⟩
set_option maxRecDepth 20000 in
theorem okX1_orderOpen : MOK mX1_orderOpen 0 := ⟨(wA_t 590 rfl rfl), (wA_t 6 (by decide +kernel) rfl), by decide +kernel, by decide +kernel, by decide⟩
set_option maxRecDepth 20000 in
theorem okX1_compareByKeys : MOK mX1_compareByKeys 2 := ⟨(wA_t 594 rfl rfl), (wA_t 6 (by decide +kernel) rfl), by decide +kernel, by decide +kernel, by decide⟩
set_option maxRecDepth 20000 in
theorem okX1_firstIf : MOK mX1_firstIf 2 := ⟨(wA_t 597 rfl rfl), (wA_t 6 (by decide +kernel) rfl), by decide +kernel, by decide +kernel, by decide⟩
set_option maxRecDepth 20000 in
theorem okX1_chosenDebt : MOK mX1_chosenDebt 1 := ⟨(wA_t 560 rfl rfl), (wA_t 6 (by decide +kernel) rfl), by decide +kernel, by decide +kernel, by decide⟩
set_option maxRecDepth 20000 in
theorem okX1_heedsWord : MOK mX1_heedsWord 1 := ⟨(wA_t 706 rfl rfl), (wA_t 6 (by decide +kernel) rfl), by decide +kernel, by decide +kernel, by decide⟩
set_option maxRecDepth 20000 in
theorem okX1_distribute : MOK mX1_distribute 2 := ⟨(wA_t 572 rfl rfl), (wA_t 6 (by decide +kernel) rfl), by decide +kernel, by decide +kernel, by decide⟩
set_option maxRecDepth 20000 in
theorem okX1_share : MOK mX1_share 3 := ⟨(wA_t 611 rfl rfl), (wA_t 6 (by decide +kernel) rfl), by decide +kernel, by decide +kernel, by decide⟩
set_option maxRecDepth 20000 in
theorem okX1_give : MOK mX1_give 2 := ⟨(wA_t 583 rfl rfl), (wA_t 6 (by decide +kernel) rfl), by decide +kernel, by decide +kernel, by decide⟩
set_option maxRecDepth 20000 in
theorem okX2_init : MOK mX2_init 0 := ⟨(wA_t 44 rfl rfl), (wA_t 3 (by decide +kernel) rfl), by decide +kernel, by decide +kernel, by decide⟩
set_option maxRecDepth 20000 in
theorem okX2_begin : MOK mX2_begin 4 := ⟨(wA_t 314 rfl rfl), (wA_t 3 (by decide +kernel) rfl), by decide +kernel, by decide +kernel, by decide⟩
set_option maxRecDepth 20000 in
theorem okX2_isSecured : MOK mX2_isSecured 0 := ⟨(wA_t 604 rfl rfl), (wA_t 3 (by decide +kernel) rfl), by decide +kernel, by decide +kernel, by decide⟩
set_option maxRecDepth 20000 in
theorem okX2_copyFrom : MOK mX2_copyFrom 1 := ⟨(wA_t 521 rfl rfl), (wA_t 3 (by decide +kernel) rfl), by decide +kernel, by decide +kernel, by decide⟩
set_option maxRecDepth 20000 in
theorem okX3_init : MOK mX3_init 0 := ⟨(wA_t 96 rfl rfl), (wA_t 5 (by decide +kernel) rfl), by decide +kernel, by decide +kernel, by decide⟩
set_option maxRecDepth 20000 in
theorem okX3_has : MOK mX3_has 1 := ⟨(wA_t 564 rfl rfl), (wA_t 5 (by decide +kernel) rfl), by decide +kernel, by decide +kernel, by decide⟩
set_option maxRecDepth 20000 in
theorem okX3_read : MOK mX3_read 1 := ⟨(wA_t 494 rfl rfl), (wA_t 5 (by decide +kernel) rfl), by decide +kernel, by decide +kernel, by decide⟩
set_option maxRecDepth 20000 in
theorem okX3_copyFrom : MOK mX3_copyFrom 1 := ⟨(wA_t 532 rfl rfl), (wA_t 5 (by decide +kernel) rfl), by decide +kernel, by decide +kernel, by decide⟩
set_option maxRecDepth 20000 in
theorem okX3_bitOf : MOK mX3_bitOf 1 := ⟨(wA_t 490 rfl rfl), (wA_t 5 (by decide +kernel) rfl), by decide +kernel, by decide +kernel, by decide⟩
set_option maxRecDepth 20000 in
theorem okX4_init : MOK mX4_init 0 := ⟨(wA_t 65 rfl rfl), (wA_t 4 (by decide +kernel) rfl), by decide +kernel, by decide +kernel, by decide⟩
set_option maxRecDepth 20000 in
theorem okX4_copyFrom : MOK mX4_copyFrom 1 := ⟨(wA_t 528 rfl rfl), (wA_t 4 (by decide +kernel) rfl), by decide +kernel, by decide +kernel, by decide⟩
set_option maxRecDepth 20000 in
theorem okX5_init : MOK mX5_init 0 := ⟨(wA_t 258 rfl rfl), (wA_t 9 (by decide +kernel) rfl), by decide +kernel, by decide +kernel, by decide⟩
set_option maxRecDepth 20000 in
theorem okX5_begin : MOK mX5_begin 2 := ⟨(wA_t 770 rfl rfl), (wA_t 9 (by decide +kernel) rfl), by decide +kernel, by decide +kernel, by decide⟩
set_option maxRecDepth 20000 in
theorem okX5_refusal : MOK mX5_refusal 3 := ⟨(wA_t 351 rfl rfl), (wA_t 9 (by decide +kernel) rfl), by decide +kernel, by decide +kernel, by decide⟩
set_option maxRecDepth 20000 in
theorem okX5_write : MOK mX5_write 2 := ⟨(wA_t 783 rfl rfl), (wA_t 9 (by decide +kernel) rfl), by decide +kernel, by decide +kernel, by decide⟩
set_option maxRecDepth 20000 in
theorem okX6_init : MOK mX6_init 0 := ⟨(wA_t 241 rfl rfl), (wA_t 8 (by decide +kernel) rfl), by decide +kernel, by decide +kernel, by decide⟩
set_option maxRecDepth 20000 in
theorem okX6_append : MOK mX6_append 1 := ⟨(wA_t 389 rfl rfl), (wA_t 8 (by decide +kernel) rfl), by decide +kernel, by decide +kernel, by decide⟩
set_option maxRecDepth 20000 in
theorem okX6_fault : MOK mX6_fault 0 := ⟨(wA_t 400 rfl rfl), (wA_t 8 (by decide +kernel) rfl), by decide +kernel, by decide +kernel, by decide⟩
set_option maxRecDepth 20000 in
theorem okX7_init : MOK mX7_init 0 := ⟨(wA_t 208 rfl rfl), (wA_t 7 (by decide +kernel) rfl), by decide +kernel, by decide +kernel, by decide⟩
set_option maxRecDepth 20000 in
theorem okX7_find : MOK mX7_find 4 := ⟨(wA_t 681 rfl rfl), (wA_t 7 (by decide +kernel) rfl), by decide +kernel, by decide +kernel, by decide⟩
set_option maxRecDepth 20000 in
theorem okX7_tryFrom : MOK mX7_tryFrom 1 := ⟨(wA_t 689 rfl rfl), (wA_t 7 (by decide +kernel) rfl), by decide +kernel, by decide +kernel, by decide⟩
set_option maxRecDepth 20000 in
theorem okX7_weigh : MOK mX7_weigh 1 := ⟨(wA_t 697 rfl rfl), (wA_t 7 (by decide +kernel) rfl), by decide +kernel, by decide +kernel, by decide⟩
set_option maxRecDepth 20000 in
theorem okX7_isTriedAhead : MOK mX7_isTriedAhead 0 := ⟨(wA_t 701 rfl rfl), (wA_t 7 (by decide +kernel) rfl), by decide +kernel, by decide +kernel, by decide⟩
set_option maxRecDepth 20000 in
theorem okX8_init : MOK mX8_init 0 := ⟨(wA_t 25 rfl rfl), (wA_t 1 (by decide +kernel) rfl), by decide +kernel, by decide +kernel, by decide⟩
set_option maxRecDepth 20000 in
theorem okX8_debt : MOK mX8_debt 4 := ⟨(wA_t 304 rfl rfl), (wA_t 1 (by decide +kernel) rfl), by decide +kernel, by decide +kernel, by decide⟩
set_option maxRecDepth 20000 in
theorem okX8_set : MOK mX8_set 3 := ⟨(wA_t 318 rfl rfl), (wA_t 1 (by decide +kernel) rfl), by decide +kernel, by decide +kernel, by decide⟩
set_option maxRecDepth 20000 in
theorem okX8_pay : MOK mX8_pay 2 := ⟨(wA_t 330 rfl rfl), (wA_t 1 (by decide +kernel) rfl), by decide +kernel, by decide +kernel, by decide⟩
set_option maxRecDepth 20000 in
theorem okX8_pays : MOK mX8_pays 4 := ⟨(wA_t 341 rfl rfl), (wA_t 1 (by decide +kernel) rfl), by decide +kernel, by decide +kernel, by decide⟩
set_option maxRecDepth 20000 in
theorem okX8_word : MOK mX8_word 3 := ⟨(wA_t 355 rfl rfl), (wA_t 1 (by decide +kernel) rfl), by decide +kernel, by decide +kernel, by decide⟩
set_option maxRecDepth 20000 in
theorem okX8_move : MOK mX8_move 2 := ⟨(wA_t 367 rfl rfl), (wA_t 1 (by decide +kernel) rfl), by decide +kernel, by decide +kernel, by decide⟩
set_option maxRecDepth 20000 in
theorem okX8_count : MOK mX8_count 1 := ⟨(wA_t 371 rfl rfl), (wA_t 1 (by decide +kernel) rfl), by decide +kernel, by decide +kernel, by decide⟩
set_option maxRecDepth 20000 in
theorem okX8_type : MOK mX8_type 2 := ⟨(wA_t 379 rfl rfl), (wA_t 1 (by decide +kernel) rfl), by decide +kernel, by decide +kernel, by decide⟩
set_option maxRecDepth 20000 in
theorem okX8_law : MOK mX8_law 1 := ⟨(wA_t 393 rfl rfl), (wA_t 1 (by decide +kernel) rfl), by decide +kernel, by decide +kernel, by decide⟩
set_option maxRecDepth 20000 in
theorem okX8_letter : MOK mX8_letter 2 := ⟨(wA_t 500 rfl rfl), (wA_t 1 (by decide +kernel) rfl), by decide +kernel, by decide +kernel, by decide⟩
set_option maxRecDepth 20000 in
theorem okX8_left : MOK mX8_left 4 := ⟨(wA_t 504 rfl rfl), (wA_t 1 (by decide +kernel) rfl), by decide +kernel, by decide +kernel, by decide⟩
set_option maxRecDepth 20000 in
theorem okX8_owed : MOK mX8_owed 2 := ⟨(wA_t 629 rfl rfl), (wA_t 1 (by decide +kernel) rfl), by decide +kernel, by decide +kernel, by decide⟩
set_option maxRecDepth 20000 in
theorem okX8_put : MOK mX8_put 4 := ⟨(wA_t 638 rfl rfl), (wA_t 1 (by decide +kernel) rfl), by decide +kernel, by decide +kernel, by decide⟩
set_option maxRecDepth 20000 in
theorem okX8_paid : MOK mX8_paid 2 := ⟨(wA_t 646 rfl rfl), (wA_t 1 (by decide +kernel) rfl), by decide +kernel, by decide +kernel, by decide⟩
set_option maxRecDepth 20000 in
theorem okX8_dead : MOK mX8_dead 3 := ⟨(wA_t 653 rfl rfl), (wA_t 1 (by decide +kernel) rfl), by decide +kernel, by decide +kernel, by decide⟩
set_option maxRecDepth 20000 in
theorem okX8_wakes : MOK mX8_wakes 2 := ⟨(wA_t 663 rfl rfl), (wA_t 1 (by decide +kernel) rfl), by decide +kernel, by decide +kernel, by decide⟩
set_option maxRecDepth 20000 in
theorem okX8_free : MOK mX8_free 2 := ⟨(wA_t 667 rfl rfl), (wA_t 1 (by decide +kernel) rfl), by decide +kernel, by decide +kernel, by decide⟩
set_option maxRecDepth 20000 in
theorem okX8_rank : MOK mX8_rank 3 := ⟨(wA_t 672 rfl rfl), (wA_t 1 (by decide +kernel) rfl), by decide +kernel, by decide +kernel, by decide⟩
set_option maxRecDepth 20000 in
theorem okX8_best : MOK mX8_best 4 := ⟨(wA_t 677 rfl rfl), (wA_t 1 (by decide +kernel) rfl), by decide +kernel, by decide +kernel, by decide⟩
set_option maxRecDepth 20000 in
theorem okX8_least : MOK mX8_least 3 := ⟨(wA_t 715 rfl rfl), (wA_t 1 (by decide +kernel) rfl), by decide +kernel, by decide +kernel, by decide⟩
set_option maxRecDepth 20000 in
theorem okX8_answer : MOK mX8_answer 3 := ⟨(wA_t 720 rfl rfl), (wA_t 1 (by decide +kernel) rfl), by decide +kernel, by decide +kernel, by decide⟩
set_option maxRecDepth 20000 in
theorem okX8_hangs : MOK mX8_hangs 6 := ⟨(wA_t 724 rfl rfl), (wA_t 1 (by decide +kernel) rfl), by decide +kernel, by decide +kernel, by decide⟩
set_option maxRecDepth 20000 in
theorem okX8_plan : MOK mX8_plan 5 := ⟨(wA_t 733 rfl rfl), (wA_t 1 (by decide +kernel) rfl), by decide +kernel, by decide +kernel, by decide⟩
set_option maxRecDepth 20000 in
theorem okX8_parts : MOK mX8_parts 0 := ⟨(wA_t 740 rfl rfl), (wA_t 1 (by decide +kernel) rfl), by decide +kernel, by decide +kernel, by decide⟩
set_option maxRecDepth 20000 in
theorem okX8_gap : MOK mX8_gap 1 := ⟨(wA_t 748 rfl rfl), (wA_t 1 (by decide +kernel) rfl), by decide +kernel, by decide +kernel, by decide⟩
set_option maxRecDepth 20000 in
theorem okX8_judge : MOK mX8_judge 5 := ⟨(wA_t 753 rfl rfl), (wA_t 1 (by decide +kernel) rfl), by decide +kernel, by decide +kernel, by decide⟩
set_option maxRecDepth 20000 in
theorem okX8_image : MOK mX8_image 0 := ⟨(wA_t 757 rfl rfl), (wA_t 1 (by decide +kernel) rfl), by decide +kernel, by decide +kernel, by decide⟩
set_option maxRecDepth 20000 in
theorem okX8_restore : MOK mX8_restore 0 := ⟨(wA_t 762 rfl rfl), (wA_t 1 (by decide +kernel) rfl), by decide +kernel, by decide +kernel, by decide⟩
set_option maxRecDepth 20000 in
theorem okX8_sheet : MOK mX8_sheet 3 := ⟨(wA_t 766 rfl rfl), (wA_t 1 (by decide +kernel) rfl), by decide +kernel, by decide +kernel, by decide⟩
set_option maxRecDepth 20000 in
theorem okX8_drop : MOK mX8_drop 1 := ⟨(wA_t 775 rfl rfl), (wA_t 1 (by decide +kernel) rfl), by decide +kernel, by decide +kernel, by decide⟩
set_option maxRecDepth 20000 in
theorem okX8_item : MOK mX8_item 4 := ⟨(wA_t 779 rfl rfl), (wA_t 1 (by decide +kernel) rfl), by decide +kernel, by decide +kernel, by decide⟩
set_option maxRecDepth 20000 in
theorem okX8_within : MOK mX8_within 3 := ⟨(wA_t 307 rfl rfl), (wA_t 1 (by decide +kernel) rfl), by decide +kernel, by decide +kernel, by decide⟩
set_option maxRecDepth 20000 in
theorem okX8_isDay : MOK mX8_isDay 1 := ⟨(wA_t 310 rfl rfl), (wA_t 1 (by decide +kernel) rfl), by decide +kernel, by decide +kernel, by decide⟩
set_option maxRecDepth 20000 in
theorem okX8_isPayable : MOK mX8_isPayable 2 := ⟨(wA_t 333 rfl rfl), (wA_t 1 (by decide +kernel) rfl), by decide +kernel, by decide +kernel, by decide⟩
set_option maxRecDepth 20000 in
theorem okX8_isLaw : MOK mX8_isLaw 1 := ⟨(wA_t 396 rfl rfl), (wA_t 1 (by decide +kernel) rfl), by decide +kernel, by decide +kernel, by decide⟩
set_option maxRecDepth 20000 in
theorem okX8_isSheet : MOK mX8_isSheet 1 := ⟨(wA_t 344 rfl rfl), (wA_t 1 (by decide +kernel) rfl), by decide +kernel, by decide +kernel, by decide⟩
set_option maxRecDepth 20000 in
theorem okX8_isLane : MOK mX8_isLane 1 := ⟨(wA_t 347 rfl rfl), (wA_t 1 (by decide +kernel) rfl), by decide +kernel, by decide +kernel, by decide⟩
set_option maxRecDepth 20000 in
theorem okX8_isDebt : MOK mX8_isDebt 1 := ⟨(wA_t 322 rfl rfl), (wA_t 1 (by decide +kernel) rfl), by decide +kernel, by decide +kernel, by decide⟩
set_option maxRecDepth 20000 in
theorem okX8_isDebtOrNone : MOK mX8_isDebtOrNone 1 := ⟨(wA_t 363 rfl rfl), (wA_t 1 (by decide +kernel) rfl), by decide +kernel, by decide +kernel, by decide⟩
set_option maxRecDepth 20000 in
theorem okX8_isPayment : MOK mX8_isPayment 1 := ⟨(wA_t 359 rfl rfl), (wA_t 1 (by decide +kernel) rfl), by decide +kernel, by decide +kernel, by decide⟩
set_option maxRecDepth 20000 in
theorem okX8_dayOrNone : MOK mX8_dayOrNone 1 := ⟨(wA_t 649 rfl rfl), (wA_t 1 (by decide +kernel) rfl), by decide +kernel, by decide +kernel, by decide⟩
set_option maxRecDepth 20000 in
theorem okX8_byteOf : MOK mX8_byteOf 2 := ⟨(wA_t 385 rfl rfl), (wA_t 1 (by decide +kernel) rfl), by decide +kernel, by decide +kernel, by decide⟩
set_option maxRecDepth 20000 in
theorem okX8_allSigns : MOK mX8_allSigns 2 := ⟨(wA_t 382 rfl rfl), (wA_t 1 (by decide +kernel) rfl), by decide +kernel, by decide +kernel, by decide⟩
set_option maxRecDepth 20000 in
theorem okX8_goBehind : MOK mX8_goBehind 2 := ⟨(wA_t 509 rfl rfl), (wA_t 1 (by decide +kernel) rfl), by decide +kernel, by decide +kernel, by decide⟩
set_option maxRecDepth 20000 in
theorem okX9_in : MOK mX9_in 3 := ⟨(wA_t 885 rfl rfl), (wA_t 10 (by decide +kernel) rfl), by decide +kernel, by decide +kernel, by decide⟩
set_option maxRecDepth 20000 in
theorem okX9_init : MOK mX9_init 0 := ⟨(wA_t 788 rfl rfl), (wA_t 10 (by decide +kernel) rfl), by decide +kernel, by decide +kernel, by decide⟩
set_option maxRecDepth 20000 in
theorem okX9_isDay : MOK mX9_isDay 1 := ⟨(wA_t 888 rfl rfl), (wA_t 10 (by decide +kernel) rfl), by decide +kernel, by decide +kernel, by decide⟩
set_option maxRecDepth 20000 in
theorem okX9_isDebt : MOK mX9_isDebt 1 := ⟨(wA_t 898 rfl rfl), (wA_t 10 (by decide +kernel) rfl), by decide +kernel, by decide +kernel, by decide⟩
set_option maxRecDepth 20000 in
theorem okX9_isPayment : MOK mX9_isPayment 1 := ⟨(wA_t 916 rfl rfl), (wA_t 10 (by decide +kernel) rfl), by decide +kernel, by decide +kernel, by decide⟩
set_option maxRecDepth 20000 in
theorem okX9_isLaw : MOK mX9_isLaw 1 := ⟨(wA_t 940 rfl rfl), (wA_t 10 (by decide +kernel) rfl), by decide +kernel, by decide +kernel, by decide⟩
set_option maxRecDepth 20000 in
theorem okX9_debt : MOK mX9_debt 4 := ⟨(wA_t 881 rfl rfl), (wA_t 10 (by decide +kernel) rfl), by decide +kernel, by decide +kernel, by decide⟩
set_option maxRecDepth 20000 in
theorem okX9_set : MOK mX9_set 3 := ⟨(wA_t 894 rfl rfl), (wA_t 10 (by decide +kernel) rfl), by decide +kernel, by decide +kernel, by decide⟩
set_option maxRecDepth 20000 in
theorem okX9_addPayment : MOK mX9_addPayment 2 := ⟨(wA_t 908 rfl rfl), (wA_t 10 (by decide +kernel) rfl), by decide +kernel, by decide +kernel, by decide⟩
set_option maxRecDepth 20000 in
theorem okX9_pay : MOK mX9_pay 2 := ⟨(wA_t 904 rfl rfl), (wA_t 10 (by decide +kernel) rfl), by decide +kernel, by decide +kernel, by decide⟩
set_option maxRecDepth 20000 in
theorem okX9_word : MOK mX9_word 3 := ⟨(wA_t 912 rfl rfl), (wA_t 10 (by decide +kernel) rfl), by decide +kernel, by decide +kernel, by decide⟩
set_option maxRecDepth 20000 in
theorem okX9_move : MOK mX9_move 2 := ⟨(wA_t 920 rfl rfl), (wA_t 10 (by decide +kernel) rfl), by decide +kernel, by decide +kernel, by decide⟩
set_option maxRecDepth 20000 in
theorem okX9_count : MOK mX9_count 1 := ⟨(wA_t 924 rfl rfl), (wA_t 10 (by decide +kernel) rfl), by decide +kernel, by decide +kernel, by decide⟩
set_option maxRecDepth 20000 in
theorem okX9_type : MOK mX9_type 2 := ⟨(wA_t 929 rfl rfl), (wA_t 10 (by decide +kernel) rfl), by decide +kernel, by decide +kernel, by decide⟩
set_option maxRecDepth 20000 in
theorem okX9_isLetter : MOK mX9_isLetter 1 := ⟨(wA_t 943 rfl rfl), (wA_t 10 (by decide +kernel) rfl), by decide +kernel, by decide +kernel, by decide⟩
set_option maxRecDepth 20000 in
theorem okX9_law : MOK mX9_law 1 := ⟨(wA_t 937 rfl rfl), (wA_t 10 (by decide +kernel) rfl), by decide +kernel, by decide +kernel, by decide⟩
set_option maxRecDepth 20000 in
theorem okX9_letter : MOK mX9_letter 2 := ⟨(wA_t 947 rfl rfl), (wA_t 10 (by decide +kernel) rfl), by decide +kernel, by decide +kernel, by decide⟩
set_option maxRecDepth 20000 in
theorem okX9_has : MOK mX9_has 2 := ⟨(wA_t 989 rfl rfl), (wA_t 10 (by decide +kernel) rfl), by decide +kernel, by decide +kernel, by decide⟩
set_option maxRecDepth 20000 in
theorem okX9_beginDays : MOK mX9_beginDays 0 := ⟨(wA_t 960 rfl rfl), (wA_t 10 (by decide +kernel) rfl), by decide +kernel, by decide +kernel, by decide⟩
set_option maxRecDepth 20000 in
theorem okX9_runOn : MOK mX9_runOn 1 := ⟨(wA_t 968 rfl rfl), (wA_t 10 (by decide +kernel) rfl), by decide +kernel, by decide +kernel, by decide⟩
set_option maxRecDepth 20000 in
theorem okX9_leftOf : MOK mX9_leftOf 1 := ⟨(wA_t 985 rfl rfl), (wA_t 10 (by decide +kernel) rfl), by decide +kernel, by decide +kernel, by decide⟩
set_option maxRecDepth 20000 in
theorem okX9_isDead : MOK mX9_isDead 2 := ⟨(wA_t 981 rfl rfl), (wA_t 10 (by decide +kernel) rfl), by decide +kernel, by decide +kernel, by decide⟩
set_option maxRecDepth 20000 in
theorem okX9_putTo : MOK mX9_putTo 4 := ⟨(wA_t 993 rfl rfl), (wA_t 10 (by decide +kernel) rfl), by decide +kernel, by decide +kernel, by decide⟩
set_option maxRecDepth 20000 in
theorem okX9_compare : MOK mX9_compare 4 := ⟨(wA_t 1001 rfl rfl), (wA_t 10 (by decide +kernel) rfl), by decide +kernel, by decide +kernel, by decide⟩
set_option maxRecDepth 20000 in
theorem okX9_findOrder : MOK mX9_findOrder 2 := ⟨(wA_t 997 rfl rfl), (wA_t 10 (by decide +kernel) rfl), by decide +kernel, by decide +kernel, by decide⟩
set_option maxRecDepth 20000 in
theorem okX9_putParts : MOK mX9_putParts 4 := ⟨(wA_t 1005 rfl rfl), (wA_t 10 (by decide +kernel) rfl), by decide +kernel, by decide +kernel, by decide⟩
set_option maxRecDepth 20000 in
theorem okX9_putAll : MOK mX9_putAll 5 := ⟨(wA_t 977 rfl rfl), (wA_t 10 (by decide +kernel) rfl), by decide +kernel, by decide +kernel, by decide⟩
set_option maxRecDepth 20000 in
theorem okX9_putPayment : MOK mX9_putPayment 3 := ⟨(wA_t 973 rfl rfl), (wA_t 10 (by decide +kernel) rfl), by decide +kernel, by decide +kernel, by decide⟩
set_option maxRecDepth 20000 in
theorem okX9_goDay : MOK mX9_goDay 2 := ⟨(wA_t 964 rfl rfl), (wA_t 10 (by decide +kernel) rfl), by decide +kernel, by decide +kernel, by decide⟩
set_option maxRecDepth 20000 in
theorem okX9_goTo : MOK mX9_goTo 2 := ⟨(wA_t 956 rfl rfl), (wA_t 10 (by decide +kernel) rfl), by decide +kernel, by decide +kernel, by decide⟩
set_option maxRecDepth 20000 in
theorem okX9_owedNow : MOK mX9_owedNow 0 := ⟨(wA_t 1017 rfl rfl), (wA_t 10 (by decide +kernel) rfl), by decide +kernel, by decide +kernel, by decide⟩
set_option maxRecDepth 20000 in
theorem okX9_owedOn : MOK mX9_owedOn 2 := ⟨(wA_t 1013 rfl rfl), (wA_t 10 (by decide +kernel) rfl), by decide +kernel, by decide +kernel, by decide⟩
set_option maxRecDepth 20000 in
theorem okX9_left : MOK mX9_left 4 := ⟨(wA_t 951 rfl rfl), (wA_t 10 (by decide +kernel) rfl), by decide +kernel, by decide +kernel, by decide⟩
set_option maxRecDepth 20000 in
theorem okX9_owed : MOK mX9_owed 2 := ⟨(wA_t 1009 rfl rfl), (wA_t 10 (by decide +kernel) rfl), by decide +kernel, by decide +kernel, by decide⟩
set_option maxRecDepth 20000 in
theorem okX9_put : MOK mX9_put 4 := ⟨(wA_t 1021 rfl rfl), (wA_t 10 (by decide +kernel) rfl), by decide +kernel, by decide +kernel, by decide⟩
set_option maxRecDepth 20000 in
theorem okX9_paid : MOK mX9_paid 2 := ⟨(wA_t 1025 rfl rfl), (wA_t 10 (by decide +kernel) rfl), by decide +kernel, by decide +kernel, by decide⟩
set_option maxRecDepth 20000 in
theorem okX9_dead : MOK mX9_dead 3 := ⟨(wA_t 1029 rfl rfl), (wA_t 10 (by decide +kernel) rfl), by decide +kernel, by decide +kernel, by decide⟩
set_option maxRecDepth 20000 in
theorem okX9_wakes : MOK mX9_wakes 2 := ⟨(wA_t 1033 rfl rfl), (wA_t 10 (by decide +kernel) rfl), by decide +kernel, by decide +kernel, by decide⟩
set_option maxRecDepth 20000 in
theorem okX9_free : MOK mX9_free 2 := ⟨(wA_t 1037 rfl rfl), (wA_t 10 (by decide +kernel) rfl), by decide +kernel, by decide +kernel, by decide⟩
set_option maxRecDepth 20000 in
theorem okX9_rank : MOK mX9_rank 3 := ⟨(wA_t 1041 rfl rfl), (wA_t 10 (by decide +kernel) rfl), by decide +kernel, by decide +kernel, by decide⟩
set_option maxRecDepth 20000 in
theorem okX9_findWords : MOK mX9_findWords 3 := ⟨(wA_t 1049 rfl rfl), (wA_t 10 (by decide +kernel) rfl), by decide +kernel, by decide +kernel, by decide⟩
set_option maxRecDepth 20000 in
theorem okX9_best : MOK mX9_best 4 := ⟨(wA_t 1045 rfl rfl), (wA_t 10 (by decide +kernel) rfl), by decide +kernel, by decide +kernel, by decide⟩
set_option maxRecDepth 20000 in
theorem okX9_least : MOK mX9_least 3 := ⟨(wA_t 1053 rfl rfl), (wA_t 10 (by decide +kernel) rfl), by decide +kernel, by decide +kernel, by decide⟩
set_option maxRecDepth 20000 in
theorem okX9_answer : MOK mX9_answer 3 := ⟨(wA_t 1058 rfl rfl), (wA_t 10 (by decide +kernel) rfl), by decide +kernel, by decide +kernel, by decide⟩
set_option maxRecDepth 20000 in
theorem okX9_hangs : MOK mX9_hangs 6 := ⟨(wA_t 1062 rfl rfl), (wA_t 10 (by decide +kernel) rfl), by decide +kernel, by decide +kernel, by decide⟩
set_option maxRecDepth 20000 in
theorem okX9_plan : MOK mX9_plan 5 := ⟨(wA_t 1066 rfl rfl), (wA_t 10 (by decide +kernel) rfl), by decide +kernel, by decide +kernel, by decide⟩
set_option maxRecDepth 20000 in
theorem okX9_parts : MOK mX9_parts 0 := ⟨(wA_t 1072 rfl rfl), (wA_t 10 (by decide +kernel) rfl), by decide +kernel, by decide +kernel, by decide⟩
set_option maxRecDepth 20000 in
theorem okX9_gap : MOK mX9_gap 1 := ⟨(wA_t 1076 rfl rfl), (wA_t 10 (by decide +kernel) rfl), by decide +kernel, by decide +kernel, by decide⟩
set_option maxRecDepth 20000 in
theorem okX9_carry : MOK mX9_carry 1 := ⟨(wA_t 1085 rfl rfl), (wA_t 10 (by decide +kernel) rfl), by decide +kernel, by decide +kernel, by decide⟩
set_option maxRecDepth 20000 in
theorem okX9_image : MOK mX9_image 0 := ⟨(wA_t 1081 rfl rfl), (wA_t 10 (by decide +kernel) rfl), by decide +kernel, by decide +kernel, by decide⟩
set_option maxRecDepth 20000 in
theorem okX9_restore : MOK mX9_restore 0 := ⟨(wA_t 1089 rfl rfl), (wA_t 10 (by decide +kernel) rfl), by decide +kernel, by decide +kernel, by decide⟩
set_option maxRecDepth 20000 in
theorem okX9_isSheet : MOK mX9_isSheet 2 := ⟨(wA_t 1096 rfl rfl), (wA_t 10 (by decide +kernel) rfl), by decide +kernel, by decide +kernel, by decide⟩
set_option maxRecDepth 20000 in
theorem okX9_sheet : MOK mX9_sheet 3 := ⟨(wA_t 1093 rfl rfl), (wA_t 10 (by decide +kernel) rfl), by decide +kernel, by decide +kernel, by decide⟩
set_option maxRecDepth 20000 in
theorem okX9_drop : MOK mX9_drop 1 := ⟨(wA_t 1100 rfl rfl), (wA_t 10 (by decide +kernel) rfl), by decide +kernel, by decide +kernel, by decide⟩
set_option maxRecDepth 20000 in
theorem okX9_lacksRow : MOK mX9_lacksRow 4 := ⟨(wA_t 1108 rfl rfl), (wA_t 10 (by decide +kernel) rfl), by decide +kernel, by decide +kernel, by decide⟩
set_option maxRecDepth 20000 in
theorem okX9_item : MOK mX9_item 4 := ⟨(wA_t 1104 rfl rfl), (wA_t 10 (by decide +kernel) rfl), by decide +kernel, by decide +kernel, by decide⟩
set_option maxRecDepth 20000 in
theorem okX9_pays : MOK mX9_pays 4 := ⟨(wA_t 1112 rfl rfl), (wA_t 10 (by decide +kernel) rfl), by decide +kernel, by decide +kernel, by decide⟩
set_option maxRecDepth 20000 in
theorem okX9_judge : MOK mX9_judge 5 := ⟨(wA_t 1117 rfl rfl), (wA_t 10 (by decide +kernel) rfl), by decide +kernel, by decide +kernel, by decide⟩
set_option maxRecDepth 20000 in
theorem okJ11_isValidCodePoint_9a6ad : MOK mJ11_isValidCodePoint_9a6ad 1 := ⟨(wA_t 479 rfl rfl), (wA_t 16 (by decide +kernel) rfl), by decide +kernel, by decide +kernel, by decide⟩
set_option maxRecDepth 20000 in
theorem okJ11_highSurrogate_5068e : MOK mJ11_highSurrogate_5068e 1 := ⟨(wA_t 482 rfl rfl), (wA_t 16 (by decide +kernel) rfl), by decide +kernel, by decide +kernel, by decide⟩
set_option maxRecDepth 20000 in
theorem okJ11_lowSurrogate_5068e : MOK mJ11_lowSurrogate_5068e 1 := ⟨(wA_t 486 rfl rfl), (wA_t 16 (by decide +kernel) rfl), by decide +kernel, by decide +kernel, by decide⟩
set_option maxRecDepth 20000 in
theorem okJ6_compare_7cf53 : MOK mJ6_compare_7cf53 2 := ⟨(wA_t 600 rfl rfl), (wA_t 19 (by decide +kernel) rfl), by decide +kernel, by decide +kernel, by decide⟩
set_option maxRecDepth 20000 in
theorem okJ13_compare_74951 : MOK mJ13_compare_74951 2 := ⟨(wA_t 607 rfl rfl), (wA_t 20 (by decide +kernel) rfl), by decide +kernel, by decide +kernel, by decide⟩
set_option maxRecDepth 20000 in
theorem okJ0_length_8abf5 : MOK mJ0_length_8abf5 0 := ⟨(wA_t 419 rfl rfl), (wA_t 11 (by decide +kernel) rfl), by decide +kernel, by decide +kernel, by decide⟩
set_option maxRecDepth 20000 in
theorem okJ0_indexOf_0f7a4 : MOK mJ0_indexOf_0f7a4 1 := ⟨(wA_t 405 rfl rfl), (wA_t 11 (by decide +kernel) rfl), by decide +kernel, by decide +kernel, by decide⟩
set_option maxRecDepth 20000 in
theorem okJ0_indexOf_7cf53 : MOK mJ0_indexOf_7cf53 2 := ⟨(wA_t 409 rfl rfl), (wA_t 11 (by decide +kernel) rfl), by decide +kernel, by decide +kernel, by decide⟩
set_option maxRecDepth 20000 in
theorem okJ0_coder_7d493 : MOK mJ0_coder_7d493 0 := ⟨(wA_t 423 rfl rfl), (wA_t 11 (by decide +kernel) rfl), by decide +kernel, by decide +kernel, by decide⟩
set_option maxRecDepth 20000 in
theorem okJ0_isLatin1_aae02 : MOK mJ0_isLatin1_aae02 0 := ⟨(wA_t 413 rfl rfl), (wA_t 11 (by decide +kernel) rfl), by decide +kernel, by decide +kernel, by decide⟩
set_option maxRecDepth 20000 in
theorem okJ0_checkBoundsBeginEnd_23922 : MOK mJ0_checkBoundsBeginEnd_23922 3 := ⟨(wA_t 456 rfl rfl), (wA_t 11 (by decide +kernel) rfl), by decide +kernel, by decide +kernel, by decide⟩
set_option maxRecDepth 20000 in
theorem okJ1_canEncode_9a6ad : MOK mJ1_canEncode_9a6ad 1 := ⟨(wA_t 429 rfl rfl), (wA_t 12 (by decide +kernel) rfl), by decide +kernel, by decide +kernel, by decide⟩
set_option maxRecDepth 20000 in
theorem okJ1_indexOf_4cfef : MOK mJ1_indexOf_4cfef 4 := ⟨(wA_t 426 rfl rfl), (wA_t 12 (by decide +kernel) rfl), by decide +kernel, by decide +kernel, by decide⟩
set_option maxRecDepth 20000 in
theorem okJ1_indexOfChar_4cfef : MOK mJ1_indexOfChar_4cfef 4 := ⟨(wA_t 438 rfl rfl), (wA_t 12 (by decide +kernel) rfl), by decide +kernel, by decide +kernel, by decide⟩
set_option maxRecDepth 20000 in
theorem okJ2_getChar_3b067 : MOK mJ2_getChar_3b067 2 := ⟨(wA_t 467 rfl rfl), (wA_t 14 (by decide +kernel) rfl), by decide +kernel, by decide +kernel, by decide⟩
set_option maxRecDepth 20000 in
theorem okJ2_length_9d52b : MOK mJ2_length_9d52b 1 := ⟨(wA_t 453 rfl rfl), (wA_t 14 (by decide +kernel) rfl), by decide +kernel, by decide +kernel, by decide⟩
set_option maxRecDepth 20000 in
theorem okJ2_indexOf_4cfef : MOK mJ2_indexOf_4cfef 4 := ⟨(wA_t 441 rfl rfl), (wA_t 14 (by decide +kernel) rfl), by decide +kernel, by decide +kernel, by decide⟩
set_option maxRecDepth 20000 in
theorem okJ2_indexOfChar_4cfef : MOK mJ2_indexOfChar_4cfef 4 := ⟨(wA_t 447 rfl rfl), (wA_t 14 (by decide +kernel) rfl), by decide +kernel, by decide +kernel, by decide⟩
set_option maxRecDepth 20000 in
theorem okJ2_indexOfCharUnsafe_4cfef : MOK mJ2_indexOfCharUnsafe_4cfef 4 := ⟨(wA_t 464 rfl rfl), (wA_t 14 (by decide +kernel) rfl), by decide +kernel, by decide +kernel, by decide⟩
set_option maxRecDepth 20000 in
theorem okJ2_indexOfSupplementary_4cfef : MOK mJ2_indexOfSupplementary_4cfef 4 := ⟨(wA_t 476 rfl rfl), (wA_t 14 (by decide +kernel) rfl), by decide +kernel, by decide +kernel, by decide⟩
set_option maxRecDepth 20000 in
theorem okJ2_checkBoundsBeginEnd_d044e : MOK mJ2_checkBoundsBeginEnd_d044e 3 := ⟨(wA_t 450 rfl rfl), (wA_t 14 (by decide +kernel) rfl), by decide +kernel, by decide +kernel, by decide⟩
set_option maxRecDepth 20000 in
theorem okJ7_fill_d0a16 : MOK mJ7_fill_d0a16 2 := ⟨(wA_t 575 rfl rfl), (wA_t 18 (by decide +kernel) rfl), by decide +kernel, by decide +kernel, by decide⟩
set_option maxRecDepth 20000 in
theorem okJ7_fill_53178 : MOK mJ7_fill_53178 2 := ⟨(wA_t 684 rfl rfl), (wA_t 18 (by decide +kernel) rfl), by decide +kernel, by decide +kernel, by decide⟩
set_option maxRecDepth 20000 in
theorem okJ3_checkFromToIndex_8c36e : MOK mJ3_checkFromToIndex_8c36e 4 := ⟨(wA_t 461 rfl rfl), (wA_t 15 (by decide +kernel) rfl), by decide +kernel, by decide +kernel, by decide⟩
theorem ow_i : Cond.instanceMethod Lib.objectInit ∈ wA := (wA_t 27 (by decide +kernel) rfl)
theorem ow_c : Cond.code Lib.objectInit ⟨#[0xb1]⟩ 1 none ∈ wA := (wA_t 28 rfl rfl)
theorem lo_X0_3 : Cond.methodLink RX0 3 Lib.objectInit ∈ wA := (wA_t 34 (by decide +kernel) rfl)
theorem cl_X0_9 : Cond.classLink RX0 9 RX2 ∈ wA := (wA_t 35 (by decide +kernel) rfl)
theorem fo_X0_11 : FO RX0 11 0 0 := ⟨RX0, TX0, 5, rfl, by decide, wX0, (wA_t 112 (by decide +kernel) rfl)⟩
theorem fp_X0_11 : FP RX0 11 0 0 (.array (.object "PaidDebts$Debt")) true := ⟨RX0, TX0, 5, tyX0, rfl, by decide, wX0, (wA_t 112 (by decide +kernel) rfl), tyX0_ok, nmX0, rfl, by decide +kernel, fun _ => by decide +kernel⟩
theorem fo_X0_17 : FO RX0 17 0 1 := ⟨RX0, TX0, 5, rfl, by decide, wX0, (wA_t 115 (by decide +kernel) rfl)⟩
theorem fp_X0_17 : FP RX0 17 0 1 .int false := ⟨RX0, TX0, 5, tyX0, rfl, by decide, wX0, (wA_t 115 (by decide +kernel) rfl), tyX0_ok, nmX0, rfl, by decide +kernel, fun h => by cases h⟩
theorem cl_X0_21 : Cond.classLink RX0 21 RX4 ∈ wA := (wA_t 37 (by decide +kernel) rfl)
theorem fo_X0_23 : FO RX0 23 0 2 := ⟨RX0, TX0, 5, rfl, by decide, wX0, (wA_t 119 (by decide +kernel) rfl)⟩
theorem fp_X0_23 : FP RX0 23 0 2 (.array (.object "PaidDebts$Payment")) true := ⟨RX0, TX0, 5, tyX0, rfl, by decide, wX0, (wA_t 119 (by decide +kernel) rfl), tyX0_ok, nmX0, rfl, by decide +kernel, fun _ => by decide +kernel⟩
theorem fo_X0_27 : FO RX0 27 0 3 := ⟨RX0, TX0, 5, rfl, by decide, wX0, (wA_t 123 (by decide +kernel) rfl)⟩
theorem fp_X0_27 : FP RX0 27 0 3 .int false := ⟨RX0, TX0, 5, tyX0, rfl, by decide, wX0, (wA_t 123 (by decide +kernel) rfl), tyX0_ok, nmX0, rfl, by decide +kernel, fun h => by cases h⟩
theorem cl_X0_30 : Cond.classLink RX0 30 RX3 ∈ wA := (wA_t 39 (by decide +kernel) rfl)
theorem fo_X0_32 : FO RX0 32 0 4 := ⟨RX0, TX0, 5, rfl, by decide, wX0, (wA_t 126 (by decide +kernel) rfl)⟩
theorem fp_X0_32 : FP RX0 32 0 4 (.array (.object "PaidDebts$Law")) true := ⟨RX0, TX0, 5, tyX0, rfl, by decide, wX0, (wA_t 126 (by decide +kernel) rfl), tyX0_ok, nmX0, rfl, by decide +kernel, fun _ => by decide +kernel⟩
theorem no_X0_9 : NO RX0 9 2 [.int 0, .int 0, .null] := ⟨RX2, TX2, 3, tyX2, rfl, wX2, tyX2_ok, (wA_t 35 (by decide +kernel) rfl), (wA_t 41 (by decide +kernel) rfl), (wA_t 3 (by decide +kernel) rfl), by decide +kernel, rfl⟩
theorem lk_X0_36 : LKN RX0 36 mX2_init 0 := ⟨okX2_init, ⟨RX8, by decide +kernel⟩, (wA_t 43 (by decide +kernel) rfl), rfl, rfl⟩
theorem no_X0_21 : NO RX0 21 4 [.int 0, .int 0, .int 0, .int 0] := ⟨RX4, TX4, 4, tyX4, rfl, wX4, tyX4_ok, (wA_t 37 (by decide +kernel) rfl), (wA_t 62 (by decide +kernel) rfl), (wA_t 4 (by decide +kernel) rfl), by decide +kernel, rfl⟩
theorem lk_X0_37 : LKN RX0 37 mX4_init 0 := ⟨okX4_init, ⟨RX8, by decide +kernel⟩, (wA_t 64 (by decide +kernel) rfl), rfl, rfl⟩
theorem no_X0_30 : NO RX0 30 3 [.null, .int 0, .int 0] := ⟨RX3, TX3, 3, tyX3, rfl, wX3, tyX3_ok, (wA_t 39 (by decide +kernel) rfl), (wA_t 93 (by decide +kernel) rfl), (wA_t 5 (by decide +kernel) rfl), by decide +kernel, rfl⟩
theorem lk_X0_38 : LKN RX0 38 mX3_init 0 := ⟨okX3_init, ⟨RX8, by decide +kernel⟩, (wA_t 95 (by decide +kernel) rfl), rfl, rfl⟩
theorem fo_X0_39 : FO RX0 39 4 0 := ⟨RX4, TX4, 4, rfl, by decide, wX4, (wA_t 68 (by decide +kernel) rfl)⟩
theorem fp_X0_39 : FP RX0 39 4 0 .int false := ⟨RX4, TX4, 4, tyX4, rfl, by decide, wX4, (wA_t 68 (by decide +kernel) rfl), tyX4_ok, nmX4, rfl, by decide +kernel, fun h => by cases h⟩
theorem fo_X0_42 : FO RX0 42 4 1 := ⟨RX4, TX4, 4, rfl, by decide, wX4, (wA_t 73 (by decide +kernel) rfl)⟩
theorem fp_X0_42 : FP RX0 42 4 1 .int false := ⟨RX4, TX4, 4, tyX4, rfl, by decide, wX4, (wA_t 73 (by decide +kernel) rfl), tyX4_ok, nmX4, rfl, by decide +kernel, fun h => by cases h⟩
theorem fo_X0_45 : FO RX0 45 4 2 := ⟨RX4, TX4, 4, rfl, by decide, wX4, (wA_t 76 (by decide +kernel) rfl)⟩
theorem fp_X0_45 : FP RX0 45 4 2 .int false := ⟨RX4, TX4, 4, tyX4, rfl, by decide, wX4, (wA_t 76 (by decide +kernel) rfl), tyX4_ok, nmX4, rfl, by decide +kernel, fun h => by cases h⟩
theorem fo_X0_48 : FO RX0 48 4 3 := ⟨RX4, TX4, 4, rfl, by decide, wX4, (wA_t 81 (by decide +kernel) rfl)⟩
theorem fp_X0_48 : FP RX0 48 4 3 .int false := ⟨RX4, TX4, 4, tyX4, rfl, by decide, wX4, (wA_t 81 (by decide +kernel) rfl), tyX4_ok, nmX4, rfl, by decide +kernel, fun h => by cases h⟩
theorem fo_X0_51 : FO RX0 51 2 2 := ⟨RX2, TX2, 3, rfl, by decide, wX2, (wA_t 51 (by decide +kernel) rfl)⟩
theorem lk_X0_55 : LKV RX0 55 mX2_copyFrom 1 := ⟨okX2_copyFrom, (wA_t 518 (by decide +kernel) rfl), (wA_t 519 (by decide +kernel) rfl), (wA_t 520 (by decide +kernel) rfl)⟩
theorem lk_X0_59 : LKV RX0 59 mX4_copyFrom 1 := ⟨okX4_copyFrom, (wA_t 525 (by decide +kernel) rfl), (wA_t 526 (by decide +kernel) rfl), (wA_t 527 (by decide +kernel) rfl)⟩
theorem lk_X0_62 : LKV RX0 62 mX3_copyFrom 1 := ⟨okX3_copyFrom, (wA_t 529 (by decide +kernel) rfl), (wA_t 530 (by decide +kernel) rfl), (wA_t 531 (by decide +kernel) rfl)⟩
theorem lo_X1_3 : Cond.methodLink RX1 3 Lib.objectInit ∈ wA := (wA_t 145 (by decide +kernel) rfl)
theorem no_X1_9 : NO RX1 9 0 [.null, .int 0, .null, .int 0, .null] := ⟨RX0, TX0, 5, tyX0, rfl, wX0, tyX0_ok, (wA_t 146 (by decide +kernel) rfl), (wA_t 30 (by decide +kernel) rfl), (wA_t 2 (by decide +kernel) rfl), by decide +kernel, rfl⟩
theorem lk_X1_11 : LKI RX1 11 mX0_init 0 := ⟨okX0_init, (wA_t 147 (by decide +kernel) rfl), (wA_t 32 (by decide +kernel) rfl), rfl, rfl⟩
theorem fo_X1_12 : FO RX1 12 1 0 := ⟨RX1, TX1, 14, rfl, by decide, wX1, (wA_t 150 (by decide +kernel) rfl)⟩
theorem fp_X1_12 : FP RX1 12 1 0 (.object "PaidDebts$Book") true := ⟨RX1, TX1, 14, tyX1, rfl, by decide, wX1, (wA_t 150 (by decide +kernel) rfl), tyX1_ok, nmX1, rfl, by decide +kernel, fun _ => by decide +kernel⟩
theorem no_X1_18 : NO RX1 18 3 [.null, .int 0, .int 0] := ⟨RX3, TX3, 3, tyX3, rfl, wX3, tyX3_ok, (wA_t 148 (by decide +kernel) rfl), (wA_t 93 (by decide +kernel) rfl), (wA_t 5 (by decide +kernel) rfl), by decide +kernel, rfl⟩
theorem lk_X1_20 : LKN RX1 20 mX3_init 0 := ⟨okX3_init, ⟨RX8, by decide +kernel⟩, (wA_t 95 (by decide +kernel) rfl), rfl, rfl⟩
theorem fo_X1_21 : FO RX1 21 1 1 := ⟨RX1, TX1, 14, rfl, by decide, wX1, (wA_t 153 (by decide +kernel) rfl)⟩
theorem fp_X1_21 : FP RX1 21 1 1 (.object "PaidDebts$Law") true := ⟨RX1, TX1, 14, tyX1, rfl, by decide, wX1, (wA_t 153 (by decide +kernel) rfl), tyX1_ok, nmX1, rfl, by decide +kernel, fun _ => by decide +kernel⟩
theorem fo_X1_25 : FO RX1 25 1 2 := ⟨RX1, TX1, 14, rfl, by decide, wX1, (wA_t 154 (by decide +kernel) rfl)⟩
theorem fp_X1_25 : FP RX1 25 1 2 .int false := ⟨RX1, TX1, 14, tyX1, rfl, by decide, wX1, (wA_t 154 (by decide +kernel) rfl), tyX1_ok, nmX1, rfl, by decide +kernel, fun h => by cases h⟩
theorem fo_X1_29 : FO RX1 29 1 3 := ⟨RX1, TX1, 14, rfl, by decide, wX1, (wA_t 155 (by decide +kernel) rfl)⟩
theorem fp_X1_29 : FP RX1 29 1 3 .int false := ⟨RX1, TX1, 14, tyX1, rfl, by decide, wX1, (wA_t 155 (by decide +kernel) rfl), tyX1_ok, nmX1, rfl, by decide +kernel, fun h => by cases h⟩
theorem fo_X1_32 : FO RX1 32 1 4 := ⟨RX1, TX1, 14, rfl, by decide, wX1, (wA_t 156 (by decide +kernel) rfl)⟩
theorem fp_X1_32 : FP RX1 32 1 4 (.array .long) true := ⟨RX1, TX1, 14, tyX1, rfl, by decide, wX1, (wA_t 156 (by decide +kernel) rfl), tyX1_ok, nmX1, rfl, by decide +kernel, fun _ => by decide +kernel⟩
theorem fo_X1_36 : FO RX1 36 1 5 := ⟨RX1, TX1, 14, rfl, by decide, wX1, (wA_t 157 (by decide +kernel) rfl)⟩
theorem fp_X1_36 : FP RX1 36 1 5 (.array .long) true := ⟨RX1, TX1, 14, tyX1, rfl, by decide, wX1, (wA_t 157 (by decide +kernel) rfl), tyX1_ok, nmX1, rfl, by decide +kernel, fun _ => by decide +kernel⟩
theorem fo_X1_39 : FO RX1 39 1 6 := ⟨RX1, TX1, 14, rfl, by decide, wX1, (wA_t 158 (by decide +kernel) rfl)⟩
theorem fp_X1_39 : FP RX1 39 1 6 (.array .int) true := ⟨RX1, TX1, 14, tyX1, rfl, by decide, wX1, (wA_t 158 (by decide +kernel) rfl), tyX1_ok, nmX1, rfl, by decide +kernel, fun _ => by decide +kernel⟩
theorem fo_X1_43 : FO RX1 43 1 7 := ⟨RX1, TX1, 14, rfl, by decide, wX1, (wA_t 159 (by decide +kernel) rfl)⟩
theorem fp_X1_43 : FP RX1 43 1 7 (.array .int) true := ⟨RX1, TX1, 14, tyX1, rfl, by decide, wX1, (wA_t 159 (by decide +kernel) rfl), tyX1_ok, nmX1, rfl, by decide +kernel, fun _ => by decide +kernel⟩
theorem fo_X1_46 : FO RX1 46 1 8 := ⟨RX1, TX1, 14, rfl, by decide, wX1, (wA_t 161 (by decide +kernel) rfl)⟩
theorem fp_X1_46 : FP RX1 46 1 8 (.array .int) true := ⟨RX1, TX1, 14, tyX1, rfl, by decide, wX1, (wA_t 161 (by decide +kernel) rfl), tyX1_ok, nmX1, rfl, by decide +kernel, fun _ => by decide +kernel⟩
theorem fo_X1_49 : FO RX1 49 1 9 := ⟨RX1, TX1, 14, rfl, by decide, wX1, (wA_t 163 (by decide +kernel) rfl)⟩
theorem fp_X1_49 : FP RX1 49 1 9 (.array .boolean) true := ⟨RX1, TX1, 14, tyX1, rfl, by decide, wX1, (wA_t 163 (by decide +kernel) rfl), tyX1_ok, nmX1, rfl, by decide +kernel, fun _ => by decide +kernel⟩
theorem fo_X1_53 : FO RX1 53 1 10 := ⟨RX1, TX1, 14, rfl, by decide, wX1, (wA_t 165 (by decide +kernel) rfl)⟩
theorem fp_X1_53 : FP RX1 53 1 10 (.array .int) true := ⟨RX1, TX1, 14, tyX1, rfl, by decide, wX1, (wA_t 165 (by decide +kernel) rfl), tyX1_ok, nmX1, rfl, by decide +kernel, fun _ => by decide +kernel⟩
theorem fo_X1_56 : FO RX1 56 1 11 := ⟨RX1, TX1, 14, rfl, by decide, wX1, (wA_t 167 (by decide +kernel) rfl)⟩
theorem fp_X1_56 : FP RX1 56 1 11 (.array .long) true := ⟨RX1, TX1, 14, tyX1, rfl, by decide, wX1, (wA_t 167 (by decide +kernel) rfl), tyX1_ok, nmX1, rfl, by decide +kernel, fun _ => by decide +kernel⟩
theorem fo_X1_59 : FO RX1 59 1 12 := ⟨RX1, TX1, 14, rfl, by decide, wX1, (wA_t 169 (by decide +kernel) rfl)⟩
theorem fp_X1_59 : FP RX1 59 1 12 (.array .long) true := ⟨RX1, TX1, 14, tyX1, rfl, by decide, wX1, (wA_t 169 (by decide +kernel) rfl), tyX1_ok, nmX1, rfl, by decide +kernel, fun _ => by decide +kernel⟩
theorem fo_X1_62 : FO RX1 62 1 13 := ⟨RX1, TX1, 14, rfl, by decide, wX1, (wA_t 171 (by decide +kernel) rfl)⟩
theorem fp_X1_62 : FP RX1 62 1 13 .long false := ⟨RX1, TX1, 14, tyX1, rfl, by decide, wX1, (wA_t 171 (by decide +kernel) rfl), tyX1_ok, nmX1, rfl, by decide +kernel, fun h => by cases h⟩
theorem lk_X1_66 : LKV RX1 66 mX0_copyFrom 1 := ⟨okX0_copyFrom, (wA_t 514 (by decide +kernel) rfl), (wA_t 515 (by decide +kernel) rfl), (wA_t 516 (by decide +kernel) rfl)⟩
theorem fo_X1_70 : FO RX1 70 0 4 := ⟨RX0, TX0, 5, rfl, by decide, wX0, (wA_t 127 (by decide +kernel) rfl)⟩
theorem lk_X1_74 : LKV RX1 74 mX3_copyFrom 1 := ⟨okX3_copyFrom, (wA_t 534 (by decide +kernel) rfl), (wA_t 530 (by decide +kernel) rfl), (wA_t 531 (by decide +kernel) rfl)⟩
theorem fo_X1_77 : FO RX1 77 0 1 := ⟨RX0, TX0, 5, rfl, by decide, wX0, (wA_t 117 (by decide +kernel) rfl)⟩
theorem fo_X1_80 : FO RX1 80 0 0 := ⟨RX0, TX0, 5, rfl, by decide, wX0, (wA_t 114 (by decide +kernel) rfl)⟩
theorem fo_X1_84 : FO RX1 84 2 0 := ⟨RX2, TX2, 3, rfl, by decide, wX2, (wA_t 47 (by decide +kernel) rfl)⟩
theorem kl_X1_89 : Cond.constantLong RX1 89 (lI (10000)) ∈ wA := (wA_t 535 (by decide +kernel) rfl)
theorem lc_X1_91 : LKC RX1 91 := ⟨(wA_t 711 (by decide +kernel) rfl), (wA_t 524 (by decide +kernel) rfl), (wA_t 523 (by decide +kernel) rfl), (wA_t 17 (by decide +kernel) rfl)⟩
theorem lk_X1_97 : LKV RX1 97 mX1_goBehind 1 := ⟨okX1_goBehind, (wA_t 658 (by decide +kernel) rfl), (wA_t 537 (by decide +kernel) rfl), (wA_t 538 (by decide +kernel) rfl)⟩
theorem lk_X1_101 : LKV RX1 101 mX1_runTo 1 := ⟨okX1_runTo, (wA_t 548 (by decide +kernel) rfl), (wA_t 549 (by decide +kernel) rfl), (wA_t 550 (by decide +kernel) rfl)⟩
theorem lk_X1_104 : LKV RX1 104 mX1_nextPayment 1 := ⟨okX1_nextPayment, (wA_t 540 (by decide +kernel) rfl), (wA_t 541 (by decide +kernel) rfl), (wA_t 542 (by decide +kernel) rfl)⟩
theorem lk_X1_108 : LKV RX1 108 mX1_take 1 := ⟨okX1_take, (wA_t 544 (by decide +kernel) rfl), (wA_t 545 (by decide +kernel) rfl), (wA_t 546 (by decide +kernel) rfl)⟩
theorem fo_X1_111 : FO RX1 111 0 3 := ⟨RX0, TX0, 5, rfl, by decide, wX0, (wA_t 125 (by decide +kernel) rfl)⟩
theorem fo_X1_114 : FO RX1 114 0 2 := ⟨RX0, TX0, 5, rfl, by decide, wX0, (wA_t 122 (by decide +kernel) rfl)⟩
theorem fo_X1_118 : FO RX1 118 4 0 := ⟨RX4, TX4, 4, rfl, by decide, wX4, (wA_t 71 (by decide +kernel) rfl)⟩
theorem fo_X1_121 : FO RX1 121 4 1 := ⟨RX4, TX4, 4, rfl, by decide, wX4, (wA_t 74 (by decide +kernel) rfl)⟩
theorem lk_X1_122 : LKV RX1 122 mX1_chosenDebt 1 := ⟨okX1_chosenDebt, (wA_t 557 (by decide +kernel) rfl), (wA_t 559 (by decide +kernel) rfl), (wA_s 5 (by decide +kernel) rfl)⟩
theorem lk_X1_126 : LKV RX1 126 mX1_distribute 2 := ⟨okX1_distribute, (wA_t 569 (by decide +kernel) rfl), (wA_t 570 (by decide +kernel) rfl), (wA_t 571 (by decide +kernel) rfl)⟩
theorem fo_X1_130 : FO RX1 130 2 1 := ⟨RX2, TX2, 3, rfl, by decide, wX2, (wA_t 49 (by decide +kernel) rfl)⟩
theorem lmx_X1_133 : Cond.methodLink RX1 133 Lib.Math.max.name ∈ wA := (wA_t 552 (by decide +kernel) rfl)
theorem lk_X1_139 : LKV RX1 139 mX1_runOn 2 := ⟨okX1_runOn, (wA_t 553 (by decide +kernel) rfl), (wA_t 555 (by decide +kernel) rfl), (wA_s 4 (by decide +kernel) rfl)⟩
theorem fo_X1_143 : FO RX1 143 2 2 := ⟨RX2, TX2, 3, rfl, by decide, wX2, (wA_t 53 (by decide +kernel) rfl)⟩
theorem lk_X1_146 : LKV RX1 146 mX1_sumLeft 1 := ⟨okX1_sumLeft, (wA_t 624 (by decide +kernel) rfl), (wA_t 613 (by decide +kernel) rfl), (wA_t 614 (by decide +kernel) rfl)⟩
theorem lk_X1_150 : LKV RX1 150 mX1_runLeft 1 := ⟨okX1_runLeft, (wA_t 625 (by decide +kernel) rfl), (wA_t 617 (by decide +kernel) rfl), (wA_t 618 (by decide +kernel) rfl)⟩
theorem lk_X1_153 : LKV RX1 153 mX1_leftOf 1 := ⟨okX1_leftOf, (wA_t 634 (by decide +kernel) rfl), (wA_t 621 (by decide +kernel) rfl), (wA_t 622 (by decide +kernel) rfl)⟩
theorem lk_X1_156 : LKV RX1 156 mX1_isOpen 1 := ⟨okX1_isOpen, (wA_t 565 (by decide +kernel) rfl), (wA_t 566 (by decide +kernel) rfl), (wA_t 567 (by decide +kernel) rfl)⟩
theorem lk_X1_160 : LKV RX1 160 mX3_has 1 := ⟨okX3_has, (wA_t 561 (by decide +kernel) rfl), (wA_t 562 (by decide +kernel) rfl), (wA_t 563 (by decide +kernel) rfl)⟩
theorem lk_X1_163 : LKV RX1 163 mX1_compareByKeys 2 := ⟨okX1_compareByKeys, (wA_t 591 (by decide +kernel) rfl), (wA_t 593 (by decide +kernel) rfl), (wA_s 7 (by decide +kernel) rfl)⟩
theorem fo_X1_166 : FO RX1 166 3 1 := ⟨RX3, TX3, 3, rfl, by decide, wX3, (wA_t 103 (by decide +kernel) rfl)⟩
theorem fo_X1_169 : FO RX1 169 3 0 := ⟨RX3, TX3, 3, rfl, by decide, wX3, (wA_t 100 (by decide +kernel) rfl)⟩
theorem lk_X1_172 : LKS RX1 172 mX1_firstIf 2 := ⟨okX1_firstIf, (wA_t 595 (by decide +kernel) rfl), (wA_t 596 (by decide +kernel) rfl)⟩
theorem lk_X1_176 : LKS RX1 176 mJ6_compare_7cf53 2 := ⟨okJ6_compare_7cf53, (wA_t 598 (by decide +kernel) rfl), (wA_t 599 (by decide +kernel) rfl)⟩
theorem lk_X1_181 : LKV RX1 181 mX2_isSecured 0 := ⟨okX2_isSecured, (wA_t 601 (by decide +kernel) rfl), (wA_t 602 (by decide +kernel) rfl), (wA_t 603 (by decide +kernel) rfl)⟩
theorem lk_X1_185 : LKS RX1 185 mJ13_compare_74951 2 := ⟨okJ13_compare_74951, (wA_t 605 (by decide +kernel) rfl), (wA_t 606 (by decide +kernel) rfl)⟩
theorem fo_X1_190 : FO RX1 190 4 2 := ⟨RX4, TX4, 4, rfl, by decide, wX4, (wA_t 79 (by decide +kernel) rfl)⟩
theorem fo_X1_193 : FO RX1 193 4 3 := ⟨RX4, TX4, 4, rfl, by decide, wX4, (wA_t 83 (by decide +kernel) rfl)⟩
theorem lk_X1_196 : LKS RX1 196 mJ7_fill_d0a16 2 := ⟨okJ7_fill_d0a16, (wA_t 573 (by decide +kernel) rfl), (wA_t 574 (by decide +kernel) rfl)⟩
theorem lk_X1_202 : LKV RX1 202 mX1_findDead 0 := ⟨okX1_findDead, (wA_t 576 (by decide +kernel) rfl), (wA_t 577 (by decide +kernel) rfl), (wA_t 578 (by decide +kernel) rfl)⟩
theorem lk_X1_205 : LKV RX1 205 mX1_give 2 := ⟨okX1_give, (wA_t 580 (by decide +kernel) rfl), (wA_t 582 (by decide +kernel) rfl), (wA_s 6 (by decide +kernel) rfl)⟩
theorem lk_X1_209 : LKV RX1 209 mX1_orderOpen 0 := ⟨okX1_orderOpen, (wA_t 587 (by decide +kernel) rfl), (wA_t 588 (by decide +kernel) rfl), (wA_t 589 (by decide +kernel) rfl)⟩
theorem lk_X1_213 : LKV RX1 213 mX1_share 3 := ⟨okX1_share, (wA_t 608 (by decide +kernel) rfl), (wA_t 610 (by decide +kernel) rfl), (wA_s 8 (by decide +kernel) rfl)⟩
theorem lln_X1_217 : Cond.methodLink RX1 217 Lib.MathLoose.min_long.x ∈ wA := (wA_t 584 (by decide +kernel) rfl)
theorem lo_X2_3 : Cond.methodLink RX2 3 Lib.objectInit ∈ wA := (wA_t 45 (by decide +kernel) rfl)
theorem fo_X2_9 : FO RX2 9 2 2 := ⟨RX2, TX2, 3, rfl, by decide, wX2, (wA_t 50 (by decide +kernel) rfl)⟩
theorem fp_X2_9 : FP RX2 9 2 2 (.array .int) true := ⟨RX2, TX2, 3, tyX2, rfl, by decide, wX2, (wA_t 50 (by decide +kernel) rfl), tyX2_ok, nmX2, rfl, by decide +kernel, fun _ => by decide +kernel⟩
theorem fo_X2_15 : FO RX2 15 2 0 := ⟨RX2, TX2, 3, rfl, by decide, wX2, (wA_t 46 (by decide +kernel) rfl)⟩
theorem fp_X2_15 : FP RX2 15 2 0 .int false := ⟨RX2, TX2, 3, tyX2, rfl, by decide, wX2, (wA_t 46 (by decide +kernel) rfl), tyX2_ok, nmX2, rfl, by decide +kernel, fun h => by cases h⟩
theorem fo_X2_19 : FO RX2 19 2 1 := ⟨RX2, TX2, 3, rfl, by decide, wX2, (wA_t 48 (by decide +kernel) rfl)⟩
theorem fp_X2_19 : FP RX2 19 2 1 .int false := ⟨RX2, TX2, 3, tyX2, rfl, by decide, wX2, (wA_t 48 (by decide +kernel) rfl), tyX2_ok, nmX2, rfl, by decide +kernel, fun h => by cases h⟩
theorem lc_X2_22 : LKC RX2 22 := ⟨(wA_t 522 (by decide +kernel) rfl), (wA_t 524 (by decide +kernel) rfl), (wA_t 523 (by decide +kernel) rfl), (wA_t 17 (by decide +kernel) rfl)⟩
theorem lo_X3_3 : Cond.methodLink RX3 3 Lib.objectInit ∈ wA := (wA_t 97 (by decide +kernel) rfl)
theorem fo_X3_9 : FO RX3 9 3 0 := ⟨RX3, TX3, 3, rfl, by decide, wX3, (wA_t 98 (by decide +kernel) rfl)⟩
theorem fp_X3_9 : FP RX3 9 3 0 (.array .int) true := ⟨RX3, TX3, 3, tyX3, rfl, by decide, wX3, (wA_t 98 (by decide +kernel) rfl), tyX3_ok, nmX3, rfl, by decide +kernel, fun _ => by decide +kernel⟩
theorem fo_X3_15 : FO RX3 15 3 1 := ⟨RX3, TX3, 3, rfl, by decide, wX3, (wA_t 101 (by decide +kernel) rfl)⟩
theorem fp_X3_15 : FP RX3 15 3 1 .int false := ⟨RX3, TX3, 3, tyX3, rfl, by decide, wX3, (wA_t 101 (by decide +kernel) rfl), tyX3_ok, nmX3, rfl, by decide +kernel, fun h => by cases h⟩
theorem fo_X3_19 : FO RX3 19 3 2 := ⟨RX3, TX3, 3, rfl, by decide, wX3, (wA_t 104 (by decide +kernel) rfl)⟩
theorem fp_X3_19 : FP RX3 19 3 2 .int false := ⟨RX3, TX3, 3, tyX3, rfl, by decide, wX3, (wA_t 104 (by decide +kernel) rfl), tyX3_ok, nmX3, rfl, by decide +kernel, fun h => by cases h⟩
theorem fo_X3_22 : FO RX3 22 6 1 := ⟨RX6, TX6, 2, rfl, by decide, wX6, (wA_t 246 (by decide +kernel) rfl)⟩
theorem fo_X3_25 : FO RX3 25 6 0 := ⟨RX6, TX6, 2, rfl, by decide, wX6, (wA_t 244 (by decide +kernel) rfl)⟩
theorem lk_X3_28 : LKS RX3 28 mX3_bitOf 1 := ⟨okX3_bitOf, (wA_t 495 (by decide +kernel) rfl), (wA_t 489 (by decide +kernel) rfl)⟩
theorem lc_X3_32 : LKC RX3 32 := ⟨(wA_t 533 (by decide +kernel) rfl), (wA_t 524 (by decide +kernel) rfl), (wA_t 523 (by decide +kernel) rfl), (wA_t 17 (by decide +kernel) rfl)⟩
theorem lo_X4_3 : Cond.methodLink RX4 3 Lib.objectInit ∈ wA := (wA_t 66 (by decide +kernel) rfl)
theorem fo_X4_9 : FO RX4 9 4 2 := ⟨RX4, TX4, 4, rfl, by decide, wX4, (wA_t 75 (by decide +kernel) rfl)⟩
theorem fp_X4_9 : FP RX4 9 4 2 .int false := ⟨RX4, TX4, 4, tyX4, rfl, by decide, wX4, (wA_t 75 (by decide +kernel) rfl), tyX4_ok, nmX4, rfl, by decide +kernel, fun h => by cases h⟩
theorem fo_X4_15 : FO RX4 15 4 3 := ⟨RX4, TX4, 4, rfl, by decide, wX4, (wA_t 80 (by decide +kernel) rfl)⟩
theorem fp_X4_15 : FP RX4 15 4 3 .int false := ⟨RX4, TX4, 4, tyX4, rfl, by decide, wX4, (wA_t 80 (by decide +kernel) rfl), tyX4_ok, nmX4, rfl, by decide +kernel, fun h => by cases h⟩
theorem fo_X4_18 : FO RX4 18 4 0 := ⟨RX4, TX4, 4, rfl, by decide, wX4, (wA_t 67 (by decide +kernel) rfl)⟩
theorem fp_X4_18 : FP RX4 18 4 0 .int false := ⟨RX4, TX4, 4, tyX4, rfl, by decide, wX4, (wA_t 67 (by decide +kernel) rfl), tyX4_ok, nmX4, rfl, by decide +kernel, fun h => by cases h⟩
theorem fo_X4_21 : FO RX4 21 4 1 := ⟨RX4, TX4, 4, rfl, by decide, wX4, (wA_t 72 (by decide +kernel) rfl)⟩
theorem fp_X4_21 : FP RX4 21 4 1 .int false := ⟨RX4, TX4, 4, tyX4, rfl, by decide, wX4, (wA_t 72 (by decide +kernel) rfl), tyX4_ok, nmX4, rfl, by decide +kernel, fun h => by cases h⟩
theorem lo_X5_3 : Cond.methodLink RX5 3 Lib.objectInit ∈ wA := (wA_t 259 (by decide +kernel) rfl)
theorem fo_X5_9 : FO RX5 9 5 0 := ⟨RX5, TX5, 4, rfl, by decide, wX5, (wA_t 260 (by decide +kernel) rfl)⟩
theorem fp_X5_9 : FP RX5 9 5 0 .boolean false := ⟨RX5, TX5, 4, tyX5, rfl, by decide, wX5, (wA_t 260 (by decide +kernel) rfl), tyX5_ok, nmX5, rfl, by decide +kernel, fun h => by cases h⟩
theorem fo_X5_15 : FO RX5 15 5 1 := ⟨RX5, TX5, 4, rfl, by decide, wX5, (wA_t 262 (by decide +kernel) rfl)⟩
theorem fp_X5_15 : FP RX5 15 5 1 .int false := ⟨RX5, TX5, 4, tyX5, rfl, by decide, wX5, (wA_t 262 (by decide +kernel) rfl), tyX5_ok, nmX5, rfl, by decide +kernel, fun h => by cases h⟩
theorem fo_X5_19 : FO RX5 19 5 2 := ⟨RX5, TX5, 4, rfl, by decide, wX5, (wA_t 264 (by decide +kernel) rfl)⟩
theorem fp_X5_19 : FP RX5 19 5 2 (.array .int) true := ⟨RX5, TX5, 4, tyX5, rfl, by decide, wX5, (wA_t 264 (by decide +kernel) rfl), tyX5_ok, nmX5, rfl, by decide +kernel, fun _ => by decide +kernel⟩
theorem fo_X5_23 : FO RX5 23 5 3 := ⟨RX5, TX5, 4, rfl, by decide, wX5, (wA_t 266 (by decide +kernel) rfl)⟩
theorem fp_X5_23 : FP RX5 23 5 3 .int false := ⟨RX5, TX5, 4, tyX5, rfl, by decide, wX5, (wA_t 266 (by decide +kernel) rfl), tyX5_ok, nmX5, rfl, by decide +kernel, fun h => by cases h⟩
theorem lk_X5_26 : LKS RX5 26 mJ7_fill_53178 2 := ⟨okJ7_fill_53178, (wA_t 771 (by decide +kernel) rfl), (wA_t 683 (by decide +kernel) rfl)⟩
theorem lo_X6_3 : Cond.methodLink RX6 3 Lib.objectInit ∈ wA := (wA_t 242 (by decide +kernel) rfl)
theorem fo_X6_9 : FO RX6 9 6 0 := ⟨RX6, TX6, 2, rfl, by decide, wX6, (wA_t 243 (by decide +kernel) rfl)⟩
theorem fp_X6_9 : FP RX6 9 6 0 (.array .int) true := ⟨RX6, TX6, 2, tyX6, rfl, by decide, wX6, (wA_t 243 (by decide +kernel) rfl), tyX6_ok, nmX6, rfl, by decide +kernel, fun _ => by decide +kernel⟩
theorem fo_X6_15 : FO RX6 15 6 1 := ⟨RX6, TX6, 2, rfl, by decide, wX6, (wA_t 245 (by decide +kernel) rfl)⟩
theorem fp_X6_15 : FP RX6 15 6 1 .int false := ⟨RX6, TX6, 2, tyX6, rfl, by decide, wX6, (wA_t 245 (by decide +kernel) rfl), tyX6_ok, nmX6, rfl, by decide +kernel, fun h => by cases h⟩
theorem lk_X6_21 : LKV RX6 21 mJ0_indexOf_0f7a4 1 := ⟨okJ0_indexOf_0f7a4, (wA_t 402 (by decide +kernel) rfl), (wA_t 403 (by decide +kernel) rfl), (wA_t 404 (by decide +kernel) rfl)⟩
theorem lk_X6_27 : LKS RX6 27 mX3_bitOf 1 := ⟨okX3_bitOf, (wA_t 488 (by decide +kernel) rfl), (wA_t 489 (by decide +kernel) rfl)⟩
theorem lo_X7_3 : Cond.methodLink RX7 3 Lib.objectInit ∈ wA := (wA_t 209 (by decide +kernel) rfl)
theorem fo_X7_9 : FO RX7 9 7 0 := ⟨RX7, TX7, 7, rfl, by decide, wX7, (wA_t 213 (by decide +kernel) rfl)⟩
theorem fp_X7_9 : FP RX7 9 7 0 (.array .int) true := ⟨RX7, TX7, 7, tyX7, rfl, by decide, wX7, (wA_t 213 (by decide +kernel) rfl), tyX7_ok, nmX7, rfl, by decide +kernel, fun _ => by decide +kernel⟩
theorem fo_X7_15 : FO RX7 15 7 1 := ⟨RX7, TX7, 7, rfl, by decide, wX7, (wA_t 215 (by decide +kernel) rfl)⟩
theorem fp_X7_15 : FP RX7 15 7 1 .long false := ⟨RX7, TX7, 7, tyX7, rfl, by decide, wX7, (wA_t 215 (by decide +kernel) rfl), tyX7_ok, nmX7, rfl, by decide +kernel, fun h => by cases h⟩
theorem fo_X7_19 : FO RX7 19 7 2 := ⟨RX7, TX7, 7, rfl, by decide, wX7, (wA_t 217 (by decide +kernel) rfl)⟩
theorem fp_X7_19 : FP RX7 19 7 2 .boolean false := ⟨RX7, TX7, 7, tyX7, rfl, by decide, wX7, (wA_t 217 (by decide +kernel) rfl), tyX7_ok, nmX7, rfl, by decide +kernel, fun h => by cases h⟩
theorem fo_X7_23 : FO RX7 23 7 3 := ⟨RX7, TX7, 7, rfl, by decide, wX7, (wA_t 218 (by decide +kernel) rfl)⟩
theorem fp_X7_23 : FP RX7 23 7 3 (.array .int) true := ⟨RX7, TX7, 7, tyX7, rfl, by decide, wX7, (wA_t 218 (by decide +kernel) rfl), tyX7_ok, nmX7, rfl, by decide +kernel, fun _ => by decide +kernel⟩
theorem cl_X7_26 : Cond.classLink RX7 26 RX1 ∈ wA := (wA_t 210 (by decide +kernel) rfl)
theorem fo_X7_28 : FO RX7 28 7 4 := ⟨RX7, TX7, 7, rfl, by decide, wX7, (wA_t 219 (by decide +kernel) rfl)⟩
theorem fp_X7_28 : FP RX7 28 7 4 (.array (.object "PaidDebts$Course")) true := ⟨RX7, TX7, 7, tyX7, rfl, by decide, wX7, (wA_t 219 (by decide +kernel) rfl), tyX7_ok, nmX7, rfl, by decide +kernel, fun _ => by decide +kernel⟩
theorem fo_X7_32 : FO RX7 32 7 5 := ⟨RX7, TX7, 7, rfl, by decide, wX7, (wA_t 220 (by decide +kernel) rfl)⟩
theorem fp_X7_32 : FP RX7 32 7 5 .int false := ⟨RX7, TX7, 7, tyX7, rfl, by decide, wX7, (wA_t 220 (by decide +kernel) rfl), tyX7_ok, nmX7, rfl, by decide +kernel, fun h => by cases h⟩
theorem fo_X7_36 : FO RX7 36 7 6 := ⟨RX7, TX7, 7, rfl, by decide, wX7, (wA_t 221 (by decide +kernel) rfl)⟩
theorem fp_X7_36 : FP RX7 36 7 6 .int false := ⟨RX7, TX7, 7, tyX7, rfl, by decide, wX7, (wA_t 221 (by decide +kernel) rfl), tyX7_ok, nmX7, rfl, by decide +kernel, fun h => by cases h⟩
theorem no_X7_26 : NO RX7 26 1 [.null, .null, .int 0, .int 0, .null, .null, .null, .null, .null, .null, .null, .null, .null, .long 0] := ⟨RX1, TX1, 14, tyX1, rfl, wX1, tyX1_ok, (wA_t 210 (by decide +kernel) rfl), (wA_t 141 (by decide +kernel) rfl), (wA_t 6 (by decide +kernel) rfl), by decide +kernel, rfl⟩
theorem lk_X7_39 : LKN RX7 39 mX1_init 0 := ⟨okX1_init, ⟨RX8, by decide +kernel⟩, (wA_t 143 (by decide +kernel) rfl), rfl, rfl⟩
theorem lk_X7_40 : LKS RX7 40 mJ7_fill_53178 2 := ⟨okJ7_fill_53178, (wA_t 682 (by decide +kernel) rfl), (wA_t 683 (by decide +kernel) rfl)⟩
theorem lk_X7_46 : LKV RX7 46 mX1_start 2 := ⟨okX1_start, (wA_t 685 (by decide +kernel) rfl), (wA_t 511 (by decide +kernel) rfl), (wA_t 512 (by decide +kernel) rfl)⟩
theorem lk_X7_50 : LKV RX7 50 mX7_tryFrom 1 := ⟨okX7_tryFrom, (wA_t 686 (by decide +kernel) rfl), (wA_t 688 (by decide +kernel) rfl), (wA_s 9 (by decide +kernel) rfl)⟩
theorem lk_X7_54 : LKV RX7 54 mX1_nextPayment 1 := ⟨okX1_nextPayment, (wA_t 690 (by decide +kernel) rfl), (wA_t 541 (by decide +kernel) rfl), (wA_t 542 (by decide +kernel) rfl)⟩
theorem lk_X7_58 : LKV RX7 58 mX1_take 1 := ⟨okX1_take, (wA_t 691 (by decide +kernel) rfl), (wA_t 545 (by decide +kernel) rfl), (wA_t 546 (by decide +kernel) rfl)⟩
theorem lk_X7_61 : LKV RX7 61 mX1_runTo 1 := ⟨okX1_runTo, (wA_t 692 (by decide +kernel) rfl), (wA_t 549 (by decide +kernel) rfl), (wA_t 550 (by decide +kernel) rfl)⟩
theorem lk_X7_64 : LKV RX7 64 mX1_owedNow 0 := ⟨okX1_owedNow, (wA_t 693 (by decide +kernel) rfl), (wA_t 631 (by decide +kernel) rfl), (wA_t 632 (by decide +kernel) rfl)⟩
theorem lk_X7_68 : LKV RX7 68 mX7_weigh 1 := ⟨okX7_weigh, (wA_t 694 (by decide +kernel) rfl), (wA_t 696 (by decide +kernel) rfl), (wA_s 10 (by decide +kernel) rfl)⟩
theorem fo_X7_72 : FO RX7 72 1 0 := ⟨RX1, TX1, 14, rfl, by decide, wX1, (wA_t 151 (by decide +kernel) rfl)⟩
theorem fo_X7_76 : FO RX7 76 0 2 := ⟨RX0, TX0, 5, rfl, by decide, wX0, (wA_t 120 (by decide +kernel) rfl)⟩
theorem fo_X7_82 : FO RX7 82 4 0 := ⟨RX4, TX4, 4, rfl, by decide, wX4, (wA_t 69 (by decide +kernel) rfl)⟩
theorem fo_X7_85 : FO RX7 85 0 1 := ⟨RX0, TX0, 5, rfl, by decide, wX0, (wA_t 118 (by decide +kernel) rfl)⟩
theorem lk_X7_88 : LKV RX7 88 mX1_heedsWord 1 := ⟨okX1_heedsWord, (wA_t 703 (by decide +kernel) rfl), (wA_t 704 (by decide +kernel) rfl), (wA_t 705 (by decide +kernel) rfl)⟩
theorem lk_X7_92 : LKV RX7 92 mX1_standWith 1 := ⟨okX1_standWith, (wA_t 707 (by decide +kernel) rfl), (wA_t 708 (by decide +kernel) rfl), (wA_t 709 (by decide +kernel) rfl)⟩
theorem fo_X7_96 : FO RX7 96 4 2 := ⟨RX4, TX4, 4, rfl, by decide, wX4, (wA_t 77 (by decide +kernel) rfl)⟩
theorem fp_X7_96 : FP RX7 96 4 2 .int false := ⟨RX4, TX4, 4, tyX4, rfl, by decide, wX4, (wA_t 77 (by decide +kernel) rfl), tyX4_ok, nmX4, rfl, by decide +kernel, fun h => by cases h⟩
theorem lk_X7_99 : LKV RX7 99 mX7_isTriedAhead 0 := ⟨okX7_isTriedAhead, (wA_t 698 (by decide +kernel) rfl), (wA_t 700 (by decide +kernel) rfl), (wA_s 11 (by decide +kernel) rfl)⟩
theorem lc_X7_103 : LKC RX7 103 := ⟨(wA_t 702 (by decide +kernel) rfl), (wA_t 524 (by decide +kernel) rfl), (wA_t 523 (by decide +kernel) rfl), (wA_t 17 (by decide +kernel) rfl)⟩
theorem lo_X8_1 : Cond.methodLink RX8 1 Lib.objectInit ∈ wA := (wA_t 26 (by decide +kernel) rfl)
theorem no_X8_7 : NO RX8 7 0 [.null, .int 0, .null, .int 0, .null] := ⟨RX0, TX0, 5, tyX0, rfl, wX0, tyX0_ok, (wA_t 29 (by decide +kernel) rfl), (wA_t 30 (by decide +kernel) rfl), (wA_t 2 (by decide +kernel) rfl), by decide +kernel, rfl⟩
theorem lk_X8_9 : LKI RX8 9 mX0_init 0 := ⟨okX0_init, (wA_t 31 (by decide +kernel) rfl), (wA_t 32 (by decide +kernel) rfl), rfl, rfl⟩
theorem fo_X8_10 : FO RX8 10 8 0 := ⟨RX8, TX8, 8, rfl, by decide, wX8, (wA_t 276 (by decide +kernel) rfl)⟩
theorem fp_X8_10 : FP RX8 10 8 0 (.object "PaidDebts$Book") true := ⟨RX8, TX8, 8, tyX8, rfl, by decide, wX8, (wA_t 276 (by decide +kernel) rfl), tyX8_ok, nmX8, rfl, by decide +kernel, fun _ => by decide +kernel⟩
theorem fo_X8_16 : FO RX8 16 8 1 := ⟨RX8, TX8, 8, rfl, by decide, wX8, (wA_t 277 (by decide +kernel) rfl)⟩
theorem fp_X8_16 : FP RX8 16 8 1 (.object "PaidDebts$Book") true := ⟨RX8, TX8, 8, tyX8, rfl, by decide, wX8, (wA_t 277 (by decide +kernel) rfl), tyX8_ok, nmX8, rfl, by decide +kernel, fun _ => by decide +kernel⟩
theorem fo_X8_19 : FO RX8 19 8 2 := ⟨RX8, TX8, 8, rfl, by decide, wX8, (wA_t 278 (by decide +kernel) rfl)⟩
theorem fp_X8_19 : FP RX8 19 8 2 .boolean false := ⟨RX8, TX8, 8, tyX8, rfl, by decide, wX8, (wA_t 278 (by decide +kernel) rfl), tyX8_ok, nmX8, rfl, by decide +kernel, fun h => by cases h⟩
theorem no_X8_23 : NO RX8 23 1 [.null, .null, .int 0, .int 0, .null, .null, .null, .null, .null, .null, .null, .null, .null, .long 0] := ⟨RX1, TX1, 14, tyX1, rfl, wX1, tyX1_ok, (wA_t 140 (by decide +kernel) rfl), (wA_t 141 (by decide +kernel) rfl), (wA_t 6 (by decide +kernel) rfl), by decide +kernel, rfl⟩
theorem lk_X8_25 : LKN RX8 25 mX1_init 0 := ⟨okX1_init, ⟨RX8, by decide +kernel⟩, (wA_t 143 (by decide +kernel) rfl), rfl, rfl⟩
theorem fo_X8_26 : FO RX8 26 8 3 := ⟨RX8, TX8, 8, rfl, by decide, wX8, (wA_t 279 (by decide +kernel) rfl)⟩
theorem fp_X8_26 : FP RX8 26 8 3 (.object "PaidDebts$Course") true := ⟨RX8, TX8, 8, tyX8, rfl, by decide, wX8, (wA_t 279 (by decide +kernel) rfl), tyX8_ok, nmX8, rfl, by decide +kernel, fun _ => by decide +kernel⟩
theorem fo_X8_30 : FO RX8 30 8 4 := ⟨RX8, TX8, 8, rfl, by decide, wX8, (wA_t 280 (by decide +kernel) rfl)⟩
theorem fp_X8_30 : FP RX8 30 8 4 (.object "PaidDebts$Course") true := ⟨RX8, TX8, 8, tyX8, rfl, by decide, wX8, (wA_t 280 (by decide +kernel) rfl), tyX8_ok, nmX8, rfl, by decide +kernel, fun _ => by decide +kernel⟩
theorem no_X8_33 : NO RX8 33 7 [.null, .long 0, .int 0, .null, .null, .int 0, .int 0] := ⟨RX7, TX7, 7, tyX7, rfl, wX7, tyX7_ok, (wA_t 204 (by decide +kernel) rfl), (wA_t 205 (by decide +kernel) rfl), (wA_t 7 (by decide +kernel) rfl), by decide +kernel, rfl⟩
theorem lk_X8_35 : LKI RX8 35 mX7_init 0 := ⟨okX7_init, (wA_t 206 (by decide +kernel) rfl), (wA_t 207 (by decide +kernel) rfl), rfl, rfl⟩
theorem fo_X8_36 : FO RX8 36 8 5 := ⟨RX8, TX8, 8, rfl, by decide, wX8, (wA_t 281 (by decide +kernel) rfl)⟩
theorem fp_X8_36 : FP RX8 36 8 5 (.object "PaidDebts$WordSearch") true := ⟨RX8, TX8, 8, tyX8, rfl, by decide, wX8, (wA_t 281 (by decide +kernel) rfl), tyX8_ok, nmX8, rfl, by decide +kernel, fun _ => by decide +kernel⟩
theorem no_X8_40 : NO RX8 40 6 [.null, .int 0] := ⟨RX6, TX6, 2, tyX6, rfl, wX6, tyX6_ok, (wA_t 237 (by decide +kernel) rfl), (wA_t 238 (by decide +kernel) rfl), (wA_t 8 (by decide +kernel) rfl), by decide +kernel, rfl⟩
theorem lk_X8_42 : LKN RX8 42 mX6_init 0 := ⟨okX6_init, ⟨RX8, by decide +kernel⟩, (wA_t 240 (by decide +kernel) rfl), rfl, rfl⟩
theorem fo_X8_43 : FO RX8 43 8 6 := ⟨RX8, TX8, 8, rfl, by decide, wX8, (wA_t 282 (by decide +kernel) rfl)⟩
theorem fp_X8_43 : FP RX8 43 8 6 (.object "PaidDebts$Tape") true := ⟨RX8, TX8, 8, tyX8, rfl, by decide, wX8, (wA_t 282 (by decide +kernel) rfl), tyX8_ok, nmX8, rfl, by decide +kernel, fun _ => by decide +kernel⟩
theorem cl_X8_47 : Cond.classLink RX8 47 RX5 ∈ wA := (wA_t 253 (by decide +kernel) rfl)
theorem fo_X8_49 : FO RX8 49 8 7 := ⟨RX8, TX8, 8, rfl, by decide, wX8, (wA_t 283 (by decide +kernel) rfl)⟩
theorem fp_X8_49 : FP RX8 49 8 7 (.array (.object "PaidDebts$Sheet")) true := ⟨RX8, TX8, 8, tyX8, rfl, by decide, wX8, (wA_t 283 (by decide +kernel) rfl), tyX8_ok, nmX8, rfl, by decide +kernel, fun _ => by decide +kernel⟩
theorem no_X8_47 : NO RX8 47 5 [.int 0, .int 0, .null, .int 0] := ⟨RX5, TX5, 4, tyX5, rfl, wX5, tyX5_ok, (wA_t 253 (by decide +kernel) rfl), (wA_t 255 (by decide +kernel) rfl), (wA_t 9 (by decide +kernel) rfl), by decide +kernel, rfl⟩
theorem lk_X8_53 : LKN RX8 53 mX5_init 0 := ⟨okX5_init, ⟨RX8, by decide +kernel⟩, (wA_t 257 (by decide +kernel) rfl), rfl, rfl⟩
theorem lk_X8_54 : LKS RX8 54 mX8_within 3 := ⟨okX8_within, (wA_t 305 (by decide +kernel) rfl), (wA_t 306 (by decide +kernel) rfl)⟩
theorem lk_X8_58 : LKS RX8 58 mX8_isDay 1 := ⟨okX8_isDay, (wA_t 308 (by decide +kernel) rfl), (wA_t 309 (by decide +kernel) rfl)⟩
theorem fo_X8_62 : FO RX8 62 0 1 := ⟨RX0, TX0, 5, rfl, by decide, wX0, (wA_t 116 (by decide +kernel) rfl)⟩
theorem fo_X8_66 : FO RX8 66 0 0 := ⟨RX0, TX0, 5, rfl, by decide, wX0, (wA_t 113 (by decide +kernel) rfl)⟩
theorem lk_X8_70 : LKV RX8 70 mX2_begin 4 := ⟨okX2_begin, (wA_t 311 (by decide +kernel) rfl), (wA_t 312 (by decide +kernel) rfl), (wA_t 313 (by decide +kernel) rfl)⟩
theorem fp_X8_62 : FP RX8 62 0 1 .int false := ⟨RX0, TX0, 5, tyX0, rfl, by decide, wX0, (wA_t 116 (by decide +kernel) rfl), tyX0_ok, nmX0, rfl, by decide +kernel, fun h => by cases h⟩
theorem lk_X8_76 : LKV RX8 76 mX8_isDebt 1 := ⟨okX8_isDebt, (wA_t 319 (by decide +kernel) rfl), (wA_t 321 (by decide +kernel) rfl), (wA_s 0 (by decide +kernel) rfl)⟩
theorem fo_X8_86 : FO RX8 86 2 2 := ⟨RX2, TX2, 3, rfl, by decide, wX2, (wA_t 52 (by decide +kernel) rfl)⟩
theorem lk_X8_89 : LKS RX8 89 mX8_isPayable 2 := ⟨okX8_isPayable, (wA_t 331 (by decide +kernel) rfl), (wA_t 332 (by decide +kernel) rfl)⟩
theorem fo_X8_93 : FO RX8 93 0 3 := ⟨RX0, TX0, 5, rfl, by decide, wX0, (wA_t 124 (by decide +kernel) rfl)⟩
theorem lk_X8_96 : LKV RX8 96 mX0_addPayment 2 := ⟨okX0_addPayment, (wA_t 334 (by decide +kernel) rfl), (wA_t 335 (by decide +kernel) rfl), (wA_t 336 (by decide +kernel) rfl)⟩
theorem lk_X8_100 : LKS RX8 100 mX8_isSheet 1 := ⟨okX8_isSheet, (wA_t 342 (by decide +kernel) rfl), (wA_t 343 (by decide +kernel) rfl)⟩
theorem lk_X8_103 : LKS RX8 103 mX8_isLane 1 := ⟨okX8_isLane, (wA_t 345 (by decide +kernel) rfl), (wA_t 346 (by decide +kernel) rfl)⟩
theorem lk_X8_106 : LKV RX8 106 mX5_refusal 3 := ⟨okX5_refusal, (wA_t 348 (by decide +kernel) rfl), (wA_t 349 (by decide +kernel) rfl), (wA_t 350 (by decide +kernel) rfl)⟩
theorem fo_X8_110 : FO RX8 110 5 2 := ⟨RX5, TX5, 4, rfl, by decide, wX5, (wA_t 265 (by decide +kernel) rfl)⟩
theorem lk_X8_113 : LKV RX8 113 mX8_isPayment 1 := ⟨okX8_isPayment, (wA_t 356 (by decide +kernel) rfl), (wA_t 358 (by decide +kernel) rfl), (wA_s 1 (by decide +kernel) rfl)⟩
theorem lk_X8_116 : LKV RX8 116 mX8_isDebtOrNone 1 := ⟨okX8_isDebtOrNone, (wA_t 360 (by decide +kernel) rfl), (wA_t 362 (by decide +kernel) rfl), (wA_s 2 (by decide +kernel) rfl)⟩
theorem fo_X8_119 : FO RX8 119 0 2 := ⟨RX0, TX0, 5, rfl, by decide, wX0, (wA_t 121 (by decide +kernel) rfl)⟩
theorem fo_X8_123 : FO RX8 123 4 2 := ⟨RX4, TX4, 4, rfl, by decide, wX4, (wA_t 78 (by decide +kernel) rfl)⟩
theorem fo_X8_128 : FO RX8 128 4 3 := ⟨RX4, TX4, 4, rfl, by decide, wX4, (wA_t 82 (by decide +kernel) rfl)⟩
theorem fp_X8_123 : FP RX8 123 4 2 .int false := ⟨RX4, TX4, 4, tyX4, rfl, by decide, wX4, (wA_t 78 (by decide +kernel) rfl), tyX4_ok, nmX4, rfl, by decide +kernel, fun h => by cases h⟩
theorem fp_X8_128 : FP RX8 128 4 3 .int false := ⟨RX4, TX4, 4, tyX4, rfl, by decide, wX4, (wA_t 82 (by decide +kernel) rfl), tyX4_ok, nmX4, rfl, by decide +kernel, fun h => by cases h⟩
theorem fo_X8_131 : FO RX8 131 4 0 := ⟨RX4, TX4, 4, rfl, by decide, wX4, (wA_t 70 (by decide +kernel) rfl)⟩
theorem fp_X8_131 : FP RX8 131 4 0 .int false := ⟨RX4, TX4, 4, tyX4, rfl, by decide, wX4, (wA_t 70 (by decide +kernel) rfl), tyX4_ok, nmX4, rfl, by decide +kernel, fun h => by cases h⟩
theorem lk_X8_134 : LKV RX8 134 mX0_debtsWithAtLeast 2 := ⟨okX0_debtsWithAtLeast, (wA_t 372 (by decide +kernel) rfl), (wA_t 373 (by decide +kernel) rfl), (wA_t 374 (by decide +kernel) rfl)⟩
theorem lk_X8_138 : LKS RX8 138 mX8_allSigns 2 := ⟨okX8_allSigns, (wA_t 380 (by decide +kernel) rfl), (wA_t 381 (by decide +kernel) rfl)⟩
theorem fo_X8_142 : FO RX8 142 6 1 := ⟨RX6, TX6, 2, rfl, by decide, wX6, (wA_t 247 (by decide +kernel) rfl)⟩
theorem lk_X8_145 : LKS RX8 145 mX8_byteOf 2 := ⟨okX8_byteOf, (wA_t 383 (by decide +kernel) rfl), (wA_t 384 (by decide +kernel) rfl)⟩
theorem lk_X8_149 : LKV RX8 149 mX6_append 1 := ⟨okX6_append, (wA_t 386 (by decide +kernel) rfl), (wA_t 387 (by decide +kernel) rfl), (wA_t 388 (by decide +kernel) rfl)⟩
theorem lk_X8_153 : LKS RX8 153 mX8_isLaw 1 := ⟨okX8_isLaw, (wA_t 394 (by decide +kernel) rfl), (wA_t 395 (by decide +kernel) rfl)⟩
theorem lk_X8_156 : LKV RX8 156 mX6_fault 0 := ⟨okX6_fault, (wA_t 397 (by decide +kernel) rfl), (wA_t 398 (by decide +kernel) rfl), (wA_t 399 (by decide +kernel) rfl)⟩
theorem fo_X8_160 : FO RX8 160 0 4 := ⟨RX0, TX0, 5, rfl, by decide, wX0, (wA_t 128 (by decide +kernel) rfl)⟩
theorem lk_X8_164 : LKV RX8 164 mX3_read 1 := ⟨okX3_read, (wA_t 491 (by decide +kernel) rfl), (wA_t 492 (by decide +kernel) rfl), (wA_t 493 (by decide +kernel) rfl)⟩
theorem fp_X8_142 : FP RX8 142 6 1 .int false := ⟨RX6, TX6, 2, tyX6, rfl, by decide, wX6, (wA_t 247 (by decide +kernel) rfl), tyX6_ok, nmX6, rfl, by decide +kernel, fun h => by cases h⟩
theorem fo_X8_170 : FO RX8 170 3 1 := ⟨RX3, TX3, 3, rfl, by decide, wX3, (wA_t 102 (by decide +kernel) rfl)⟩
theorem fo_X8_171 : FO RX8 171 3 0 := ⟨RX3, TX3, 3, rfl, by decide, wX3, (wA_t 99 (by decide +kernel) rfl)⟩
theorem kl_X8_174 : Cond.constantLong RX8 174 (lI (-1)) ∈ wA := (wA_t 505 (by decide +kernel) rfl)
theorem lk_X8_176 : LKV RX8 176 mX8_goBehind 2 := ⟨okX8_goBehind, (wA_t 506 (by decide +kernel) rfl), (wA_t 508 (by decide +kernel) rfl), (wA_s 3 (by decide +kernel) rfl)⟩
theorem lk_X8_179 : LKV RX8 179 mX1_sumLeft 1 := ⟨okX1_sumLeft, (wA_t 612 (by decide +kernel) rfl), (wA_t 613 (by decide +kernel) rfl), (wA_t 614 (by decide +kernel) rfl)⟩
theorem lk_X8_183 : LKV RX8 183 mX1_runLeft 1 := ⟨okX1_runLeft, (wA_t 616 (by decide +kernel) rfl), (wA_t 617 (by decide +kernel) rfl), (wA_t 618 (by decide +kernel) rfl)⟩
theorem lk_X8_186 : LKV RX8 186 mX1_leftOf 1 := ⟨okX1_leftOf, (wA_t 620 (by decide +kernel) rfl), (wA_t 621 (by decide +kernel) rfl), (wA_t 622 (by decide +kernel) rfl)⟩
theorem lk_X8_189 : LKV RX8 189 mX1_owedNow 0 := ⟨okX1_owedNow, (wA_t 630 (by decide +kernel) rfl), (wA_t 631 (by decide +kernel) rfl), (wA_t 632 (by decide +kernel) rfl)⟩
theorem lk_X8_193 : LKV RX8 193 mX1_start 2 := ⟨okX1_start, (wA_t 510 (by decide +kernel) rfl), (wA_t 511 (by decide +kernel) rfl), (wA_t 512 (by decide +kernel) rfl)⟩
theorem lk_X8_197 : LKV RX8 197 mX1_takeUpTo 1 := ⟨okX1_takeUpTo, (wA_t 639 (by decide +kernel) rfl), (wA_t 640 (by decide +kernel) rfl), (wA_t 641 (by decide +kernel) rfl)⟩
theorem fo_X8_200 : FO RX8 200 1 13 := ⟨RX1, TX1, 14, rfl, by decide, wX1, (wA_t 172 (by decide +kernel) rfl)⟩
theorem fo_X8_204 : FO RX8 204 1 11 := ⟨RX1, TX1, 14, rfl, by decide, wX1, (wA_t 168 (by decide +kernel) rfl)⟩
theorem fo_X8_208 : FO RX8 208 1 12 := ⟨RX1, TX1, 14, rfl, by decide, wX1, (wA_t 170 (by decide +kernel) rfl)⟩
theorem fo_X8_211 : FO RX8 211 1 7 := ⟨RX1, TX1, 14, rfl, by decide, wX1, (wA_t 160 (by decide +kernel) rfl)⟩
theorem lk_X8_214 : LKS RX8 214 mX8_dayOrNone 1 := ⟨okX8_dayOrNone, (wA_t 647 (by decide +kernel) rfl), (wA_t 648 (by decide +kernel) rfl)⟩
theorem lk_X8_218 : LKV RX8 218 mX1_goAheadOf 1 := ⟨okX1_goAheadOf, (wA_t 654 (by decide +kernel) rfl), (wA_t 655 (by decide +kernel) rfl), (wA_t 656 (by decide +kernel) rfl)⟩
theorem lk_X8_221 : LKV RX8 221 mX1_findDead 0 := ⟨okX1_findDead, (wA_t 659 (by decide +kernel) rfl), (wA_t 577 (by decide +kernel) rfl), (wA_t 578 (by decide +kernel) rfl)⟩
theorem fo_X8_224 : FO RX8 224 1 9 := ⟨RX1, TX1, 14, rfl, by decide, wX1, (wA_t 164 (by decide +kernel) rfl)⟩
theorem fo_X8_228 : FO RX8 228 1 8 := ⟨RX1, TX1, 14, rfl, by decide, wX1, (wA_t 162 (by decide +kernel) rfl)⟩
theorem lmx_X8_231 : Cond.methodLink RX8 231 Lib.Math.max.name ∈ wA := (wA_t 668 (by decide +kernel) rfl)
theorem lk_X8_236 : LKV RX8 236 mX1_orderOpen 0 := ⟨okX1_orderOpen, (wA_t 673 (by decide +kernel) rfl), (wA_t 588 (by decide +kernel) rfl), (wA_t 589 (by decide +kernel) rfl)⟩
theorem fo_X8_239 : FO RX8 239 1 10 := ⟨RX1, TX1, 14, rfl, by decide, wX1, (wA_t 166 (by decide +kernel) rfl)⟩
theorem lk_X8_242 : LKV RX8 242 mX7_find 4 := ⟨okX7_find, (wA_t 678 (by decide +kernel) rfl), (wA_t 679 (by decide +kernel) rfl), (wA_t 680 (by decide +kernel) rfl)⟩
theorem fo_X8_246 : FO RX8 246 7 0 := ⟨RX7, TX7, 7, rfl, by decide, wX7, (wA_t 214 (by decide +kernel) rfl)⟩
theorem kl_X8_249 : Cond.constantLong RX8 249 (lI (-2)) ∈ wA := (wA_t 716 (by decide +kernel) rfl)
theorem fo_X8_251 : FO RX8 251 7 1 := ⟨RX7, TX7, 7, rfl, by decide, wX7, (wA_t 216 (by decide +kernel) rfl)⟩
theorem fo_X8_254 : FO RX8 254 1 0 := ⟨RX1, TX1, 14, rfl, by decide, wX1, (wA_t 152 (by decide +kernel) rfl)⟩
theorem lk_X8_255 : LKV RX8 255 mX1_goBehind 1 := ⟨okX1_goBehind, (wA_t 536 (by decide +kernel) rfl), (wA_t 537 (by decide +kernel) rfl), (wA_t 538 (by decide +kernel) rfl)⟩
theorem lmn_X8_257 : Cond.methodLink RX8 257 Lib.Math.min.name ∈ wA := (wA_t 725 (by decide +kernel) rfl)
theorem lln_X8_260 : Cond.methodLink RX8 260 Lib.MathLoose.min_long.x ∈ wA := (wA_t 726 (by decide +kernel) rfl)
theorem llx_X8_263 : Cond.methodLink RX8 263 Lib.MathLoose.max_long.x ∈ wA := (wA_t 727 (by decide +kernel) rfl)
theorem kl_X8_265 : Cond.constantLong RX8 265 (lI (10000)) ∈ wA := (wA_t 734 (by decide +kernel) rfl)
theorem lk_X8_267 : LKV RX8 267 mX1_distribute 2 := ⟨okX1_distribute, (wA_t 735 (by decide +kernel) rfl), (wA_t 570 (by decide +kernel) rfl), (wA_t 571 (by decide +kernel) rfl)⟩
theorem kl_X8_271 : Cond.constantLong RX8 271 (lI (-4)) ∈ wA := (wA_t 736 (by decide +kernel) rfl)
theorem lk_X8_273 : LKV RX8 273 mX1_isLeftAlike 1 := ⟨okX1_isLeftAlike, (wA_t 741 (by decide +kernel) rfl), (wA_t 742 (by decide +kernel) rfl), (wA_t 743 (by decide +kernel) rfl)⟩
theorem kl_X8_277 : Cond.constantLong RX8 277 (lI (-1000000000001)) ∈ wA := (wA_t 749 (by decide +kernel) rfl)
theorem lk_X8_279 : LKV RX8 279 mX0_copyFrom 1 := ⟨okX0_copyFrom, (wA_t 758 (by decide +kernel) rfl), (wA_t 515 (by decide +kernel) rfl), (wA_t 516 (by decide +kernel) rfl)⟩
theorem lk_X8_283 : LKV RX8 283 mX5_begin 2 := ⟨okX5_begin, (wA_t 767 (by decide +kernel) rfl), (wA_t 768 (by decide +kernel) rfl), (wA_t 769 (by decide +kernel) rfl)⟩
theorem fo_X8_285 : FO RX8 285 5 0 := ⟨RX5, TX5, 4, rfl, by decide, wX5, (wA_t 261 (by decide +kernel) rfl)⟩
theorem fp_X8_285 : FP RX8 285 5 0 .boolean false := ⟨RX5, TX5, 4, tyX5, rfl, by decide, wX5, (wA_t 261 (by decide +kernel) rfl), tyX5_ok, nmX5, rfl, by decide +kernel, fun h => by cases h⟩
theorem fo_X8_288 : FO RX8 288 5 1 := ⟨RX5, TX5, 4, rfl, by decide, wX5, (wA_t 263 (by decide +kernel) rfl)⟩
theorem lk_X8_289 : LKV RX8 289 mX5_write 2 := ⟨okX5_write, (wA_t 780 (by decide +kernel) rfl), (wA_t 781 (by decide +kernel) rfl), (wA_t 782 (by decide +kernel) rfl)⟩
theorem lo_X9_1 : Cond.methodLink RX9 1 Lib.objectInit ∈ wA := (wA_t 789 (by decide +kernel) rfl)
theorem fo_X9_7 : FO RX9 7 9 1 := ⟨RX9, TX9, 29, rfl, by decide, wX9, (wA_t 791 (by decide +kernel) rfl)⟩
theorem fp_X9_7 : FP RX9 7 9 1 (.array .int) true := ⟨RX9, TX9, 29, tyX9, rfl, by decide, wX9, (wA_t 791 (by decide +kernel) rfl), tyX9_ok, nmX9, rfl, by decide +kernel, fun _ => by decide +kernel⟩
theorem fo_X9_13 : FO RX9 13 9 3 := ⟨RX9, TX9, 29, rfl, by decide, wX9, (wA_t 793 (by decide +kernel) rfl)⟩
theorem fp_X9_13 : FP RX9 13 9 3 (.array .int) true := ⟨RX9, TX9, 29, tyX9, rfl, by decide, wX9, (wA_t 793 (by decide +kernel) rfl), tyX9_ok, nmX9, rfl, by decide +kernel, fun _ => by decide +kernel⟩
theorem fo_X9_16 : FO RX9 16 9 4 := ⟨RX9, TX9, 29, rfl, by decide, wX9, (wA_t 794 (by decide +kernel) rfl)⟩
theorem fp_X9_16 : FP RX9 16 9 4 (.array .int) true := ⟨RX9, TX9, 29, tyX9, rfl, by decide, wX9, (wA_t 794 (by decide +kernel) rfl), tyX9_ok, nmX9, rfl, by decide +kernel, fun _ => by decide +kernel⟩
theorem fo_X9_19 : FO RX9 19 9 6 := ⟨RX9, TX9, 29, rfl, by decide, wX9, (wA_t 796 (by decide +kernel) rfl)⟩
theorem fp_X9_19 : FP RX9 19 9 6 (.array .int) true := ⟨RX9, TX9, 29, tyX9, rfl, by decide, wX9, (wA_t 796 (by decide +kernel) rfl), tyX9_ok, nmX9, rfl, by decide +kernel, fun _ => by decide +kernel⟩
theorem fo_X9_22 : FO RX9 22 9 7 := ⟨RX9, TX9, 29, rfl, by decide, wX9, (wA_t 797 (by decide +kernel) rfl)⟩
theorem fp_X9_22 : FP RX9 22 9 7 (.array .int) true := ⟨RX9, TX9, 29, tyX9, rfl, by decide, wX9, (wA_t 797 (by decide +kernel) rfl), tyX9_ok, nmX9, rfl, by decide +kernel, fun _ => by decide +kernel⟩
theorem fo_X9_25 : FO RX9 25 9 8 := ⟨RX9, TX9, 29, rfl, by decide, wX9, (wA_t 798 (by decide +kernel) rfl)⟩
theorem fp_X9_25 : FP RX9 25 9 8 (.array .int) true := ⟨RX9, TX9, 29, tyX9, rfl, by decide, wX9, (wA_t 798 (by decide +kernel) rfl), tyX9_ok, nmX9, rfl, by decide +kernel, fun _ => by decide +kernel⟩
theorem fo_X9_28 : FO RX9 28 9 9 := ⟨RX9, TX9, 29, rfl, by decide, wX9, (wA_t 799 (by decide +kernel) rfl)⟩
theorem fp_X9_28 : FP RX9 28 9 9 (.array .long) true := ⟨RX9, TX9, 29, tyX9, rfl, by decide, wX9, (wA_t 799 (by decide +kernel) rfl), tyX9_ok, nmX9, rfl, by decide +kernel, fun _ => by decide +kernel⟩
theorem fo_X9_32 : FO RX9 32 9 10 := ⟨RX9, TX9, 29, rfl, by decide, wX9, (wA_t 800 (by decide +kernel) rfl)⟩
theorem fp_X9_32 : FP RX9 32 9 10 (.array .long) true := ⟨RX9, TX9, 29, tyX9, rfl, by decide, wX9, (wA_t 800 (by decide +kernel) rfl), tyX9_ok, nmX9, rfl, by decide +kernel, fun _ => by decide +kernel⟩
theorem fo_X9_35 : FO RX9 35 9 11 := ⟨RX9, TX9, 29, rfl, by decide, wX9, (wA_t 801 (by decide +kernel) rfl)⟩
theorem fp_X9_35 : FP RX9 35 9 11 (.array .int) true := ⟨RX9, TX9, 29, tyX9, rfl, by decide, wX9, (wA_t 801 (by decide +kernel) rfl), tyX9_ok, nmX9, rfl, by decide +kernel, fun _ => by decide +kernel⟩
theorem fo_X9_38 : FO RX9 38 9 12 := ⟨RX9, TX9, 29, rfl, by decide, wX9, (wA_t 802 (by decide +kernel) rfl)⟩
theorem fp_X9_38 : FP RX9 38 9 12 (.array .int) true := ⟨RX9, TX9, 29, tyX9, rfl, by decide, wX9, (wA_t 802 (by decide +kernel) rfl), tyX9_ok, nmX9, rfl, by decide +kernel, fun _ => by decide +kernel⟩
theorem fo_X9_41 : FO RX9 41 9 13 := ⟨RX9, TX9, 29, rfl, by decide, wX9, (wA_t 803 (by decide +kernel) rfl)⟩
theorem fp_X9_41 : FP RX9 41 9 13 (.array .long) true := ⟨RX9, TX9, 29, tyX9, rfl, by decide, wX9, (wA_t 803 (by decide +kernel) rfl), tyX9_ok, nmX9, rfl, by decide +kernel, fun _ => by decide +kernel⟩
theorem fo_X9_44 : FO RX9 44 9 14 := ⟨RX9, TX9, 29, rfl, by decide, wX9, (wA_t 804 (by decide +kernel) rfl)⟩
theorem fp_X9_44 : FP RX9 44 9 14 (.array .long) true := ⟨RX9, TX9, 29, tyX9, rfl, by decide, wX9, (wA_t 804 (by decide +kernel) rfl), tyX9_ok, nmX9, rfl, by decide +kernel, fun _ => by decide +kernel⟩
theorem fo_X9_47 : FO RX9 47 9 16 := ⟨RX9, TX9, 29, rfl, by decide, wX9, (wA_t 806 (by decide +kernel) rfl)⟩
theorem fp_X9_47 : FP RX9 47 9 16 (.array .boolean) true := ⟨RX9, TX9, 29, tyX9, rfl, by decide, wX9, (wA_t 806 (by decide +kernel) rfl), tyX9_ok, nmX9, rfl, by decide +kernel, fun _ => by decide +kernel⟩
theorem fo_X9_51 : FO RX9 51 9 17 := ⟨RX9, TX9, 29, rfl, by decide, wX9, (wA_t 807 (by decide +kernel) rfl)⟩
theorem fp_X9_51 : FP RX9 51 9 17 (.array .int) true := ⟨RX9, TX9, 29, tyX9, rfl, by decide, wX9, (wA_t 807 (by decide +kernel) rfl), tyX9_ok, nmX9, rfl, by decide +kernel, fun _ => by decide +kernel⟩
theorem fo_X9_54 : FO RX9 54 9 18 := ⟨RX9, TX9, 29, rfl, by decide, wX9, (wA_t 808 (by decide +kernel) rfl)⟩
theorem fp_X9_54 : FP RX9 54 9 18 (.array .long) true := ⟨RX9, TX9, 29, tyX9, rfl, by decide, wX9, (wA_t 808 (by decide +kernel) rfl), tyX9_ok, nmX9, rfl, by decide +kernel, fun _ => by decide +kernel⟩
theorem fo_X9_57 : FO RX9 57 9 19 := ⟨RX9, TX9, 29, rfl, by decide, wX9, (wA_t 809 (by decide +kernel) rfl)⟩
theorem fp_X9_57 : FP RX9 57 9 19 (.array .int) true := ⟨RX9, TX9, 29, tyX9, rfl, by decide, wX9, (wA_t 809 (by decide +kernel) rfl), tyX9_ok, nmX9, rfl, by decide +kernel, fun _ => by decide +kernel⟩
theorem fo_X9_60 : FO RX9 60 9 20 := ⟨RX9, TX9, 29, rfl, by decide, wX9, (wA_t 810 (by decide +kernel) rfl)⟩
theorem fp_X9_60 : FP RX9 60 9 20 (.array .int) true := ⟨RX9, TX9, 29, tyX9, rfl, by decide, wX9, (wA_t 810 (by decide +kernel) rfl), tyX9_ok, nmX9, rfl, by decide +kernel, fun _ => by decide +kernel⟩
theorem fo_X9_63 : FO RX9 63 9 22 := ⟨RX9, TX9, 29, rfl, by decide, wX9, (wA_t 812 (by decide +kernel) rfl)⟩
theorem fp_X9_63 : FP RX9 63 9 22 (.array .int) true := ⟨RX9, TX9, 29, tyX9, rfl, by decide, wX9, (wA_t 812 (by decide +kernel) rfl), tyX9_ok, nmX9, rfl, by decide +kernel, fun _ => by decide +kernel⟩
theorem fo_X9_66 : FO RX9 66 9 23 := ⟨RX9, TX9, 29, rfl, by decide, wX9, (wA_t 813 (by decide +kernel) rfl)⟩
theorem fp_X9_66 : FP RX9 66 9 23 (.array .long) true := ⟨RX9, TX9, 29, tyX9, rfl, by decide, wX9, (wA_t 813 (by decide +kernel) rfl), tyX9_ok, nmX9, rfl, by decide +kernel, fun _ => by decide +kernel⟩
theorem fo_X9_69 : FO RX9 69 9 25 := ⟨RX9, TX9, 29, rfl, by decide, wX9, (wA_t 815 (by decide +kernel) rfl)⟩
theorem fp_X9_69 : FP RX9 69 9 25 (.array .int) true := ⟨RX9, TX9, 29, tyX9, rfl, by decide, wX9, (wA_t 815 (by decide +kernel) rfl), tyX9_ok, nmX9, rfl, by decide +kernel, fun _ => by decide +kernel⟩
theorem fo_X9_72 : FO RX9 72 9 26 := ⟨RX9, TX9, 29, rfl, by decide, wX9, (wA_t 816 (by decide +kernel) rfl)⟩
theorem fp_X9_72 : FP RX9 72 9 26 (.array .int) true := ⟨RX9, TX9, 29, tyX9, rfl, by decide, wX9, (wA_t 816 (by decide +kernel) rfl), tyX9_ok, nmX9, rfl, by decide +kernel, fun _ => by decide +kernel⟩
theorem fo_X9_75 : FO RX9 75 9 27 := ⟨RX9, TX9, 29, rfl, by decide, wX9, (wA_t 817 (by decide +kernel) rfl)⟩
theorem fp_X9_75 : FP RX9 75 9 27 (.array .int) true := ⟨RX9, TX9, 29, tyX9, rfl, by decide, wX9, (wA_t 817 (by decide +kernel) rfl), tyX9_ok, nmX9, rfl, by decide +kernel, fun _ => by decide +kernel⟩
theorem fo_X9_78 : FO RX9 78 9 28 := ⟨RX9, TX9, 29, rfl, by decide, wX9, (wA_t 818 (by decide +kernel) rfl)⟩
theorem fp_X9_78 : FP RX9 78 9 28 (.array .int) true := ⟨RX9, TX9, 29, tyX9, rfl, by decide, wX9, (wA_t 818 (by decide +kernel) rfl), tyX9_ok, nmX9, rfl, by decide +kernel, fun _ => by decide +kernel⟩
theorem kl_X9_81 : Cond.constantLong RX9 81 (lI (299)) ∈ wA := (wA_t 889 (by decide +kernel) rfl)
theorem lk_X9_83 : LKS RX9 83 mX9_in 3 := ⟨okX9_in, (wA_t 883 (by decide +kernel) rfl), (wA_t 884 (by decide +kernel) rfl)⟩
theorem fo_X9_87 : FO RX9 87 9 0 := ⟨RX9, TX9, 29, rfl, by decide, wX9, (wA_t 790 (by decide +kernel) rfl)⟩
theorem fo_X9_91 : FO RX9 91 9 2 := ⟨RX9, TX9, 29, rfl, by decide, wX9, (wA_t 792 (by decide +kernel) rfl)⟩
theorem kl_X9_94 : Cond.constantLong RX9 94 (lI (9999)) ∈ wA := (wA_t 882 (by decide +kernel) rfl)
theorem lk_X9_96 : LKS RX9 96 mX9_isDay 1 := ⟨okX9_isDay, (wA_t 886 (by decide +kernel) rfl), (wA_t 887 (by decide +kernel) rfl)⟩
theorem kl_X9_100 : Cond.constantLong RX9 100 (lI (99)) ∈ wA := (wA_t 890 (by decide +kernel) rfl)
theorem fp_X9_87 : FP RX9 87 9 0 .int false := ⟨RX9, TX9, 29, tyX9, rfl, by decide, wX9, (wA_t 790 (by decide +kernel) rfl), tyX9_ok, nmX9, rfl, by decide +kernel, fun h => by cases h⟩
theorem lk_X9_102 : LKV RX9 102 mX9_isDebt 1 := ⟨okX9_isDebt, (wA_t 895 (by decide +kernel) rfl), (wA_t 897 (by decide +kernel) rfl), (wA_s 12 (by decide +kernel) rfl)⟩
theorem kl_X9_105 : Cond.constantLong RX9 105 (lI (5)) ∈ wA := (wA_t 899 (by decide +kernel) rfl)
theorem kl_X9_107 : Cond.constantLong RX9 107 (lI (-1)) ∈ wA := (wA_t 900 (by decide +kernel) rfl)
theorem fp_X9_91 : FP RX9 91 9 2 .int false := ⟨RX9, TX9, 29, tyX9, rfl, by decide, wX9, (wA_t 792 (by decide +kernel) rfl), tyX9_ok, nmX9, rfl, by decide +kernel, fun h => by cases h⟩
theorem lk_X9_109 : LKV RX9 109 mX9_addPayment 2 := ⟨okX9_addPayment, (wA_t 905 (by decide +kernel) rfl), (wA_t 907 (by decide +kernel) rfl), (wA_s 13 (by decide +kernel) rfl)⟩
theorem lk_X9_113 : LKV RX9 113 mX9_isPayment 1 := ⟨okX9_isPayment, (wA_t 913 (by decide +kernel) rfl), (wA_t 915 (by decide +kernel) rfl), (wA_s 14 (by decide +kernel) rfl)⟩
theorem kl_X9_116 : Cond.constantLong RX9 116 (lI (3)) ∈ wA := (wA_t 925 (by decide +kernel) rfl)
theorem kl_X9_118 : Cond.constantLong RX9 118 (lI (8)) ∈ wA := (wA_t 930 (by decide +kernel) rfl)
theorem kl_X9_120 : Cond.constantLong RX9 120 (lI (255)) ∈ wA := (wA_t 931 (by decide +kernel) rfl)
theorem kl_X9_122 : Cond.constantLong RX9 122 (lI (32)) ∈ wA := (wA_t 932 (by decide +kernel) rfl)
theorem kl_X9_124 : Cond.constantLong RX9 124 (lI (126)) ∈ wA := (wA_t 933 (by decide +kernel) rfl)
theorem fo_X9_126 : FO RX9 126 9 5 := ⟨RX9, TX9, 29, rfl, by decide, wX9, (wA_t 795 (by decide +kernel) rfl)⟩
theorem fp_X9_126 : FP RX9 126 9 5 .int false := ⟨RX9, TX9, 29, tyX9, rfl, by decide, wX9, (wA_t 795 (by decide +kernel) rfl), tyX9_ok, nmX9, rfl, by decide +kernel, fun h => by cases h⟩
theorem lk_X9_129 : LKS RX9 129 mX9_isLaw 1 := ⟨okX9_isLaw, (wA_t 938 (by decide +kernel) rfl), (wA_t 939 (by decide +kernel) rfl)⟩
theorem lk_X9_132 : LKS RX9 132 mX9_isLetter 1 := ⟨okX9_isLetter, (wA_t 941 (by decide +kernel) rfl), (wA_t 942 (by decide +kernel) rfl)⟩
theorem kl_X9_135 : Cond.constantLong RX9 135 (lI (10000)) ∈ wA := (wA_t 969 (by decide +kernel) rfl)
theorem lk_X9_137 : LKV RX9 137 mX9_leftOf 1 := ⟨okX9_leftOf, (wA_t 982 (by decide +kernel) rfl), (wA_t 984 (by decide +kernel) rfl), (wA_s 22 (by decide +kernel) rfl)⟩
theorem lk_X9_141 : LKV RX9 141 mX9_has 2 := ⟨okX9_has, (wA_t 986 (by decide +kernel) rfl), (wA_t 988 (by decide +kernel) rfl), (wA_s 23 (by decide +kernel) rfl)⟩
theorem lk_X9_145 : LKV RX9 145 mX9_compare 4 := ⟨okX9_compare, (wA_t 998 (by decide +kernel) rfl), (wA_t 1000 (by decide +kernel) rfl), (wA_s 26 (by decide +kernel) rfl)⟩
theorem fo_X9_149 : FO RX9 149 9 15 := ⟨RX9, TX9, 29, rfl, by decide, wX9, (wA_t 805 (by decide +kernel) rfl)⟩
theorem fp_X9_149 : FP RX9 149 9 15 .long false := ⟨RX9, TX9, 29, tyX9, rfl, by decide, wX9, (wA_t 805 (by decide +kernel) rfl), tyX9_ok, nmX9, rfl, by decide +kernel, fun h => by cases h⟩
theorem lk_X9_153 : LKV RX9 153 mX9_putTo 4 := ⟨okX9_putTo, (wA_t 990 (by decide +kernel) rfl), (wA_t 992 (by decide +kernel) rfl), (wA_s 24 (by decide +kernel) rfl)⟩
theorem lk_X9_157 : LKV RX9 157 mX9_isDead 2 := ⟨okX9_isDead, (wA_t 978 (by decide +kernel) rfl), (wA_t 980 (by decide +kernel) rfl), (wA_s 21 (by decide +kernel) rfl)⟩
theorem lk_X9_160 : LKV RX9 160 mX9_findOrder 2 := ⟨okX9_findOrder, (wA_t 994 (by decide +kernel) rfl), (wA_t 996 (by decide +kernel) rfl), (wA_s 25 (by decide +kernel) rfl)⟩
theorem lk_X9_164 : LKV RX9 164 mX9_putParts 4 := ⟨okX9_putParts, (wA_t 1002 (by decide +kernel) rfl), (wA_t 1004 (by decide +kernel) rfl), (wA_s 27 (by decide +kernel) rfl)⟩
theorem lk_X9_168 : LKV RX9 168 mX9_putAll 5 := ⟨okX9_putAll, (wA_t 974 (by decide +kernel) rfl), (wA_t 976 (by decide +kernel) rfl), (wA_s 20 (by decide +kernel) rfl)⟩
theorem lk_X9_172 : LKV RX9 172 mX9_runOn 1 := ⟨okX9_runOn, (wA_t 965 (by decide +kernel) rfl), (wA_t 967 (by decide +kernel) rfl), (wA_s 18 (by decide +kernel) rfl)⟩
theorem lk_X9_176 : LKV RX9 176 mX9_putPayment 3 := ⟨okX9_putPayment, (wA_t 970 (by decide +kernel) rfl), (wA_t 972 (by decide +kernel) rfl), (wA_s 19 (by decide +kernel) rfl)⟩
theorem lk_X9_180 : LKV RX9 180 mX9_beginDays 0 := ⟨okX9_beginDays, (wA_t 957 (by decide +kernel) rfl), (wA_t 959 (by decide +kernel) rfl), (wA_s 16 (by decide +kernel) rfl)⟩
theorem lk_X9_183 : LKV RX9 183 mX9_goDay 2 := ⟨okX9_goDay, (wA_t 961 (by decide +kernel) rfl), (wA_t 963 (by decide +kernel) rfl), (wA_s 17 (by decide +kernel) rfl)⟩
theorem lk_X9_186 : LKV RX9 186 mX9_goTo 2 := ⟨okX9_goTo, (wA_t 953 (by decide +kernel) rfl), (wA_t 955 (by decide +kernel) rfl), (wA_s 15 (by decide +kernel) rfl)⟩
theorem lk_X9_189 : LKV RX9 189 mX9_owedNow 0 := ⟨okX9_owedNow, (wA_t 1014 (by decide +kernel) rfl), (wA_t 1016 (by decide +kernel) rfl), (wA_s 29 (by decide +kernel) rfl)⟩
theorem kl_X9_193 : Cond.constantLong RX9 193 (lI (2)) ∈ wA := (wA_t 952 (by decide +kernel) rfl)
theorem lk_X9_195 : LKV RX9 195 mX9_owedOn 2 := ⟨okX9_owedOn, (wA_t 1010 (by decide +kernel) rfl), (wA_t 1012 (by decide +kernel) rfl), (wA_s 28 (by decide +kernel) rfl)⟩
theorem fo_X9_199 : FO RX9 199 9 21 := ⟨RX9, TX9, 29, rfl, by decide, wX9, (wA_t 811 (by decide +kernel) rfl)⟩
theorem fp_X9_199 : FP RX9 199 9 21 .long false := ⟨RX9, TX9, 29, tyX9, rfl, by decide, wX9, (wA_t 811 (by decide +kernel) rfl), tyX9_ok, nmX9, rfl, by decide +kernel, fun h => by cases h⟩
theorem lk_X9_202 : LKV RX9 202 mX9_findWords 3 := ⟨okX9_findWords, (wA_t 1046 (by decide +kernel) rfl), (wA_t 1048 (by decide +kernel) rfl), (wA_s 30 (by decide +kernel) rfl)⟩
theorem kl_X9_205 : Cond.constantLong RX9 205 (lI (-2)) ∈ wA := (wA_t 1054 (by decide +kernel) rfl)
theorem kl_X9_207 : Cond.constantLong RX9 207 (lI (60)) ∈ wA := (wA_t 1067 (by decide +kernel) rfl)
theorem kl_X9_209 : Cond.constantLong RX9 209 (lI (-4)) ∈ wA := (wA_t 1068 (by decide +kernel) rfl)
theorem kl_X9_211 : Cond.constantLong RX9 211 (lI (-1000000000001)) ∈ wA := (wA_t 1077 (by decide +kernel) rfl)
theorem lk_X9_213 : LKV RX9 213 mX9_carry 1 := ⟨okX9_carry, (wA_t 1082 (by decide +kernel) rfl), (wA_t 1084 (by decide +kernel) rfl), (wA_s 31 (by decide +kernel) rfl)⟩
theorem fo_X9_217 : FO RX9 217 9 24 := ⟨RX9, TX9, 29, rfl, by decide, wX9, (wA_t 814 (by decide +kernel) rfl)⟩
theorem fp_X9_217 : FP RX9 217 9 24 .boolean false := ⟨RX9, TX9, 29, tyX9, rfl, by decide, wX9, (wA_t 814 (by decide +kernel) rfl), tyX9_ok, nmX9, rfl, by decide +kernel, fun h => by cases h⟩
theorem lk_X9_221 : LKS RX9 221 mX9_isSheet 2 := ⟨okX9_isSheet, (wA_t 1094 (by decide +kernel) rfl), (wA_t 1095 (by decide +kernel) rfl)⟩
theorem lk_X9_224 : LKV RX9 224 mX9_lacksRow 4 := ⟨okX9_lacksRow, (wA_t 1105 (by decide +kernel) rfl), (wA_t 1107 (by decide +kernel) rfl), (wA_s 32 (by decide +kernel) rfl)⟩
theorem kl_X9_227 : Cond.constantLong RX9 227 (lI (12)) ∈ wA := (wA_t 1113 (by decide +kernel) rfl)
theorem lk_J0_335 : LKV RJ0 335 mJ0_coder_7d493 0 := ⟨okJ0_coder_7d493, (wA_t 420 (by decide +kernel) rfl), (wA_t 421 (by decide +kernel) rfl), (wA_t 422 (by decide +kernel) rfl)⟩
theorem lk_J0_633 : LKV RJ0 633 mJ0_indexOf_7cf53 2 := ⟨okJ0_indexOf_7cf53, (wA_t 406 (by decide +kernel) rfl), (wA_t 407 (by decide +kernel) rfl), (wA_t 408 (by decide +kernel) rfl)⟩
theorem lk_J0_492 : LKV RJ0 492 mJ0_isLatin1_aae02 0 := ⟨okJ0_isLatin1_aae02, (wA_t 410 (by decide +kernel) rfl), (wA_t 411 (by decide +kernel) rfl), (wA_t 412 (by decide +kernel) rfl)⟩
theorem lk_J0_505 : LKV RJ0 505 mJ0_length_8abf5 0 := ⟨okJ0_length_8abf5, (wA_t 416 (by decide +kernel) rfl), (wA_t 417 (by decide +kernel) rfl), (wA_t 418 (by decide +kernel) rfl)⟩
theorem lk_J0_637 : LKS RJ0 637 mJ1_indexOf_4cfef 4 := ⟨okJ1_indexOf_4cfef, (wA_t 424 (by decide +kernel) rfl), (wA_t 425 (by decide +kernel) rfl)⟩
theorem lk_J0_640 : LKS RJ0 640 mJ2_indexOf_4cfef 4 := ⟨okJ2_indexOf_4cfef, (wA_t 439 (by decide +kernel) rfl), (wA_t 440 (by decide +kernel) rfl)⟩
theorem lk_J0_1062 : LKS RJ0 1062 mJ3_checkFromToIndex_8c36e 4 := ⟨okJ3_checkFromToIndex_8c36e, (wA_t 459 (by decide +kernel) rfl), (wA_t 460 (by decide +kernel) rfl)⟩
theorem lk_J1_88 : LKS RJ1 88 mJ1_canEncode_9a6ad 1 := ⟨okJ1_canEncode_9a6ad, (wA_t 427 (by decide +kernel) rfl), (wA_t 428 (by decide +kernel) rfl)⟩
theorem lmx_J1_92 : Cond.methodLink RJ1 92 Lib.Math.max.name ∈ wA := (wA_t 430 (by decide +kernel) rfl)
theorem lmn_J1_38 : Cond.methodLink RJ1 38 Lib.Math.min.name ∈ wA := (wA_t 433 (by decide +kernel) rfl)
theorem lk_J1_95 : LKS RJ1 95 mJ1_indexOfChar_4cfef 4 := ⟨okJ1_indexOfChar_4cfef, (wA_t 436 (by decide +kernel) rfl), (wA_t 437 (by decide +kernel) rfl)⟩
theorem lk_J2_48 : LKS RJ2 48 mJ2_length_9d52b 1 := ⟨okJ2_length_9d52b, (wA_t 451 (by decide +kernel) rfl), (wA_t 452 (by decide +kernel) rfl)⟩
theorem lmx_J2_224 : Cond.methodLink RJ2 224 Lib.Math.max.name ∈ wA := (wA_t 442 (by decide +kernel) rfl)
theorem lmn_J2_183 : Cond.methodLink RJ2 183 Lib.Math.min.name ∈ wA := (wA_t 443 (by decide +kernel) rfl)
theorem lk_J2_228 : LKS RJ2 228 mJ2_indexOfChar_4cfef 4 := ⟨okJ2_indexOfChar_4cfef, (wA_t 445 (by decide +kernel) rfl), (wA_t 446 (by decide +kernel) rfl)⟩
theorem lk_J2_232 : LKS RJ2 232 mJ2_indexOfSupplementary_4cfef 4 := ⟨okJ2_indexOfSupplementary_4cfef, (wA_t 474 (by decide +kernel) rfl), (wA_t 475 (by decide +kernel) rfl)⟩
theorem lk_J2_96 : LKS RJ2 96 mJ2_checkBoundsBeginEnd_d044e 3 := ⟨okJ2_checkBoundsBeginEnd_d044e, (wA_t 448 (by decide +kernel) rfl), (wA_t 449 (by decide +kernel) rfl)⟩
theorem lk_J2_244 : LKS RJ2 244 mJ2_indexOfCharUnsafe_4cfef 4 := ⟨okJ2_indexOfCharUnsafe_4cfef, (wA_t 462 (by decide +kernel) rfl), (wA_t 463 (by decide +kernel) rfl)⟩
theorem lk_J2_71 : LKS RJ2 71 mJ2_getChar_3b067 2 := ⟨okJ2_getChar_3b067, (wA_t 465 (by decide +kernel) rfl), (wA_t 466 (by decide +kernel) rfl)⟩
theorem lk_J2_164 : LKS RJ2 164 mJ11_isValidCodePoint_9a6ad 1 := ⟨okJ11_isValidCodePoint_9a6ad, (wA_t 477 (by decide +kernel) rfl), (wA_t 478 (by decide +kernel) rfl)⟩
theorem lk_J2_157 : LKS RJ2 157 mJ11_highSurrogate_5068e 1 := ⟨okJ11_highSurrogate_5068e, (wA_t 480 (by decide +kernel) rfl), (wA_t 481 (by decide +kernel) rfl)⟩
theorem lk_J2_161 : LKS RJ2 161 mJ11_lowSurrogate_5068e 1 := ⟨okJ11_lowSurrogate_5068e, (wA_t 484 (by decide +kernel) rfl), (wA_t 485 (by decide +kernel) rfl)⟩
theorem lk_J2_241 : LKS RJ2 241 mJ0_checkBoundsBeginEnd_23922 3 := ⟨okJ0_checkBoundsBeginEnd_23922, (wA_t 454 (by decide +kernel) rfl), (wA_t 455 (by decide +kernel) rfl)⟩
theorem no_L_7 : NO RL 7 8 [.null, .null, .int 0, .null, .null, .null, .null, .null] := ⟨RX8, TX8, 8, tyX8, rfl, wX8, tyX8_ok, (wA_t 21 (by decide +kernel) rfl), (wA_t 22 (by decide +kernel) rfl), (wA_t 1 (by decide +kernel) rfl), by decide +kernel, rfl⟩
theorem lk_L_9 : LKI RL 9 mX8_init 0 := ⟨okX8_init, (wA_t 23 (by decide +kernel) rfl), (wA_t 24 (by decide +kernel) rfl), rfl, rfl⟩
theorem no_L_10 : NO RL 10 9 [.int 0, .null, .int 0, .null, .null, .int 0, .null, .null, .null, .null, .null, .null, .null, .null, .null, .long 0, .null, .null, .null, .null, .null, .long 0, .null, .null, .int 0, .null, .null, .null, .null] := ⟨RX9, TX9, 29, tyX9, rfl, wX9, tyX9_ok, (wA_t 784 (by decide +kernel) rfl), (wA_t 785 (by decide +kernel) rfl), (wA_t 10 (by decide +kernel) rfl), by decide +kernel, rfl⟩
theorem lk_L_12 : LKI RL 12 mX9_init 0 := ⟨okX9_init, (wA_t 786 (by decide +kernel) rfl), (wA_t 787 (by decide +kernel) rfl), rfl, rfl⟩
theorem lk_L_13 : LKV RL 13 mX8_debt 4 := ⟨okX8_debt, (wA_t 301 (by decide +kernel) rfl), (wA_t 302 (by decide +kernel) rfl), (wA_t 303 (by decide +kernel) rfl)⟩
theorem lk_L_17 : LKV RL 17 mX9_debt 4 := ⟨okX9_debt, (wA_t 878 (by decide +kernel) rfl), (wA_t 879 (by decide +kernel) rfl), (wA_t 880 (by decide +kernel) rfl)⟩
theorem lk_L_18 : LKV RL 18 mX8_set 3 := ⟨okX8_set, (wA_t 315 (by decide +kernel) rfl), (wA_t 316 (by decide +kernel) rfl), (wA_t 317 (by decide +kernel) rfl)⟩
theorem lk_L_22 : LKV RL 22 mX9_set 3 := ⟨okX9_set, (wA_t 891 (by decide +kernel) rfl), (wA_t 892 (by decide +kernel) rfl), (wA_t 893 (by decide +kernel) rfl)⟩
theorem lk_L_23 : LKV RL 23 mX8_pay 2 := ⟨okX8_pay, (wA_t 327 (by decide +kernel) rfl), (wA_t 328 (by decide +kernel) rfl), (wA_t 329 (by decide +kernel) rfl)⟩
theorem lk_L_27 : LKV RL 27 mX9_pay 2 := ⟨okX9_pay, (wA_t 901 (by decide +kernel) rfl), (wA_t 902 (by decide +kernel) rfl), (wA_t 903 (by decide +kernel) rfl)⟩
theorem lk_L_28 : LKV RL 28 mX8_pays 4 := ⟨okX8_pays, (wA_t 338 (by decide +kernel) rfl), (wA_t 339 (by decide +kernel) rfl), (wA_t 340 (by decide +kernel) rfl)⟩
theorem lk_L_31 : LKV RL 31 mX9_pays 4 := ⟨okX9_pays, (wA_t 1109 (by decide +kernel) rfl), (wA_t 1110 (by decide +kernel) rfl), (wA_t 1111 (by decide +kernel) rfl)⟩
theorem lk_L_32 : LKV RL 32 mX8_word 3 := ⟨okX8_word, (wA_t 352 (by decide +kernel) rfl), (wA_t 353 (by decide +kernel) rfl), (wA_t 354 (by decide +kernel) rfl)⟩
theorem lk_L_35 : LKV RL 35 mX9_word 3 := ⟨okX9_word, (wA_t 909 (by decide +kernel) rfl), (wA_t 910 (by decide +kernel) rfl), (wA_t 911 (by decide +kernel) rfl)⟩
theorem lk_L_36 : LKV RL 36 mX8_move 2 := ⟨okX8_move, (wA_t 364 (by decide +kernel) rfl), (wA_t 365 (by decide +kernel) rfl), (wA_t 366 (by decide +kernel) rfl)⟩
theorem lk_L_39 : LKV RL 39 mX9_move 2 := ⟨okX9_move, (wA_t 917 (by decide +kernel) rfl), (wA_t 918 (by decide +kernel) rfl), (wA_t 919 (by decide +kernel) rfl)⟩
theorem lk_L_40 : LKV RL 40 mX8_count 1 := ⟨okX8_count, (wA_t 368 (by decide +kernel) rfl), (wA_t 369 (by decide +kernel) rfl), (wA_t 370 (by decide +kernel) rfl)⟩
theorem lk_L_44 : LKV RL 44 mX9_count 1 := ⟨okX9_count, (wA_t 921 (by decide +kernel) rfl), (wA_t 922 (by decide +kernel) rfl), (wA_t 923 (by decide +kernel) rfl)⟩
theorem kl_L_45 : Cond.constantLong RL 45 (lI (4294967295)) ∈ wA := (wA_t 1118 (by decide +kernel) rfl)
theorem lk_L_47 : LKV RL 47 mX8_type 2 := ⟨okX8_type, (wA_t 376 (by decide +kernel) rfl), (wA_t 377 (by decide +kernel) rfl), (wA_t 378 (by decide +kernel) rfl)⟩
theorem lk_L_51 : LKV RL 51 mX9_type 2 := ⟨okX9_type, (wA_t 926 (by decide +kernel) rfl), (wA_t 927 (by decide +kernel) rfl), (wA_t 928 (by decide +kernel) rfl)⟩
theorem lk_L_52 : LKV RL 52 mX8_law 1 := ⟨okX8_law, (wA_t 390 (by decide +kernel) rfl), (wA_t 391 (by decide +kernel) rfl), (wA_t 392 (by decide +kernel) rfl)⟩
theorem lk_L_55 : LKV RL 55 mX9_law 1 := ⟨okX9_law, (wA_t 934 (by decide +kernel) rfl), (wA_t 935 (by decide +kernel) rfl), (wA_t 936 (by decide +kernel) rfl)⟩
theorem lk_L_56 : LKV RL 56 mX8_letter 2 := ⟨okX8_letter, (wA_t 497 (by decide +kernel) rfl), (wA_t 498 (by decide +kernel) rfl), (wA_t 499 (by decide +kernel) rfl)⟩
theorem lk_L_59 : LKV RL 59 mX9_letter 2 := ⟨okX9_letter, (wA_t 944 (by decide +kernel) rfl), (wA_t 945 (by decide +kernel) rfl), (wA_t 946 (by decide +kernel) rfl)⟩
theorem lk_L_60 : LKV RL 60 mX8_left 4 := ⟨okX8_left, (wA_t 501 (by decide +kernel) rfl), (wA_t 502 (by decide +kernel) rfl), (wA_t 503 (by decide +kernel) rfl)⟩
theorem lk_L_64 : LKV RL 64 mX9_left 4 := ⟨okX9_left, (wA_t 948 (by decide +kernel) rfl), (wA_t 949 (by decide +kernel) rfl), (wA_t 950 (by decide +kernel) rfl)⟩
theorem lk_L_65 : LKV RL 65 mX8_owed 2 := ⟨okX8_owed, (wA_t 626 (by decide +kernel) rfl), (wA_t 627 (by decide +kernel) rfl), (wA_t 628 (by decide +kernel) rfl)⟩
theorem lk_L_69 : LKV RL 69 mX9_owed 2 := ⟨okX9_owed, (wA_t 1006 (by decide +kernel) rfl), (wA_t 1007 (by decide +kernel) rfl), (wA_t 1008 (by decide +kernel) rfl)⟩
theorem lk_L_70 : LKV RL 70 mX8_put 4 := ⟨okX8_put, (wA_t 635 (by decide +kernel) rfl), (wA_t 636 (by decide +kernel) rfl), (wA_t 637 (by decide +kernel) rfl)⟩
theorem lk_L_73 : LKV RL 73 mX9_put 4 := ⟨okX9_put, (wA_t 1018 (by decide +kernel) rfl), (wA_t 1019 (by decide +kernel) rfl), (wA_t 1020 (by decide +kernel) rfl)⟩
theorem lk_L_74 : LKV RL 74 mX8_paid 2 := ⟨okX8_paid, (wA_t 643 (by decide +kernel) rfl), (wA_t 644 (by decide +kernel) rfl), (wA_t 645 (by decide +kernel) rfl)⟩
theorem lk_L_77 : LKV RL 77 mX9_paid 2 := ⟨okX9_paid, (wA_t 1022 (by decide +kernel) rfl), (wA_t 1023 (by decide +kernel) rfl), (wA_t 1024 (by decide +kernel) rfl)⟩
theorem lk_L_78 : LKV RL 78 mX8_dead 3 := ⟨okX8_dead, (wA_t 650 (by decide +kernel) rfl), (wA_t 651 (by decide +kernel) rfl), (wA_t 652 (by decide +kernel) rfl)⟩
theorem lk_L_81 : LKV RL 81 mX9_dead 3 := ⟨okX9_dead, (wA_t 1026 (by decide +kernel) rfl), (wA_t 1027 (by decide +kernel) rfl), (wA_t 1028 (by decide +kernel) rfl)⟩
theorem lk_L_82 : LKV RL 82 mX8_wakes 2 := ⟨okX8_wakes, (wA_t 660 (by decide +kernel) rfl), (wA_t 661 (by decide +kernel) rfl), (wA_t 662 (by decide +kernel) rfl)⟩
theorem lk_L_85 : LKV RL 85 mX9_wakes 2 := ⟨okX9_wakes, (wA_t 1030 (by decide +kernel) rfl), (wA_t 1031 (by decide +kernel) rfl), (wA_t 1032 (by decide +kernel) rfl)⟩
theorem lk_L_86 : LKV RL 86 mX8_free 2 := ⟨okX8_free, (wA_t 664 (by decide +kernel) rfl), (wA_t 665 (by decide +kernel) rfl), (wA_t 666 (by decide +kernel) rfl)⟩
theorem lk_L_89 : LKV RL 89 mX9_free 2 := ⟨okX9_free, (wA_t 1034 (by decide +kernel) rfl), (wA_t 1035 (by decide +kernel) rfl), (wA_t 1036 (by decide +kernel) rfl)⟩
theorem lk_L_90 : LKV RL 90 mX8_rank 3 := ⟨okX8_rank, (wA_t 669 (by decide +kernel) rfl), (wA_t 670 (by decide +kernel) rfl), (wA_t 671 (by decide +kernel) rfl)⟩
theorem lk_L_93 : LKV RL 93 mX9_rank 3 := ⟨okX9_rank, (wA_t 1038 (by decide +kernel) rfl), (wA_t 1039 (by decide +kernel) rfl), (wA_t 1040 (by decide +kernel) rfl)⟩
theorem lk_L_94 : LKV RL 94 mX8_best 4 := ⟨okX8_best, (wA_t 674 (by decide +kernel) rfl), (wA_t 675 (by decide +kernel) rfl), (wA_t 676 (by decide +kernel) rfl)⟩
theorem lk_L_97 : LKV RL 97 mX9_best 4 := ⟨okX9_best, (wA_t 1042 (by decide +kernel) rfl), (wA_t 1043 (by decide +kernel) rfl), (wA_t 1044 (by decide +kernel) rfl)⟩
theorem lk_L_98 : LKV RL 98 mX8_least 3 := ⟨okX8_least, (wA_t 712 (by decide +kernel) rfl), (wA_t 713 (by decide +kernel) rfl), (wA_t 714 (by decide +kernel) rfl)⟩
theorem lk_L_102 : LKV RL 102 mX9_least 3 := ⟨okX9_least, (wA_t 1050 (by decide +kernel) rfl), (wA_t 1051 (by decide +kernel) rfl), (wA_t 1052 (by decide +kernel) rfl)⟩
theorem lk_L_103 : LKV RL 103 mX8_answer 3 := ⟨okX8_answer, (wA_t 717 (by decide +kernel) rfl), (wA_t 718 (by decide +kernel) rfl), (wA_t 719 (by decide +kernel) rfl)⟩
theorem lk_L_106 : LKV RL 106 mX9_answer 3 := ⟨okX9_answer, (wA_t 1055 (by decide +kernel) rfl), (wA_t 1056 (by decide +kernel) rfl), (wA_t 1057 (by decide +kernel) rfl)⟩
theorem lk_L_107 : LKV RL 107 mX8_hangs 6 := ⟨okX8_hangs, (wA_t 721 (by decide +kernel) rfl), (wA_t 722 (by decide +kernel) rfl), (wA_t 723 (by decide +kernel) rfl)⟩
theorem lk_L_111 : LKV RL 111 mX9_hangs 6 := ⟨okX9_hangs, (wA_t 1059 (by decide +kernel) rfl), (wA_t 1060 (by decide +kernel) rfl), (wA_t 1061 (by decide +kernel) rfl)⟩
theorem lk_L_112 : LKV RL 112 mX8_plan 5 := ⟨okX8_plan, (wA_t 730 (by decide +kernel) rfl), (wA_t 731 (by decide +kernel) rfl), (wA_t 732 (by decide +kernel) rfl)⟩
theorem lk_L_116 : LKV RL 116 mX9_plan 5 := ⟨okX9_plan, (wA_t 1063 (by decide +kernel) rfl), (wA_t 1064 (by decide +kernel) rfl), (wA_t 1065 (by decide +kernel) rfl)⟩
theorem lk_L_117 : LKV RL 117 mX8_parts 0 := ⟨okX8_parts, (wA_t 737 (by decide +kernel) rfl), (wA_t 738 (by decide +kernel) rfl), (wA_t 739 (by decide +kernel) rfl)⟩
theorem lk_L_121 : LKV RL 121 mX9_parts 0 := ⟨okX9_parts, (wA_t 1069 (by decide +kernel) rfl), (wA_t 1070 (by decide +kernel) rfl), (wA_t 1071 (by decide +kernel) rfl)⟩
theorem lk_L_122 : LKV RL 122 mX8_gap 1 := ⟨okX8_gap, (wA_t 745 (by decide +kernel) rfl), (wA_t 746 (by decide +kernel) rfl), (wA_t 747 (by decide +kernel) rfl)⟩
theorem lk_L_126 : LKV RL 126 mX9_gap 1 := ⟨okX9_gap, (wA_t 1073 (by decide +kernel) rfl), (wA_t 1074 (by decide +kernel) rfl), (wA_t 1075 (by decide +kernel) rfl)⟩
theorem lk_L_127 : LKV RL 127 mX8_judge 5 := ⟨okX8_judge, (wA_t 750 (by decide +kernel) rfl), (wA_t 751 (by decide +kernel) rfl), (wA_t 752 (by decide +kernel) rfl)⟩
theorem lk_L_131 : LKV RL 131 mX9_judge 5 := ⟨okX9_judge, (wA_t 1114 (by decide +kernel) rfl), (wA_t 1115 (by decide +kernel) rfl), (wA_t 1116 (by decide +kernel) rfl)⟩
theorem lk_L_132 : LKV RL 132 mX8_image 0 := ⟨okX8_image, (wA_t 754 (by decide +kernel) rfl), (wA_t 755 (by decide +kernel) rfl), (wA_t 756 (by decide +kernel) rfl)⟩
theorem lk_L_135 : LKV RL 135 mX9_image 0 := ⟨okX9_image, (wA_t 1078 (by decide +kernel) rfl), (wA_t 1079 (by decide +kernel) rfl), (wA_t 1080 (by decide +kernel) rfl)⟩
theorem lk_L_136 : LKV RL 136 mX8_restore 0 := ⟨okX8_restore, (wA_t 759 (by decide +kernel) rfl), (wA_t 760 (by decide +kernel) rfl), (wA_t 761 (by decide +kernel) rfl)⟩
theorem lk_L_139 : LKV RL 139 mX9_restore 0 := ⟨okX9_restore, (wA_t 1086 (by decide +kernel) rfl), (wA_t 1087 (by decide +kernel) rfl), (wA_t 1088 (by decide +kernel) rfl)⟩
theorem lk_L_140 : LKV RL 140 mX8_sheet 3 := ⟨okX8_sheet, (wA_t 763 (by decide +kernel) rfl), (wA_t 764 (by decide +kernel) rfl), (wA_t 765 (by decide +kernel) rfl)⟩
theorem lk_L_143 : LKV RL 143 mX9_sheet 3 := ⟨okX9_sheet, (wA_t 1090 (by decide +kernel) rfl), (wA_t 1091 (by decide +kernel) rfl), (wA_t 1092 (by decide +kernel) rfl)⟩
theorem lk_L_144 : LKV RL 144 mX8_drop 1 := ⟨okX8_drop, (wA_t 772 (by decide +kernel) rfl), (wA_t 773 (by decide +kernel) rfl), (wA_t 774 (by decide +kernel) rfl)⟩
theorem lk_L_147 : LKV RL 147 mX9_drop 1 := ⟨okX9_drop, (wA_t 1097 (by decide +kernel) rfl), (wA_t 1098 (by decide +kernel) rfl), (wA_t 1099 (by decide +kernel) rfl)⟩
theorem lk_L_148 : LKV RL 148 mX8_item 4 := ⟨okX8_item, (wA_t 776 (by decide +kernel) rfl), (wA_t 777 (by decide +kernel) rfl), (wA_t 778 (by decide +kernel) rfl)⟩
theorem lk_L_151 : LKV RL 151 mX9_item 4 := ⟨okX9_item, (wA_t 1101 (by decide +kernel) rfl), (wA_t 1102 (by decide +kernel) rfl), (wA_t 1103 (by decide +kernel) rfl)⟩
theorem mi_i : Cond.initialized "java/lang/Math" ∈ wA := (wA_t 13 (by decide +kernel) rfl)
theorem ms_mx : Cond.static Lib.Math.max.name ∈ wA := (wA_t 431 (by decide +kernel) rfl)
set_option maxRecDepth 20000 in
theorem mc_mx : Cond.code Lib.Math.max.name Lib.Math.max.code 2 (some .int) ∈ wA := (wA_t 432 (by decide +kernel) rfl)
theorem ms_mn : Cond.static Lib.Math.min.name ∈ wA := (wA_t 434 (by decide +kernel) rfl)
set_option maxRecDepth 20000 in
theorem mc_mn : Cond.code Lib.Math.min.name Lib.Math.min.code 2 (some .int) ∈ wA := (wA_t 435 (by decide +kernel) rfl)
theorem ms_lx : Cond.static Lib.MathLoose.max_long.x ∈ wA := (wA_t 728 (by decide +kernel) rfl)
set_option maxRecDepth 20000 in
theorem mc_lx : Cond.code Lib.MathLoose.max_long.x Lib.MathLoose.max_long.code 4 (some .long) ∈ wA := (wA_t 729 (by decide +kernel) rfl)
theorem ms_ln : Cond.static Lib.MathLoose.min_long.x ∈ wA := (wA_t 585 (by decide +kernel) rfl)
set_option maxRecDepth 20000 in
theorem mc_ln : Cond.code Lib.MathLoose.min_long.x Lib.MathLoose.min_long.code 4 (some .long) ∈ wA := (wA_t 586 (by decide +kernel) rfl)
theorem ac_int : Cond.arrayClass .int ∈ wA := (wA_t 61 (by decide +kernel) rfl)
theorem ac_long : Cond.arrayClass .long ∈ wA := (wA_t 202 (by decide +kernel) rfl)
theorem ac_boolean : Cond.arrayClass .boolean ∈ wA := (wA_t 203 (by decide +kernel) rfl)
end
section
-- ===== Math =====
section MATH
variable {E : Ev} {d : Nat} {M : MI} {pc idx : Nat} {ls : List (Option Value)} {st : List Value} {h : Hp} {Q : Option Value → Hp → Prop} {x y : Int}
theorem T.mmax (hd : decode M.2.1 pc = .ok (.invokestatic idx, 3)) (hk : Cond.methodLink M.1.cls idx Lib.Math.max.name ∈ wA) (hrx : rg x) (hry : rg y) (hdd : 1 ≤ d) (hrm : (st.map fun v => v.category).sum ≤ 8) (kt : T E d M (pc + 3) ls (.int (iI (max x y)) :: st) h Q) : T E d M pc ls (.int (iI y) :: .int (iI x) :: st) h Q := by
  refine T.pl ?_ kt
  intro p e R s m args below meth c hC hf hl H lsA locs cells slots Q hP hS hL hcl hsl hz kk
  obtain ⟨hx, hb, hml, hown, hts, hrt, hlk, hnm, hK, hro, hB, hRS⟩ := hC
  refine va_mmax hx hb (hml.trans hL.1.symm) hown (hts _ hk) (hts _ ms_mx) (hts _ mi_i) (hts _ mc_mx) (by omega) (by omega) hcl hsl hd ?_
  have : (if iI x < iI y then iI y else iI x) = iI (max x y) := by
    simp only [iI_lt hrx hry]; split <;> (congr 1; omega)
  rw [this]
  exact kk _ hL
theorem T.mmin (hd : decode M.2.1 pc = .ok (.invokestatic idx, 3)) (hk : Cond.methodLink M.1.cls idx Lib.Math.min.name ∈ wA) (hrx : rg x) (hry : rg y) (hdd : 1 ≤ d) (hrm : (st.map fun v => v.category).sum ≤ 8) (kt : T E d M (pc + 3) ls (.int (iI (min x y)) :: st) h Q) : T E d M pc ls (.int (iI y) :: .int (iI x) :: st) h Q := by
  refine T.pl ?_ kt
  intro p e R s m args below meth c hC hf hl H lsA locs cells slots Q hP hS hL hcl hsl hz kk
  obtain ⟨hx, hb, hml, hown, hts, hrt, hlk, hnm, hK, hro, hB, hRS⟩ := hC
  refine va_mmin hx hb (hml.trans hL.1.symm) hown (hts _ hk) (hts _ ms_mn) (hts _ mi_i) (hts _ mc_mn) (by omega) (by omega) hcl hsl hd ?_
  have a1 := kk _ hL
  have b1 := iI_lt hrx hry
  have b2 := iI_lt hry hrx
  have b3 := iI_le hrx hry
  have b4 := iI_le hry hrx
  first
    | (have : (if iI y < iI x then iI y else iI x) = iI (min x y) := by
        simp only [b2]; split <;> (congr 1; omega)
       rw [this]; exact a1)
    | (have : (if iI x ≤ iI y then iI x else iI y) = iI (min x y) := by
        simp only [b3]; split <;> (congr 1; omega)
       rw [this]; exact a1)
theorem T.lmax (hd : decode M.2.1 pc = .ok (.invokestatic idx, 3)) (hk : Cond.methodLink M.1.cls idx Lib.MathLoose.max_long.x ∈ wA) (hrx : rl x) (hry : rl y) (hdd : 1 ≤ d) (hrm : (st.map fun v => v.category).sum ≤ 8) (kt : T E d M (pc + 3) ls (.long (lI (max x y)) :: st) h Q) : T E d M pc ls (.long (lI y) :: .long (lI x) :: st) h Q := by
  refine T.pl ?_ kt
  intro p e R s m args below meth c hC hf hl H lsA locs cells slots Q hP hS hL hcl hsl hz kk
  obtain ⟨hx, hb, hml, hown, hts, hrt, hlk, hnm, hK, hro, hB, hRS⟩ := hC
  refine va_mmax_long hx hb (hml.trans hL.1.symm) hown (hts _ hk) (hts _ ms_lx) (hts _ mi_i) (hts _ mc_lx) (by omega) (by omega) hcl hsl hd ?_
  have a1 := kk _ hL
  have b1 := lI_lt hrx hry
  have b2 := lI_lt hry hrx
  have b3 := lI_le hrx hry
  have b4 := lI_le hry hrx
  first
    | (have : (if lI y < lI x then lI x else lI y) = lI (max x y) := by
        simp only [b2]; split <;> (congr 1; omega)
       rw [this]; exact a1)
    | (have : (if lI y ≤ lI x then lI x else lI y) = lI (max x y) := by
        simp only [b4]; split <;> (congr 1; omega)
       rw [this]; exact a1)
theorem T.lmin (hd : decode M.2.1 pc = .ok (.invokestatic idx, 3)) (hk : Cond.methodLink M.1.cls idx Lib.MathLoose.min_long.x ∈ wA) (hrx : rl x) (hry : rl y) (hdd : 1 ≤ d) (hrm : (st.map fun v => v.category).sum ≤ 8) (kt : T E d M (pc + 3) ls (.long (lI (min x y)) :: st) h Q) : T E d M pc ls (.long (lI y) :: .long (lI x) :: st) h Q := by
  refine T.pl ?_ kt
  intro p e R s m args below meth c hC hf hl H lsA locs cells slots Q hP hS hL hcl hsl hz kk
  obtain ⟨hx, hb, hml, hown, hts, hrt, hlk, hnm, hK, hro, hB, hRS⟩ := hC
  refine va_mmin_long hx hb (hml.trans hL.1.symm) hown (hts _ hk) (hts _ ms_ln) (hts _ mi_i) (hts _ mc_ln) (by omega) (by omega) hcl hsl hd ?_
  have a1 := kk _ hL
  have b1 := lI_lt hrx hry
  have b2 := lI_lt hry hrx
  have b3 := lI_le hrx hry
  have b4 := lI_le hry hrx
  first
    | (have : (if lI y < lI x then lI y else lI x) = lI (min x y) := by
        simp only [b2]; split <;> (congr 1; omega)
       rw [this]; exact a1)
    | (have : (if lI x ≤ lI y then lI x else lI y) = lI (min x y) := by
        simp only [b3]; split <;> (congr 1; omega)
       rw [this]; exact a1)
end MATH
end
section
-- ===== the memory, and how it lies on the heap =====
abbrev Mem : Type := Nat → Nat → Nat → Nat → Int
def wl : List (Nat × Nat × Nat) := [(0, 0, 0), (1, 0, 0), (2, 0, 0), (3, 0, 0), (4, 0, 0), (5, 0, 0), (6, 0, 0), (5, 0, 1), (6, 0, 1), (5, 0, 2), (6, 0, 2), (5, 0, 3), (6, 0, 3), (5, 0, 4), (6, 0, 4), (5, 0, 5), (6, 0, 5), (5, 0, 6), (6, 0, 6), (5, 0, 7), (6, 0, 7), (7, 0, 0), (7, 0, 1), (7, 0, 2), (7, 0, 3), (7, 0, 4), (7, 0, 5), (7, 0, 6), (7, 0, 7), (7, 0, 8), (7, 0, 9), (7, 0, 10), (7, 0, 11), (8, 0, 0), (9, 0, 0), (8, 1, 0), (9, 1, 0), (1, 1, 0), (2, 1, 0), (3, 1, 0), (4, 1, 0), (5, 1, 0), (6, 1, 0), (5, 1, 1), (6, 1, 1), (5, 1, 2), (6, 1, 2), (5, 1, 3), (6, 1, 3), (5, 1, 4), (6, 1, 4), (5, 1, 5), (6, 1, 5), (5, 1, 6), (6, 1, 6), (5, 1, 7), (6, 1, 7), (7, 1, 0), (7, 1, 1), (7, 1, 2), (7, 1, 3), (7, 1, 4), (7, 1, 5), (7, 1, 6), (7, 1, 7), (7, 1, 8), (7, 1, 9), (7, 1, 10), (7, 1, 11), (8, 2, 0), (9, 2, 0), (8, 3, 0), (9, 3, 0), (10, 0, 0), (1, 2, 0), (2, 2, 0), (3, 2, 0), (4, 2, 0), (5, 2, 0), (6, 2, 0), (5, 2, 1), (6, 2, 1), (5, 2, 2), (6, 2, 2), (5, 2, 3), (6, 2, 3), (5, 2, 4), (6, 2, 4), (5, 2, 5), (6, 2, 5), (5, 2, 6), (6, 2, 6), (5, 2, 7), (6, 2, 7), (7, 2, 0), (7, 2, 1), (7, 2, 2), (7, 2, 3), (7, 2, 4), (7, 2, 5), (7, 2, 6), (7, 2, 7), (7, 2, 8), (7, 2, 9), (7, 2, 10), (7, 2, 11), (8, 4, 0), (9, 4, 0), (8, 5, 0), (9, 5, 0), (8, 16, 0), (9, 16, 0), (11, 0, 0), (12, 0, 0), (13, 0, 0), (14, 0, 0), (15, 0, 0), (16, 0, 0), (17, 0, 0), (18, 0, 0), (19, 0, 0), (10, 1, 0), (1, 3, 0), (2, 3, 0), (3, 3, 0), (4, 3, 0), (5, 3, 0), (6, 3, 0), (5, 3, 1), (6, 3, 1), (5, 3, 2), (6, 3, 2), (5, 3, 3), (6, 3, 3), (5, 3, 4), (6, 3, 4), (5, 3, 5), (6, 3, 5), (5, 3, 6), (6, 3, 6), (5, 3, 7), (6, 3, 7), (7, 3, 0), (7, 3, 1), (7, 3, 2), (7, 3, 3), (7, 3, 4), (7, 3, 5), (7, 3, 6), (7, 3, 7), (7, 3, 8), (7, 3, 9), (7, 3, 10), (7, 3, 11), (8, 6, 0), (9, 6, 0), (8, 7, 0), (9, 7, 0), (8, 17, 0), (9, 17, 0), (11, 1, 0), (12, 1, 0), (13, 1, 0), (14, 1, 0), (15, 1, 0), (16, 1, 0), (17, 1, 0), (18, 1, 0), (19, 1, 0), (20, 0, 0), (21, 0, 0), (22, 0, 0), (23, 0, 0), (10, 2, 0), (1, 4, 0), (2, 4, 0), (3, 4, 0), (4, 4, 0), (5, 4, 0), (6, 4, 0), (5, 4, 1), (6, 4, 1), (5, 4, 2), (6, 4, 2), (5, 4, 3), (6, 4, 3), (5, 4, 4), (6, 4, 4), (5, 4, 5), (6, 4, 5), (5, 4, 6), (6, 4, 6), (5, 4, 7), (6, 4, 7), (7, 4, 0), (7, 4, 1), (7, 4, 2), (7, 4, 3), (7, 4, 4), (7, 4, 5), (7, 4, 6), (7, 4, 7), (7, 4, 8), (7, 4, 9), (7, 4, 10), (7, 4, 11), (8, 8, 0), (9, 8, 0), (8, 9, 0), (9, 9, 0), (8, 18, 0), (9, 18, 0), (11, 2, 0), (12, 2, 0), (13, 2, 0), (14, 2, 0), (15, 2, 0), (16, 2, 0), (17, 2, 0), (18, 2, 0), (19, 2, 0), (10, 3, 0), (1, 5, 0), (2, 5, 0), (3, 5, 0), (4, 5, 0), (5, 5, 0), (6, 5, 0), (5, 5, 1), (6, 5, 1), (5, 5, 2), (6, 5, 2), (5, 5, 3), (6, 5, 3), (5, 5, 4), (6, 5, 4), (5, 5, 5), (6, 5, 5), (5, 5, 6), (6, 5, 6), (5, 5, 7), (6, 5, 7), (7, 5, 0), (7, 5, 1), (7, 5, 2), (7, 5, 3), (7, 5, 4), (7, 5, 5), (7, 5, 6), (7, 5, 7), (7, 5, 8), (7, 5, 9), (7, 5, 10), (7, 5, 11), (8, 10, 0), (9, 10, 0), (8, 11, 0), (9, 11, 0), (8, 19, 0), (9, 19, 0), (11, 3, 0), (12, 3, 0), (13, 3, 0), (14, 3, 0), (15, 3, 0), (16, 3, 0), (17, 3, 0), (18, 3, 0), (19, 3, 0), (10, 4, 0), (1, 6, 0), (2, 6, 0), (3, 6, 0), (4, 6, 0), (5, 6, 0), (6, 6, 0), (5, 6, 1), (6, 6, 1), (5, 6, 2), (6, 6, 2), (5, 6, 3), (6, 6, 3), (5, 6, 4), (6, 6, 4), (5, 6, 5), (6, 6, 5), (5, 6, 6), (6, 6, 6), (5, 6, 7), (6, 6, 7), (7, 6, 0), (7, 6, 1), (7, 6, 2), (7, 6, 3), (7, 6, 4), (7, 6, 5), (7, 6, 6), (7, 6, 7), (7, 6, 8), (7, 6, 9), (7, 6, 10), (7, 6, 11), (8, 12, 0), (9, 12, 0), (8, 13, 0), (9, 13, 0), (8, 20, 0), (9, 20, 0), (11, 4, 0), (12, 4, 0), (13, 4, 0), (14, 4, 0), (15, 4, 0), (16, 4, 0), (17, 4, 0), (18, 4, 0), (19, 4, 0), (10, 5, 0), (1, 7, 0), (2, 7, 0), (3, 7, 0), (4, 7, 0), (5, 7, 0), (6, 7, 0), (5, 7, 1), (6, 7, 1), (5, 7, 2), (6, 7, 2), (5, 7, 3), (6, 7, 3), (5, 7, 4), (6, 7, 4), (5, 7, 5), (6, 7, 5), (5, 7, 6), (6, 7, 6), (5, 7, 7), (6, 7, 7), (7, 7, 0), (7, 7, 1), (7, 7, 2), (7, 7, 3), (7, 7, 4), (7, 7, 5), (7, 7, 6), (7, 7, 7), (7, 7, 8), (7, 7, 9), (7, 7, 10), (7, 7, 11), (8, 14, 0), (9, 14, 0), (8, 15, 0), (9, 15, 0), (8, 21, 0), (9, 21, 0), (11, 5, 0), (12, 5, 0), (13, 5, 0), (14, 5, 0), (15, 5, 0), (16, 5, 0), (17, 5, 0), (18, 5, 0), (19, 5, 0), (24, 0, 0), (25, 0, 0), (26, 0, 0), (27, 0, 0), (28, 0, 0), (27, 1, 0), (28, 1, 0), (27, 2, 0), (28, 2, 0), (27, 3, 0), (28, 3, 0), (29, 0, 0), (31, 0, 0), (33, 0, 0), (34, 0, 0), (36, 0, 0), (37, 0, 0), (38, 0, 0), (39, 0, 0), (40, 0, 0), (41, 0, 0), (42, 0, 0), (43, 0, 0), (44, 0, 0), (46, 0, 0), (47, 0, 0), (48, 0, 0), (49, 0, 0), (50, 0, 0), (52, 0, 0), (53, 0, 0), (55, 0, 0), (56, 0, 0), (57, 0, 0), (58, 0, 0)]
def coB (j : Nat) : Nat := 73 + 48 * j + (if j < 2 then 0 else 4)
def bkB (b : Nat) : Nat := if b < 2 then 1 + 36 * b else coB (b - 2) + 1
def lwB (q : Nat) : Nat := if q < 16 then bkB (q / 2) + 32 + 2 * (q % 2) else coB (q - 16) + 37
def mdB (k : Nat) : Nat := 376 + 1 + [0, 0, 0, 1, 2, 0, 3, 4, 5, 6, 7, 8, 9, 10, 11, 0, 12, 13, 14, 15, 16, 0, 17, 18, 0, 19, 20, 21, 22].getD k 0
/-- where a cell lies: kind, which, place -/
def aO (k j i : Nat) : Nat :=
  if k = 0 then 0 else if k = 1 then bkB j else if k = 2 then bkB j + 1 else if k = 3 then bkB j + 2 else if k = 4 then bkB j + 3 else if k = 5 then bkB j + 4 + 2 * i else if k = 6 then bkB j + 5 + 2 * i else if k = 7 then bkB j + 20 + i else if k = 8 then lwB j else if k = 9 then lwB j + 1 else if k = 10 then coB j else if k < 20 then coB j + 28 + k else if k < 24 then 169 + (k - 20) else if k < 27 then 365 + (k - 24) else if k = 27 then 368 + 2 * j else if k = 28 then 369 + 2 * j else if k = 29 then 376 else mdB (k - 30)
/-- which cells there are -/
def okC (k j i : Nat) : Prop :=
  match k with
  | 1 => j < 8 ∧ i = 0
  | 2 => j < 8 ∧ i = 0
  | 3 => j < 8 ∧ i = 0
  | 4 => j < 8 ∧ i = 0
  | 5 => j < 8 ∧ i < 8
  | 6 => j < 8 ∧ i < 8
  | 7 => j < 8 ∧ i < 12
  | 8 => j < 22 ∧ i = 0
  | 9 => j < 22 ∧ i = 0
  | 10 => j < 6 ∧ i = 0
  | 11 => j < 6 ∧ i = 0
  | 12 => j < 6 ∧ i = 0
  | 13 => j < 6 ∧ i = 0
  | 14 => j < 6 ∧ i = 0
  | 15 => j < 6 ∧ i = 0
  | 16 => j < 6 ∧ i = 0
  | 17 => j < 6 ∧ i = 0
  | 18 => j < 6 ∧ i = 0
  | 19 => j < 6 ∧ i = 0
  | 27 => j < 4 ∧ i = 0
  | 28 => j < 4 ∧ i = 0
  | 0 => j = 0 ∧ i = 0
  | 20 => j = 0 ∧ i = 0
  | 21 => j = 0 ∧ i = 0
  | 22 => j = 0 ∧ i = 0
  | 23 => j = 0 ∧ i = 0
  | 24 => j = 0 ∧ i = 0
  | 25 => j = 0 ∧ i = 0
  | 26 => j = 0 ∧ i = 0
  | 29 => j = 0 ∧ i = 0
  | 31 => j = 0 ∧ i = 0
  | 33 => j = 0 ∧ i = 0
  | 34 => j = 0 ∧ i = 0
  | 36 => j = 0 ∧ i = 0
  | 37 => j = 0 ∧ i = 0
  | 38 => j = 0 ∧ i = 0
  | 39 => j = 0 ∧ i = 0
  | 40 => j = 0 ∧ i = 0
  | 41 => j = 0 ∧ i = 0
  | 42 => j = 0 ∧ i = 0
  | 43 => j = 0 ∧ i = 0
  | 44 => j = 0 ∧ i = 0
  | 46 => j = 0 ∧ i = 0
  | 47 => j = 0 ∧ i = 0
  | 48 => j = 0 ∧ i = 0
  | 49 => j = 0 ∧ i = 0
  | 50 => j = 0 ∧ i = 0
  | 52 => j = 0 ∧ i = 0
  | 53 => j = 0 ∧ i = 0
  | 55 => j = 0 ∧ i = 0
  | 56 => j = 0 ∧ i = 0
  | 57 => j = 0 ∧ i = 0
  | 58 => j = 0 ∧ i = 0
  | _ => False
theorem wl_0 : ∀ j, j < 1 → ∀ i, i < 1 → wl[aO 0 j i]? = some (0, j, i) := by decide +kernel
theorem wl_1 : ∀ j, j < 8 → ∀ i, i < 1 → wl[aO 1 j i]? = some (1, j, i) := by decide +kernel
theorem wl_2 : ∀ j, j < 8 → ∀ i, i < 1 → wl[aO 2 j i]? = some (2, j, i) := by decide +kernel
theorem wl_3 : ∀ j, j < 8 → ∀ i, i < 1 → wl[aO 3 j i]? = some (3, j, i) := by decide +kernel
theorem wl_4 : ∀ j, j < 8 → ∀ i, i < 1 → wl[aO 4 j i]? = some (4, j, i) := by decide +kernel
theorem wl_5 : ∀ j, j < 8 → ∀ i, i < 8 → wl[aO 5 j i]? = some (5, j, i) := by decide +kernel
theorem wl_6 : ∀ j, j < 8 → ∀ i, i < 8 → wl[aO 6 j i]? = some (6, j, i) := by decide +kernel
theorem wl_7 : ∀ j, j < 8 → ∀ i, i < 12 → wl[aO 7 j i]? = some (7, j, i) := by decide +kernel
theorem wl_8 : ∀ j, j < 22 → ∀ i, i < 1 → wl[aO 8 j i]? = some (8, j, i) := by decide +kernel
theorem wl_9 : ∀ j, j < 22 → ∀ i, i < 1 → wl[aO 9 j i]? = some (9, j, i) := by decide +kernel
theorem wl_10 : ∀ j, j < 6 → ∀ i, i < 1 → wl[aO 10 j i]? = some (10, j, i) := by decide +kernel
theorem wl_11 : ∀ j, j < 6 → ∀ i, i < 1 → wl[aO 11 j i]? = some (11, j, i) := by decide +kernel
theorem wl_12 : ∀ j, j < 6 → ∀ i, i < 1 → wl[aO 12 j i]? = some (12, j, i) := by decide +kernel
theorem wl_13 : ∀ j, j < 6 → ∀ i, i < 1 → wl[aO 13 j i]? = some (13, j, i) := by decide +kernel
theorem wl_14 : ∀ j, j < 6 → ∀ i, i < 1 → wl[aO 14 j i]? = some (14, j, i) := by decide +kernel
theorem wl_15 : ∀ j, j < 6 → ∀ i, i < 1 → wl[aO 15 j i]? = some (15, j, i) := by decide +kernel
theorem wl_16 : ∀ j, j < 6 → ∀ i, i < 1 → wl[aO 16 j i]? = some (16, j, i) := by decide +kernel
theorem wl_17 : ∀ j, j < 6 → ∀ i, i < 1 → wl[aO 17 j i]? = some (17, j, i) := by decide +kernel
theorem wl_18 : ∀ j, j < 6 → ∀ i, i < 1 → wl[aO 18 j i]? = some (18, j, i) := by decide +kernel
theorem wl_19 : ∀ j, j < 6 → ∀ i, i < 1 → wl[aO 19 j i]? = some (19, j, i) := by decide +kernel
theorem wl_20 : ∀ j, j < 1 → ∀ i, i < 1 → wl[aO 20 j i]? = some (20, j, i) := by decide +kernel
theorem wl_21 : ∀ j, j < 1 → ∀ i, i < 1 → wl[aO 21 j i]? = some (21, j, i) := by decide +kernel
theorem wl_22 : ∀ j, j < 1 → ∀ i, i < 1 → wl[aO 22 j i]? = some (22, j, i) := by decide +kernel
theorem wl_23 : ∀ j, j < 1 → ∀ i, i < 1 → wl[aO 23 j i]? = some (23, j, i) := by decide +kernel
theorem wl_24 : ∀ j, j < 1 → ∀ i, i < 1 → wl[aO 24 j i]? = some (24, j, i) := by decide +kernel
theorem wl_25 : ∀ j, j < 1 → ∀ i, i < 1 → wl[aO 25 j i]? = some (25, j, i) := by decide +kernel
theorem wl_26 : ∀ j, j < 1 → ∀ i, i < 1 → wl[aO 26 j i]? = some (26, j, i) := by decide +kernel
theorem wl_27 : ∀ j, j < 4 → ∀ i, i < 1 → wl[aO 27 j i]? = some (27, j, i) := by decide +kernel
theorem wl_28 : ∀ j, j < 4 → ∀ i, i < 1 → wl[aO 28 j i]? = some (28, j, i) := by decide +kernel
theorem wl_29 : ∀ j, j < 1 → ∀ i, i < 1 → wl[aO 29 j i]? = some (29, j, i) := by decide +kernel
theorem wl_31 : ∀ j, j < 1 → ∀ i, i < 1 → wl[aO 31 j i]? = some (31, j, i) := by decide +kernel
theorem wl_33 : ∀ j, j < 1 → ∀ i, i < 1 → wl[aO 33 j i]? = some (33, j, i) := by decide +kernel
theorem wl_34 : ∀ j, j < 1 → ∀ i, i < 1 → wl[aO 34 j i]? = some (34, j, i) := by decide +kernel
theorem wl_36 : ∀ j, j < 1 → ∀ i, i < 1 → wl[aO 36 j i]? = some (36, j, i) := by decide +kernel
theorem wl_37 : ∀ j, j < 1 → ∀ i, i < 1 → wl[aO 37 j i]? = some (37, j, i) := by decide +kernel
theorem wl_38 : ∀ j, j < 1 → ∀ i, i < 1 → wl[aO 38 j i]? = some (38, j, i) := by decide +kernel
theorem wl_39 : ∀ j, j < 1 → ∀ i, i < 1 → wl[aO 39 j i]? = some (39, j, i) := by decide +kernel
theorem wl_40 : ∀ j, j < 1 → ∀ i, i < 1 → wl[aO 40 j i]? = some (40, j, i) := by decide +kernel
theorem wl_41 : ∀ j, j < 1 → ∀ i, i < 1 → wl[aO 41 j i]? = some (41, j, i) := by decide +kernel
theorem wl_42 : ∀ j, j < 1 → ∀ i, i < 1 → wl[aO 42 j i]? = some (42, j, i) := by decide +kernel
theorem wl_43 : ∀ j, j < 1 → ∀ i, i < 1 → wl[aO 43 j i]? = some (43, j, i) := by decide +kernel
theorem wl_44 : ∀ j, j < 1 → ∀ i, i < 1 → wl[aO 44 j i]? = some (44, j, i) := by decide +kernel
theorem wl_46 : ∀ j, j < 1 → ∀ i, i < 1 → wl[aO 46 j i]? = some (46, j, i) := by decide +kernel
theorem wl_47 : ∀ j, j < 1 → ∀ i, i < 1 → wl[aO 47 j i]? = some (47, j, i) := by decide +kernel
theorem wl_48 : ∀ j, j < 1 → ∀ i, i < 1 → wl[aO 48 j i]? = some (48, j, i) := by decide +kernel
theorem wl_49 : ∀ j, j < 1 → ∀ i, i < 1 → wl[aO 49 j i]? = some (49, j, i) := by decide +kernel
theorem wl_50 : ∀ j, j < 1 → ∀ i, i < 1 → wl[aO 50 j i]? = some (50, j, i) := by decide +kernel
theorem wl_52 : ∀ j, j < 1 → ∀ i, i < 1 → wl[aO 52 j i]? = some (52, j, i) := by decide +kernel
theorem wl_53 : ∀ j, j < 1 → ∀ i, i < 1 → wl[aO 53 j i]? = some (53, j, i) := by decide +kernel
theorem wl_55 : ∀ j, j < 1 → ∀ i, i < 1 → wl[aO 55 j i]? = some (55, j, i) := by decide +kernel
theorem wl_56 : ∀ j, j < 1 → ∀ i, i < 1 → wl[aO 56 j i]? = some (56, j, i) := by decide +kernel
theorem wl_57 : ∀ j, j < 1 → ∀ i, i < 1 → wl[aO 57 j i]? = some (57, j, i) := by decide +kernel
theorem wl_58 : ∀ j, j < 1 → ∀ i, i < 1 → wl[aO 58 j i]? = some (58, j, i) := by decide +kernel
theorem wl_at : ∀ {k j i : Nat}, okC k j i → wl[aO k j i]? = some (k, j, i)
  | 0, j, i, h => wl_0 j (by have := h.1; omega) i (by have := h.2; omega)
  | 1, j, i, h => wl_1 j h.1 i (by have := h.2; omega)
  | 2, j, i, h => wl_2 j h.1 i (by have := h.2; omega)
  | 3, j, i, h => wl_3 j h.1 i (by have := h.2; omega)
  | 4, j, i, h => wl_4 j h.1 i (by have := h.2; omega)
  | 5, j, i, h => wl_5 j h.1 i h.2
  | 6, j, i, h => wl_6 j h.1 i h.2
  | 7, j, i, h => wl_7 j h.1 i h.2
  | 8, j, i, h => wl_8 j h.1 i (by have := h.2; omega)
  | 9, j, i, h => wl_9 j h.1 i (by have := h.2; omega)
  | 10, j, i, h => wl_10 j h.1 i (by have := h.2; omega)
  | 11, j, i, h => wl_11 j h.1 i (by have := h.2; omega)
  | 12, j, i, h => wl_12 j h.1 i (by have := h.2; omega)
  | 13, j, i, h => wl_13 j h.1 i (by have := h.2; omega)
  | 14, j, i, h => wl_14 j h.1 i (by have := h.2; omega)
  | 15, j, i, h => wl_15 j h.1 i (by have := h.2; omega)
  | 16, j, i, h => wl_16 j h.1 i (by have := h.2; omega)
  | 17, j, i, h => wl_17 j h.1 i (by have := h.2; omega)
  | 18, j, i, h => wl_18 j h.1 i (by have := h.2; omega)
  | 19, j, i, h => wl_19 j h.1 i (by have := h.2; omega)
  | 20, j, i, h => wl_20 j (by have := h.1; omega) i (by have := h.2; omega)
  | 21, j, i, h => wl_21 j (by have := h.1; omega) i (by have := h.2; omega)
  | 22, j, i, h => wl_22 j (by have := h.1; omega) i (by have := h.2; omega)
  | 23, j, i, h => wl_23 j (by have := h.1; omega) i (by have := h.2; omega)
  | 24, j, i, h => wl_24 j (by have := h.1; omega) i (by have := h.2; omega)
  | 25, j, i, h => wl_25 j (by have := h.1; omega) i (by have := h.2; omega)
  | 26, j, i, h => wl_26 j (by have := h.1; omega) i (by have := h.2; omega)
  | 27, j, i, h => wl_27 j h.1 i (by have := h.2; omega)
  | 28, j, i, h => wl_28 j h.1 i (by have := h.2; omega)
  | 29, j, i, h => wl_29 j (by have := h.1; omega) i (by have := h.2; omega)
  | 31, j, i, h => wl_31 j (by have := h.1; omega) i (by have := h.2; omega)
  | 33, j, i, h => wl_33 j (by have := h.1; omega) i (by have := h.2; omega)
  | 34, j, i, h => wl_34 j (by have := h.1; omega) i (by have := h.2; omega)
  | 36, j, i, h => wl_36 j (by have := h.1; omega) i (by have := h.2; omega)
  | 37, j, i, h => wl_37 j (by have := h.1; omega) i (by have := h.2; omega)
  | 38, j, i, h => wl_38 j (by have := h.1; omega) i (by have := h.2; omega)
  | 39, j, i, h => wl_39 j (by have := h.1; omega) i (by have := h.2; omega)
  | 40, j, i, h => wl_40 j (by have := h.1; omega) i (by have := h.2; omega)
  | 41, j, i, h => wl_41 j (by have := h.1; omega) i (by have := h.2; omega)
  | 42, j, i, h => wl_42 j (by have := h.1; omega) i (by have := h.2; omega)
  | 43, j, i, h => wl_43 j (by have := h.1; omega) i (by have := h.2; omega)
  | 44, j, i, h => wl_44 j (by have := h.1; omega) i (by have := h.2; omega)
  | 46, j, i, h => wl_46 j (by have := h.1; omega) i (by have := h.2; omega)
  | 47, j, i, h => wl_47 j (by have := h.1; omega) i (by have := h.2; omega)
  | 48, j, i, h => wl_48 j (by have := h.1; omega) i (by have := h.2; omega)
  | 49, j, i, h => wl_49 j (by have := h.1; omega) i (by have := h.2; omega)
  | 50, j, i, h => wl_50 j (by have := h.1; omega) i (by have := h.2; omega)
  | 52, j, i, h => wl_52 j (by have := h.1; omega) i (by have := h.2; omega)
  | 53, j, i, h => wl_53 j (by have := h.1; omega) i (by have := h.2; omega)
  | 55, j, i, h => wl_55 j (by have := h.1; omega) i (by have := h.2; omega)
  | 56, j, i, h => wl_56 j (by have := h.1; omega) i (by have := h.2; omega)
  | 57, j, i, h => wl_57 j (by have := h.1; omega) i (by have := h.2; omega)
  | 58, j, i, h => wl_58 j (by have := h.1; omega) i (by have := h.2; omega)
  | 30, _, _, h => h.elim
  | 32, _, _, h => h.elim
  | 35, _, _, h => h.elim
  | 45, _, _, h => h.elim
  | 51, _, _, h => h.elim
  | 54, _, _, h => h.elim
  | k + 59, _, _, h => h.elim
theorem wl_inv : ∀ q, q < 400 → (wl[q]?).map (fun t => aO t.1 t.2.1 t.2.2) = some q := by decide +kernel
theorem wl_len : wl.length = 400 := by decide +kernel
theorem wl_only {q k j i : Nat} (h : wl[q]? = some (k, j, i)) : q = aO k j i := by
  have hq : q < 400 := by rw [← wl_len]; exact (List.getElem?_eq_some_iff.mp h).1
  have := wl_inv q hq
  rw [h] at this
  exact (Option.some.inj this).symm
theorem aO_lt {k j i : Nat} (h : okC k j i) : aO k j i < 400 := by rw [← wl_len]; exact (List.getElem?_eq_some_iff.mp (wl_at h)).1
abbrev ar (E : Ev) (k j i : Nat) : Nat := E.2.2.1 + aO k j i
/-- a reference to a cell -/
abbrev rf (E : Ev) (k j i : Nat) : Value := .ref (ar E k j i)
def ints (E : Ev) (n : Nat) (g : Nat → Int) : va_E := .inl (E.2.2.2.1 0, n, .inl (fun x => iI (g x)))
def longs (E : Ev) (n : Nat) (g : Nat → Int) : va_E := .inl (E.2.2.2.1 1, n, .inr (.inl (fun x => lI (g x))))
def bools (E : Ev) (n : Nat) (g : Nat → Int) : va_E := .inl (E.2.2.2.1 2, n, .inl (fun x => iI (g x)))
def refs (E : Ev) (t n : Nat) (f : Nat → Nat) : va_E := .inl (E.2.2.2.1 t, n, .inr (.inr (.inr (.inr (fun x => some (f x))))))
/-- what a cell holds, by its numbers -/
def shape (E : Ev) (k j i : Nat) (g : Nat → Int) : va_E :=
  match k with
  | 0 => .inr (8, [rf E 1 0 0, rf E 1 1 0, .int (iI (g 2)), rf E 10 0 0, rf E 10 1 0, rf E 20 0 0, rf E 24 0 0, rf E 26 0 0])
  | 1 => .inr (0, [rf E 2 j 0, .int (iI (g 1)), rf E 3 j 0, .int (iI (g 3)), rf E 4 j 0])
  | 2 => refs E 4 8 (fun x => ar E 5 j x)
  | 3 => refs E 6 12 (fun x => ar E 7 j x)
  | 4 => refs E 5 2 (fun x => ar E 8 (2 * j + x) 0)
  | 5 => .inr (2, [.int (iI (g 0)), .int (iI (g 1)), rf E 6 j i])
  | 6 => ints E 6 g
  | 7 => .inr (4, [.int (iI (g 0)), .int (iI (g 1)), .int (iI (g 2)), .int (iI (g 3))])
  | 8 => .inr (3, [rf E 9 j 0, .int (iI (g 1)), .int (iI (g 2))])
  | 9 => ints E 10 g
  | 10 => .inr (1, [rf E 1 (2 + j) 0, rf E 8 (16 + j) 0, .int (iI (g 2)), .int (iI (g 3)), rf E 11 j 0, rf E 12 j 0, rf E 13 j 0, rf E 14 j 0, rf E 15 j 0, rf E 16 j 0, rf E 17 j 0, rf E 18 j 0, rf E 19 j 0, .long (lI (g 13))])
  | 11 => longs E 8 g
  | 12 => longs E 8 g
  | 13 => ints E 8 g
  | 14 => ints E 8 g
  | 15 => ints E 8 g
  | 16 => bools E 8 g
  | 17 => ints E 8 g
  | 18 => longs E 8 g
  | 19 => longs E 8 g
  | 20 => .inr (7, [rf E 21 0 0, .long (lI (g 1)), .int (iI (g 2)), rf E 22 0 0, rf E 23 0 0, .int (iI (g 5)), .int (iI (g 6))])
  | 21 => ints E 3 g
  | 22 => ints E 3 g
  | 23 => refs E 3 4 (fun x => ar E 10 (2 + x) 0)
  | 24 => .inr (6, [rf E 25 0 0, .int (iI (g 1))])
  | 25 => ints E 40 g
  | 26 => refs E 7 4 (fun x => ar E 27 x 0)
  | 27 => .inr (5, [.int (iI (g 0)), .int (iI (g 1)), rf E 28 j 0, .int (iI (g 3))])
  | 28 => ints E 24 g
  | 29 => .inr (9, [.int (iI (g 0)), rf E 31 0 0, .int (iI (g 2)), rf E 33 0 0, rf E 34 0 0, .int (iI (g 5)), rf E 36 0 0, rf E 37 0 0, rf E 38 0 0, rf E 39 0 0, rf E 40 0 0, rf E 41 0 0, rf E 42 0 0, rf E 43 0 0, rf E 44 0 0, .long (lI (g 15)), rf E 46 0 0, rf E 47 0 0, rf E 48 0 0, rf E 49 0 0, rf E 50 0 0, .long (lI (g 21)), rf E 52 0 0, rf E 53 0 0, .int (iI (g 24)), rf E 55 0 0, rf E 56 0 0, rf E 57 0 0, rf E 58 0 0])
  | 31 => ints E 64 g
  | 33 => ints E 48 g
  | 34 => ints E 40 g
  | 36 => ints E 24 g
  | 37 => ints E 2 g
  | 38 => ints E 12 g
  | 39 => longs E 8 g
  | 40 => longs E 8 g
  | 41 => ints E 8 g
  | 42 => ints E 8 g
  | 43 => longs E 8 g
  | 44 => longs E 8 g
  | 46 => bools E 8 g
  | 47 => ints E 8 g
  | 48 => longs E 8 g
  | 49 => ints E 8 g
  | 50 => ints E 3 g
  | 52 => ints E 3 g
  | 53 => longs E 2400 g
  | 55 => ints E 140 g
  | 56 => ints E 4 g
  | 57 => ints E 4 g
  | 58 => ints E 96 g
  | _ => .inr (0, [])
def lay (E : Ev) (m : Mem) (a : Nat) : va_E := if a < E.2.2.1 then .inr (0, []) else match wl[a - E.2.2.1]? with
  | some t => shape E t.1 t.2.1 t.2.2 (m t.1 t.2.1 t.2.2)
  | none => .inr (0, [])
def hp (E : Ev) (m : Mem) : Hp := (400, 5110, lay E m)
def updS (m : Mem) (k j i : Nat) (g : Nat → Int) : Mem := fun k' j' i' => if k' = k ∧ j' = j ∧ i' = i then g else m k' j' i'
def upd1 (g : Nat → Int) (x : Nat) (v : Int) : Nat → Int := fun y => if y = x then v else g y
/-- one number of a cell becomes another -/
def up (m : Mem) (k j i x : Nat) (v : Int) : Mem := fun k' j' i' x' => if k' = k ∧ j' = j ∧ i' = i ∧ x' = x then v else m k' j' i' x'
theorem up_S (m : Mem) (k j i x : Nat) (v : Int) : up m k j i x v = updS m k j i (upd1 (m k j i) x v) := by
  funext k' j' i' x'
  unfold up updS upd1
  by_cases h : k' = k ∧ j' = j ∧ i' = i
  · obtain ⟨rfl, rfl, rfl⟩ := h
    by_cases hx : x' = x <;> simp [hx]
  · have h2 : ¬ (k' = k ∧ j' = j ∧ i' = i ∧ x' = x) := fun z => h ⟨z.1, z.2.1, z.2.2.1⟩
    rw [if_neg h, if_neg h2]
theorem lay_at {E : Ev} {m : Mem} {k j i : Nat} (h : okC k j i) : lay E m (ar E k j i) = shape E k j i (m k j i) := by
  unfold lay ar
  rw [if_neg (by omega), Nat.add_sub_cancel_left, wl_at h]
theorem lay_up {E : Ev} {m : Mem} {k j i : Nat} {g : Nat → Int} (h : okC k j i) : va_up (lay E m) (ar E k j i) (shape E k j i g) = lay E (updS m k j i g) := by
  funext a
  by_cases ha : a = ar E k j i
  · subst ha
    rw [lay_at h]
    simp [va_up, updS]
  · simp only [va_up, if_neg ha]
    unfold lay
    by_cases hb : a < E.2.2.1
    · simp only [if_pos hb]
    · simp only [if_neg hb]
      cases hw : wl[a - E.2.2.1]? with
      | none => rfl
      | some t =>
        obtain ⟨k', j', i'⟩ := t
        have hne : ¬ (k' = k ∧ j' = j ∧ i' = i) := by
          rintro ⟨rfl, rfl, rfl⟩
          have := wl_only hw
          apply ha
          unfold ar
          omega
        simp only [updS, if_neg hne]
theorem hp_in {E : Ev} {m : Mem} {k j i : Nat} (h : okC k j i) : inH E (hp E m) (ar E k j i) := by
  have := aO_lt h
  refine ⟨Nat.le_add_right _ _, ?_⟩
  show E.2.2.1 + aO k j i < E.2.2.1 + 400
  omega
theorem hp_st {E : Ev} {m : Mem} {k j i : Nat} {g : Nat → Int} {e : va_E} (h : okC k j i) (he : shape E k j i g = e) : hst (hp E m) (ar E k j i) e = hp E (updS m k j i g) := by
  subst he
  show (_, _, _) = (_, _, _)
  rw [← lay_up h]
  rfl
end
section
-- ===== rows over the memory =====
def okA (k j i n : Nat) (E : Ev) (sh : Ev → Nat → (Nat → Int) → va_E) : Prop := ∀ g : Nat → Int, shape E k j i g = sh E n g
section MEM
variable {E : Ev} {d : Nat} {M N : MI} {pc idx : Nat} {ls : List (Option Value)} {st st0 : List Value} {m : Mem} {Q : Option Value → Hp → Prop} {k j i : Nat}
theorem T.mget {ci x : Nat} {fs : List Value} {v : Value} (hd : decode M.2.1 pc = .ok (.getfield idx, 3)) (hF : FO M.1.cls idx ci x) (ho : okC k j i) (hs : shape E k j i (m k j i) = .inr (ci, fs)) (hv : fs[x]? = some v) (kt : T E d M (pc + 3) ls (v :: st) (hp E m) Q) : T E d M pc ls (rf E k j i :: st) (hp E m) Q :=
  T.getf hd hF (hp_in ho) ((lay_at ho).trans hs) hv kt
theorem T.mputI {ci x : Nat} {fs : List Value} {v : Int} (hd : decode M.2.1 pc = .ok (.putfield idx, 3)) (hF : FP M.1.cls idx ci x .int false) (ho : okC k j i) (hs : shape E k j i (m k j i) = .inr (ci, fs)) (hs2 : shape E k j i (upd1 (m k j i) x v) = .inr (ci, fs.set x (.int (iI v)))) (hl : x < fs.length) (kt : T E d M (pc + 3) ls st (hp E (up m k j i x v)) Q) : T E d M pc ls (.int (iI v) :: rf E k j i :: st) (hp E m) Q := by
  refine T.putf hd hF (hp_in ho) ((lay_at ho).trans hs) rfl rfl hl ?_
  rw [hp_st ho hs2, ← up_S]
  exact kt
theorem T.mputL {ci x : Nat} {fs : List Value} {v : Int} (hd : decode M.2.1 pc = .ok (.putfield idx, 3)) (hF : FP M.1.cls idx ci x .long false) (ho : okC k j i) (hs : shape E k j i (m k j i) = .inr (ci, fs)) (hs2 : shape E k j i (upd1 (m k j i) x v) = .inr (ci, fs.set x (.long (lI v)))) (hl : x < fs.length) (kt : T E d M (pc + 3) ls st (hp E (up m k j i x v)) Q) : T E d M pc ls (.long (lI v) :: rf E k j i :: st) (hp E m) Q := by
  refine T.putf hd hF (hp_in ho) ((lay_at ho).trans hs) rfl rfl hl ?_
  rw [hp_st ho hs2, ← up_S]
  exact kt
theorem T.mputZ {ci x : Nat} {fs : List Value} {v : Int} (hd : decode M.2.1 pc = .ok (.putfield idx, 3)) (hF : FP M.1.cls idx ci x .boolean false) (h01 : v = 0 ∨ v = 1) (ho : okC k j i) (hs : shape E k j i (m k j i) = .inr (ci, fs)) (hs2 : shape E k j i (upd1 (m k j i) x v) = .inr (ci, fs.set x (.int (iI v)))) (hl : x < fs.length) (kt : T E d M (pc + 3) ls st (hp E (up m k j i x v)) Q) : T E d M pc ls (.int (iI v) :: rf E k j i :: st) (hp E m) Q := by
  refine T.putf hd hF (hp_in ho) ((lay_at ho).trans hs) (narZ h01) (fitZ h01) hl ?_
  rw [hp_st ho hs2, ← up_S]
  exact kt
theorem T.mild {n x : Nat} {y : Int} (hd : decode M.2.1 pc = .ok (.iaload, 1)) (ho : okC k j i) (hs : ∀ g, shape E k j i g = ints E n g) (hi : y = x) (hN : x < n) (kt : T E d M (pc + 1) ls (.int (iI (m k j i x)) :: st) (hp E m) Q) (hn : n < 2147483648 := by decide) : T E d M pc ls (.int (iI y) :: rf E k j i :: st) (hp E m) Q :=
  T.iald hd (hp_in ho) ((lay_at ho).trans (hs _)) hi hN hn kt
theorem T.mlld {n x : Nat} {y : Int} (hd : decode M.2.1 pc = .ok (.laload, 1)) (ho : okC k j i) (hs : ∀ g, shape E k j i g = longs E n g) (hi : y = x) (hN : x < n) (kt : T E d M (pc + 1) ls (.long (lI (m k j i x)) :: st) (hp E m) Q) (hn : n < 2147483648 := by decide) : T E d M pc ls (.int (iI y) :: rf E k j i :: st) (hp E m) Q :=
  T.lald hd (hp_in ho) ((lay_at ho).trans (hs _)) hi hN hn kt
theorem T.mzld {n x : Nat} {y : Int} (hd : decode M.2.1 pc = .ok (.baload, 1)) (ho : okC k j i) (hs : ∀ g, shape E k j i g = bools E n g) (hi : y = x) (hN : x < n) (kt : T E d M (pc + 1) ls (.int (iI (m k j i x)) :: st) (hp E m) Q) (hn : n < 2147483648 := by decide) : T E d M pc ls (.int (iI y) :: rf E k j i :: st) (hp E m) Q :=
  T.zald hd (hp_in ho) ((lay_at ho).trans (hs _)) hi hN hn kt
theorem T.mald {t n x : Nat} {y : Int} {C : String} {f : Nat → Nat} (hd : decode M.2.1 pc = .ok (.aaload, 1)) (ho : okC k j i) (hs : ∀ g, shape E k j i g = refs E t n f) (ht : (tyL E.2.2.2.1)[t]? = some (E.2.2.2.1 t, .object C)) (hi : y = x) (hN : x < n) (kt : T E d M (pc + 1) ls (.ref (f x) :: st) (hp E m) Q) (hn : n < 2147483648 := by decide) : T E d M pc ls (.int (iI y) :: rf E k j i :: st) (hp E m) Q :=
  T.aald hd (hp_in ho) ((lay_at ho).trans (hs _)) ht hi hN hn kt
theorem T.mlenI {n : Nat} (hd : decode M.2.1 pc = .ok (.arraylength, 1)) (ho : okC k j i) (hs : ∀ g, shape E k j i g = ints E n g) (kt : T E d M (pc + 1) ls (.int (iI n) :: st) (hp E m) Q) : T E d M pc ls (rf E k j i :: st) (hp E m) Q :=
  T.alen (ty := .int) hd (hp_in ho) ((lay_at ho).trans (hs _)) rfl kt
theorem T.mlenL {n : Nat} (hd : decode M.2.1 pc = .ok (.arraylength, 1)) (ho : okC k j i) (hs : ∀ g, shape E k j i g = longs E n g) (kt : T E d M (pc + 1) ls (.int (iI n) :: st) (hp E m) Q) : T E d M pc ls (rf E k j i :: st) (hp E m) Q :=
  T.alen (ty := .long) hd (hp_in ho) ((lay_at ho).trans (hs _)) rfl kt
theorem ints_up {n : Nat} {g : Nat → Int} {x : Nat} {v : Int} : ints E n (upd1 g x v) = .inl (E.2.2.2.1 0, n, .inl (upd (fun y => iI (g y)) x (iI v))) := by
  unfold ints upd1 upd
  congr 4
  funext y
  split <;> rfl
theorem bools_up {n : Nat} {g : Nat → Int} {x : Nat} {v : Int} : bools E n (upd1 g x v) = .inl (E.2.2.2.1 2, n, .inl (upd (fun y => iI (g y)) x (iI v))) := by
  unfold bools upd1 upd
  congr 4
  funext y
  split <;> rfl
theorem longs_up {n : Nat} {g : Nat → Int} {x : Nat} {v : Int} : longs E n (upd1 g x v) = .inl (E.2.2.2.1 1, n, .inr (.inl (vp_updL (fun y => lI (g y)) x (lI v)))) := by
  unfold longs upd1 vp_updL
  congr 5
  funext y
  split <;> rfl
theorem T.mist {n x : Nat} {y v : Int} (hd : decode M.2.1 pc = .ok (.iastore, 1)) (ho : okC k j i) (hs : ∀ g, shape E k j i g = ints E n g) (hi : y = x) (hN : x < n) (kt : T E d M (pc + 1) ls st (hp E (up m k j i x v)) Q) (hn : n < 2147483648 := by decide) : T E d M pc ls (.int (iI v) :: .int (iI y) :: rf E k j i :: st) (hp E m) Q := by
  refine T.iast hd (hp_in ho) ((lay_at ho).trans (hs _)) hi hN hn ?_
  rw [hp_st ho ((hs _).trans ints_up), ← up_S]
  exact kt
theorem T.mlst {n x : Nat} {y v : Int} (hd : decode M.2.1 pc = .ok (.lastore, 1)) (ho : okC k j i) (hs : ∀ g, shape E k j i g = longs E n g) (hi : y = x) (hN : x < n) (kt : T E d M (pc + 1) ls st (hp E (up m k j i x v)) Q) (hn : n < 2147483648 := by decide) : T E d M pc ls (.long (lI v) :: .int (iI y) :: rf E k j i :: st) (hp E m) Q := by
  refine T.last hd (hp_in ho) ((lay_at ho).trans (hs _)) hi hN hn ?_
  rw [hp_st ho ((hs _).trans longs_up), ← up_S]
  exact kt
theorem T.mzst {n x : Nat} {y v : Int} (hd : decode M.2.1 pc = .ok (.bastore, 1)) (ho : okC k j i) (hs : ∀ g, shape E k j i g = bools E n g) (hi : y = x) (hN : x < n) (h01 : v = 0 ∨ v = 1) (kt : T E d M (pc + 1) ls st (hp E (up m k j i x v)) Q) (hn : n < 2147483648 := by decide) : T E d M pc ls (.int (iI v) :: .int (iI y) :: rf E k j i :: st) (hp E m) Q := by
  refine T.zast hd (hp_in ho) ((lay_at ho).trans (hs _)) hi hN hn h01 ?_
  rw [hp_st ho ((hs _).trans bools_up), ← up_S]
  exact kt
/-- the first n of one row come into another -/
def cpS (m : Mem) (k j i k0 j0 i0 n : Nat) : Mem := updS m k j i (fun x => if x < n then m k0 j0 i0 x else m k j i x)
theorem T.mcpi {n n0 n1 k0 j0 i0 : Nat} {xs xd xn : Int} (hd : decode M.2.1 pc = .ok (.invokestatic idx, 3)) (hk : LKC M.1.cls idx) (ho : okC k j i) (hs : ∀ g, shape E k j i g = ints E n1 g) (ho0 : okC k0 j0 i0) (hs0 : ∀ g, shape E k0 j0 i0 g = ints E n0 g) (h1 : xs = 0) (h2 : xd = 0) (h3 : xn = n) (h4 : n ≤ n0) (h5 : n ≤ n1) (hdd : 1 ≤ d) (hrm : (st.map fun v => v.category).sum ≤ 8) (kt : T E d M (pc + 3) ls st (hp E (cpS m k j i k0 j0 i0 n)) Q) (hn0 : n0 < 1000000 := by decide) (hn1 : n1 < 1000000 := by decide) : T E d M pc ls (.int (iI xn) :: .int (iI xd) :: rf E k j i :: .int (iI xs) :: rf E k0 j0 i0 :: st) (hp E m) Q := by
  refine T.copyi (sp := 0) (dp := 0) hd hk (hp_in ho) ((lay_at ho).trans (hs _)) (hp_in ho0) ((lay_at ho0).trans (hs0 _)) h1 h2 h3 (by omega) (by omega) hn0 hn1 hdd hrm ?_
  have : shape E k j i (fun x => if x < n then m k0 j0 i0 x else m k j i x) = .inl (E.2.2.2.1 0, n1, .inl (va_cpy (fun x => iI (m k0 j0 i0 x)) (fun x => iI (m k j i x)) 0 0 n)) := by
    rw [hs]
    unfold ints va_cpy
    congr 4
    funext x
    by_cases hx : x < n <;> simp [hx]
  rw [hp_st ho this]
  exact kt
theorem T.mcpl {n n0 n1 k0 j0 i0 : Nat} {xs xd xn : Int} (hd : decode M.2.1 pc = .ok (.invokestatic idx, 3)) (hk : LKC M.1.cls idx) (ho : okC k j i) (hs : ∀ g, shape E k j i g = longs E n1 g) (ho0 : okC k0 j0 i0) (hs0 : ∀ g, shape E k0 j0 i0 g = longs E n0 g) (h1 : xs = 0) (h2 : xd = 0) (h3 : xn = n) (h4 : n ≤ n0) (h5 : n ≤ n1) (hdd : 1 ≤ d) (hrm : (st.map fun v => v.category).sum ≤ 8) (kt : T E d M (pc + 3) ls st (hp E (cpS m k j i k0 j0 i0 n)) Q) (hn0 : n0 < 1000000 := by decide) (hn1 : n1 < 1000000 := by decide) : T E d M pc ls (.int (iI xn) :: .int (iI xd) :: rf E k j i :: .int (iI xs) :: rf E k0 j0 i0 :: st) (hp E m) Q := by
  refine T.copyl (sp := 0) (dp := 0) hd hk (hp_in ho) ((lay_at ho).trans (hs _)) (hp_in ho0) ((lay_at ho0).trans (hs0 _)) h1 h2 h3 (by omega) (by omega) hn0 hn1 hdd hrm ?_
  have : shape E k j i (fun x => if x < n then m k0 j0 i0 x else m k j i x) = .inl (E.2.2.2.1 1, n1, .inr (.inl (va_cpy (fun x => lI (m k0 j0 i0 x)) (fun x => lI (m k j i x)) 0 0 n))) := by
    rw [hs]
    unfold longs va_cpy
    congr 5
    funext x
    by_cases hx : x < n <;> simp [hx]
  rw [hp_st ho this]
  exact kt
theorem T.mcallV {n dc ci k0 : Nat} {T0 : u_T} {fs As : List Value} {r : Option Value} {h1 : Hp} (hd : decode M.2.1 pc = .ok (.invokevirtual idx, 3)) (hk : LKV M.1.cls idx N n) (hct : CT E dc N (rf E k j i :: As) (hp E m) r h1) (ho : okC k j i) (hs : shape E k j i (m k j i) = .inr (ci, fs)) (hci : vwCl[ci]? = some (N.1.cls, T0, k0)) (hdc : dc + 1 ≤ d) (hn : As.length = n) (hst : st0 = As.reverse ++ rf E k j i :: st) (hrm : (st.map fun v => v.category).sum ≤ 8) (kt : T E d M (pc + 3) ls (r.toList ++ st) h1 Q) : T E d M pc ls st0 (hp E m) Q :=
  T.callV hd hk hct (hp_in ho) ((lay_at ho).trans hs) hci hdc hn hst hrm kt
theorem T.tcallV {n dc ci k0 : Nat} {T0 : u_T} {fs As : List Value} {Qc : Option Value → Hp → Prop} (hd : decode M.2.1 pc = .ok (.invokevirtual idx, 3)) (hk : LKV M.1.cls idx N n) (hct : TC E dc N (rf E k j i :: As) (hp E m) Qc) (ho : okC k j i) (hs : shape E k j i (m k j i) = .inr (ci, fs)) (hci : vwCl[ci]? = some (N.1.cls, T0, k0)) (hdc : dc + 1 ≤ d) (hn : As.length = n) (hst : st0 = As.reverse ++ rf E k j i :: st) (hrm : (st.map fun v => v.category).sum ≤ 8) (kt : ∀ r h1, Qc r h1 → T E d M (pc + 3) ls (r.toList ++ st) h1 Q) : T E d M pc ls st0 (hp E m) Q := by
  obtain ⟨r, h1, hct, q⟩ := hct
  exact T.mcallV hd hk hct ho hs hci hdc hn hst hrm (kt r h1 q)
theorem T.tcallS {n dc : Nat} {As : List Value} {h : Hp} {Qc : Option Value → Hp → Prop} (hd : decode M.2.1 pc = .ok (.invokestatic idx, 3)) (hk : LKS M.1.cls idx N n) (hct : TC E dc N As h Qc) (hdc : dc + 1 ≤ d) (hn : As.length = n) (hst : st0 = As.reverse ++ st) (hrm : (st.map fun v => v.category).sum ≤ 8) (kt : ∀ r h1, Qc r h1 → T E d M (pc + 3) ls (r.toList ++ st) h1 Q) : T E d M pc ls st0 h Q := by
  obtain ⟨r, h1, hct, q⟩ := hct
  exact T.callS hd hk hct hdc hn hst hrm (kt r h1 q)
end MEM
end
