section
-- ===== PART A: goes FIRST, ahead of the names: the tables' words, and 'selects' of the private methods out of them =====
/-- a private method of a class that the tables say can be made, by its rows of tables_1 -/
def lw_okq (q : MethodName × Nat) : Prop := (q.1.cls ≠ "java/lang/invoke/MethodHandle" ∧ q.1.cls ≠ "java/lang/invoke/VarHandle") ∧ Cond.instantiable q.1.cls q.2 ∈ tables_1 ∧ Cond.privateMethod q.1 ∈ tables_1 ∧ Cond.instanceMethod q.1 ∈ tables_1
theorem lw_p0 : lw_okq (⟨"CarriedOrders", "remember", "()V"⟩, 11) := ⟨⟨by decide +kernel, by decide +kernel⟩, List.mem_of_getElem? (i := 9) (by decide +kernel), List.mem_of_getElem? (i := 124) (by decide +kernel), List.mem_of_getElem? (i := 125) (by decide +kernel)⟩
theorem lw_p1 : lw_okq (⟨"CarriedOrders", "possibleSets", "()I"⟩, 11) := ⟨⟨by decide +kernel, by decide +kernel⟩, List.mem_of_getElem? (i := 9) (by decide +kernel), List.mem_of_getElem? (i := 360) (by decide +kernel), List.mem_of_getElem? (i := 361) (by decide +kernel)⟩
theorem lw_p2 : lw_okq (⟨"CarriedOrders", "agreesWithSeen", "(I)Z"⟩, 11) := ⟨⟨by decide +kernel, by decide +kernel⟩, List.mem_of_getElem? (i := 9) (by decide +kernel), List.mem_of_getElem? (i := 364) (by decide +kernel), List.mem_of_getElem? (i := 365) (by decide +kernel)⟩
theorem lw_p3 : lw_okq (⟨"CarriedOrders", "mostAlike", "(II)I"⟩, 11) := ⟨⟨by decide +kernel, by decide +kernel⟩, List.mem_of_getElem? (i := 9) (by decide +kernel), List.mem_of_getElem? (i := 373) (by decide +kernel), List.mem_of_getElem? (i := 374) (by decide +kernel)⟩
theorem lw_p4 : lw_okq (⟨"CarriedOrdersModel", "start", "(II)V"⟩, 10) := ⟨⟨by decide +kernel, by decide +kernel⟩, List.mem_of_getElem? (i := 409) (by decide +kernel), List.mem_of_getElem? (i := 415) (by decide +kernel), List.mem_of_getElem? (i := 416) (by decide +kernel)⟩
theorem lw_p5 : lw_okq (⟨"CarriedOrdersModel", "note", "()V"⟩, 10) := ⟨⟨by decide +kernel, by decide +kernel⟩, List.mem_of_getElem? (i := 409) (by decide +kernel), List.mem_of_getElem? (i := 458) (by decide +kernel), List.mem_of_getElem? (i := 459) (by decide +kernel)⟩
theorem lw_p6 : lw_okq (⟨"CarriedOrdersModel", "isSite", "(I)Z"⟩, 10) := ⟨⟨by decide +kernel, by decide +kernel⟩, List.mem_of_getElem? (i := 409) (by decide +kernel), List.mem_of_getElem? (i := 466) (by decide +kernel), List.mem_of_getElem? (i := 467) (by decide +kernel)⟩
theorem lw_p7 : lw_okq (⟨"CarriedOrdersModel", "many", "()I"⟩, 10) := ⟨⟨by decide +kernel, by decide +kernel⟩, List.mem_of_getElem? (i := 409) (by decide +kernel), List.mem_of_getElem? (i := 470) (by decide +kernel), List.mem_of_getElem? (i := 471) (by decide +kernel)⟩
theorem lw_p8 : lw_okq (⟨"CarriedOrdersModel", "letters", "(II)I"⟩, 10) := ⟨⟨by decide +kernel, by decide +kernel⟩, List.mem_of_getElem? (i := 409) (by decide +kernel), List.mem_of_getElem? (i := 474) (by decide +kernel), List.mem_of_getElem? (i := 475) (by decide +kernel)⟩
theorem lw_p9 : lw_okq (⟨"CarriedOrdersModel", "write", "(IIIII)V"⟩, 10) := ⟨⟨by decide +kernel, by decide +kernel⟩, List.mem_of_getElem? (i := 409) (by decide +kernel), List.mem_of_getElem? (i := 481) (by decide +kernel), List.mem_of_getElem? (i := 482) (by decide +kernel)⟩
theorem lw_p10 : lw_okq (⟨"CarriedOrdersModel", "isWay", "(II)Z"⟩, 10) := ⟨⟨by decide +kernel, by decide +kernel⟩, List.mem_of_getElem? (i := 409) (by decide +kernel), List.mem_of_getElem? (i := 492) (by decide +kernel), List.mem_of_getElem? (i := 493) (by decide +kernel)⟩
theorem lw_p11 : lw_okq (⟨"CarriedOrdersModel", "had", "(II)I"⟩, 10) := ⟨⟨by decide +kernel, by decide +kernel⟩, List.mem_of_getElem? (i := 409) (by decide +kernel), List.mem_of_getElem? (i := 496) (by decide +kernel), List.mem_of_getElem? (i := 497) (by decide +kernel)⟩
theorem lw_p12 : lw_okq (⟨"CarriedOrdersModel", "receipts", "(I)I"⟩, 10) := ⟨⟨by decide +kernel, by decide +kernel⟩, List.mem_of_getElem? (i := 409) (by decide +kernel), List.mem_of_getElem? (i := 500) (by decide +kernel), List.mem_of_getElem? (i := 501) (by decide +kernel)⟩
theorem lw_p13 : lw_okq (⟨"CarriedOrdersModel", "ofReceipt", "(III)I"⟩, 10) := ⟨⟨by decide +kernel, by decide +kernel⟩, List.mem_of_getElem? (i := 409) (by decide +kernel), List.mem_of_getElem? (i := 504) (by decide +kernel), List.mem_of_getElem? (i := 505) (by decide +kernel)⟩
theorem lw_p14 : lw_okq (⟨"CarriedOrdersModel", "isDown", "(I)Z"⟩, 10) := ⟨⟨by decide +kernel, by decide +kernel⟩, List.mem_of_getElem? (i := 409) (by decide +kernel), List.mem_of_getElem? (i := 508) (by decide +kernel), List.mem_of_getElem? (i := 509) (by decide +kernel)⟩
theorem lw_p15 : lw_okq (⟨"CarriedOrdersModel", "stateOf", "(I)I"⟩, 10) := ⟨⟨by decide +kernel, by decide +kernel⟩, List.mem_of_getElem? (i := 409) (by decide +kernel), List.mem_of_getElem? (i := 515) (by decide +kernel), List.mem_of_getElem? (i := 516) (by decide +kernel)⟩
def lw_privs_1 : List (MethodName × Nat) := [(⟨"CarriedOrders", "remember", "()V"⟩, 11), (⟨"CarriedOrders", "possibleSets", "()I"⟩, 11), (⟨"CarriedOrders", "agreesWithSeen", "(I)Z"⟩, 11), (⟨"CarriedOrders", "mostAlike", "(II)I"⟩, 11), (⟨"CarriedOrdersModel", "start", "(II)V"⟩, 10), (⟨"CarriedOrdersModel", "note", "()V"⟩, 10), (⟨"CarriedOrdersModel", "isSite", "(I)Z"⟩, 10), (⟨"CarriedOrdersModel", "many", "()I"⟩, 10), (⟨"CarriedOrdersModel", "letters", "(II)I"⟩, 10), (⟨"CarriedOrdersModel", "write", "(IIIII)V"⟩, 10), (⟨"CarriedOrdersModel", "isWay", "(II)Z"⟩, 10), (⟨"CarriedOrdersModel", "had", "(II)I"⟩, 10), (⟨"CarriedOrdersModel", "receipts", "(I)I"⟩, 10), (⟨"CarriedOrdersModel", "ofReceipt", "(III)I"⟩, 10), (⟨"CarriedOrdersModel", "isDown", "(I)Z"⟩, 10), (⟨"CarriedOrdersModel", "stateOf", "(I)I"⟩, 10)]
theorem lw_r1 : ∀ q ∈ lw_privs_1, lw_okq q := List.forall_mem_cons.mpr ⟨lw_p0, List.forall_mem_cons.mpr ⟨lw_p1, List.forall_mem_cons.mpr ⟨lw_p2, List.forall_mem_cons.mpr ⟨lw_p3, List.forall_mem_cons.mpr ⟨lw_p4, List.forall_mem_cons.mpr ⟨lw_p5, List.forall_mem_cons.mpr ⟨lw_p6, List.forall_mem_cons.mpr ⟨lw_p7, List.forall_mem_cons.mpr ⟨lw_p8, List.forall_mem_cons.mpr ⟨lw_p9, List.forall_mem_cons.mpr ⟨lw_p10, List.forall_mem_cons.mpr ⟨lw_p11, List.forall_mem_cons.mpr ⟨lw_p12, List.forall_mem_cons.mpr ⟨lw_p13, List.forall_mem_cons.mpr ⟨lw_p14, List.forall_mem_cons.mpr ⟨lw_p15, fun _ h => absurd h List.not_mem_nil⟩⟩⟩⟩⟩⟩⟩⟩⟩⟩⟩⟩⟩⟩⟩⟩
theorem lw_p16 : lw_okq (⟨"CarriedOrdersModel", "know", "(III)V"⟩, 10) := ⟨⟨by decide +kernel, by decide +kernel⟩, List.mem_of_getElem? (i := 409) (by decide +kernel), List.mem_of_getElem? (i := 519) (by decide +kernel), List.mem_of_getElem? (i := 520) (by decide +kernel)⟩
theorem lw_p17 : lw_okq (⟨"CarriedOrdersModel", "knownBy", "(II)I"⟩, 10) := ⟨⟨by decide +kernel, by decide +kernel⟩, List.mem_of_getElem? (i := 409) (by decide +kernel), List.mem_of_getElem? (i := 523) (by decide +kernel), List.mem_of_getElem? (i := 524) (by decide +kernel)⟩
theorem lw_p18 : lw_okq (⟨"CarriedOrdersModel", "answer", "(III)V"⟩, 10) := ⟨⟨by decide +kernel, by decide +kernel⟩, List.mem_of_getElem? (i := 409) (by decide +kernel), List.mem_of_getElem? (i := 530) (by decide +kernel), List.mem_of_getElem? (i := 531) (by decide +kernel)⟩
theorem lw_p19 : lw_okq (⟨"CarriedOrdersModel", "findKept", "(I)V"⟩, 10) := ⟨⟨by decide +kernel, by decide +kernel⟩, List.mem_of_getElem? (i := 409) (by decide +kernel), List.mem_of_getElem? (i := 545) (by decide +kernel), List.mem_of_getElem? (i := 546) (by decide +kernel)⟩
theorem lw_p20 : lw_okq (⟨"CarriedOrdersModel", "heldBut", "(I)I"⟩, 10) := ⟨⟨by decide +kernel, by decide +kernel⟩, List.mem_of_getElem? (i := 409) (by decide +kernel), List.mem_of_getElem? (i := 549) (by decide +kernel), List.mem_of_getElem? (i := 550) (by decide +kernel)⟩
theorem lw_p21 : lw_okq (⟨"CarriedOrdersModel", "birthOf", "(II)I"⟩, 10) := ⟨⟨by decide +kernel, by decide +kernel⟩, List.mem_of_getElem? (i := 409) (by decide +kernel), List.mem_of_getElem? (i := 553) (by decide +kernel), List.mem_of_getElem? (i := 554) (by decide +kernel)⟩
theorem lw_p22 : lw_okq (⟨"CarriedOrdersModel", "isKeptCode", "(I)Z"⟩, 10) := ⟨⟨by decide +kernel, by decide +kernel⟩, List.mem_of_getElem? (i := 409) (by decide +kernel), List.mem_of_getElem? (i := 557) (by decide +kernel), List.mem_of_getElem? (i := 558) (by decide +kernel)⟩
theorem lw_p23 : lw_okq (⟨"CarriedOrdersModel", "lost", "()I"⟩, 10) := ⟨⟨by decide +kernel, by decide +kernel⟩, List.mem_of_getElem? (i := 409) (by decide +kernel), List.mem_of_getElem? (i := 561) (by decide +kernel), List.mem_of_getElem? (i := 562) (by decide +kernel)⟩
theorem lw_p24 : lw_okq (⟨"CarriedOrdersModel", "codesKept", "()I"⟩, 10) := ⟨⟨by decide +kernel, by decide +kernel⟩, List.mem_of_getElem? (i := 409) (by decide +kernel), List.mem_of_getElem? (i := 565) (by decide +kernel), List.mem_of_getElem? (i := 566) (by decide +kernel)⟩
theorem lw_p25 : lw_okq (⟨"CarriedOrdersModel", "dropLetters", "(I)V"⟩, 10) := ⟨⟨by decide +kernel, by decide +kernel⟩, List.mem_of_getElem? (i := 409) (by decide +kernel), List.mem_of_getElem? (i := 569) (by decide +kernel), List.mem_of_getElem? (i := 570) (by decide +kernel)⟩
theorem lw_p26 : lw_okq (⟨"CarriedOrdersModel", "raiseAll", "(II)V"⟩, 10) := ⟨⟨by decide +kernel, by decide +kernel⟩, List.mem_of_getElem? (i := 409) (by decide +kernel), List.mem_of_getElem? (i := 573) (by decide +kernel), List.mem_of_getElem? (i := 574) (by decide +kernel)⟩
theorem lw_p27 : lw_okq (⟨"CarriedOrdersModel", "written", "(I)I"⟩, 10) := ⟨⟨by decide +kernel, by decide +kernel⟩, List.mem_of_getElem? (i := 409) (by decide +kernel), List.mem_of_getElem? (i := 585) (by decide +kernel), List.mem_of_getElem? (i := 586) (by decide +kernel)⟩
theorem lw_p28 : lw_okq (⟨"CarriedOrdersModel", "isReceipt", "(II)Z"⟩, 10) := ⟨⟨by decide +kernel, by decide +kernel⟩, List.mem_of_getElem? (i := 409) (by decide +kernel), List.mem_of_getElem? (i := 593) (by decide +kernel), List.mem_of_getElem? (i := 594) (by decide +kernel)⟩
theorem lw_p29 : lw_okq (⟨"CarriedOrdersModel", "holders", "(I)I"⟩, 10) := ⟨⟨by decide +kernel, by decide +kernel⟩, List.mem_of_getElem? (i := 409) (by decide +kernel), List.mem_of_getElem? (i := 597) (by decide +kernel), List.mem_of_getElem? (i := 598) (by decide +kernel)⟩
theorem lw_p30 : lw_okq (⟨"CarriedOrdersModel", "isSafe", "(II)Z"⟩, 10) := ⟨⟨by decide +kernel, by decide +kernel⟩, List.mem_of_getElem? (i := 409) (by decide +kernel), List.mem_of_getElem? (i := 601) (by decide +kernel), List.mem_of_getElem? (i := 602) (by decide +kernel)⟩
theorem lw_p31 : lw_okq (⟨"CarriedOrdersModel", "pastOf", "(II)I"⟩, 10) := ⟨⟨by decide +kernel, by decide +kernel⟩, List.mem_of_getElem? (i := 409) (by decide +kernel), List.mem_of_getElem? (i := 605) (by decide +kernel), List.mem_of_getElem? (i := 606) (by decide +kernel)⟩
def lw_privs_2 : List (MethodName × Nat) := [(⟨"CarriedOrdersModel", "know", "(III)V"⟩, 10), (⟨"CarriedOrdersModel", "knownBy", "(II)I"⟩, 10), (⟨"CarriedOrdersModel", "answer", "(III)V"⟩, 10), (⟨"CarriedOrdersModel", "findKept", "(I)V"⟩, 10), (⟨"CarriedOrdersModel", "heldBut", "(I)I"⟩, 10), (⟨"CarriedOrdersModel", "birthOf", "(II)I"⟩, 10), (⟨"CarriedOrdersModel", "isKeptCode", "(I)Z"⟩, 10), (⟨"CarriedOrdersModel", "lost", "()I"⟩, 10), (⟨"CarriedOrdersModel", "codesKept", "()I"⟩, 10), (⟨"CarriedOrdersModel", "dropLetters", "(I)V"⟩, 10), (⟨"CarriedOrdersModel", "raiseAll", "(II)V"⟩, 10), (⟨"CarriedOrdersModel", "written", "(I)I"⟩, 10), (⟨"CarriedOrdersModel", "isReceipt", "(II)Z"⟩, 10), (⟨"CarriedOrdersModel", "holders", "(I)I"⟩, 10), (⟨"CarriedOrdersModel", "isSafe", "(II)Z"⟩, 10), (⟨"CarriedOrdersModel", "pastOf", "(II)I"⟩, 10)]
theorem lw_r2 : ∀ q ∈ lw_privs_2, lw_okq q := List.forall_mem_cons.mpr ⟨lw_p16, List.forall_mem_cons.mpr ⟨lw_p17, List.forall_mem_cons.mpr ⟨lw_p18, List.forall_mem_cons.mpr ⟨lw_p19, List.forall_mem_cons.mpr ⟨lw_p20, List.forall_mem_cons.mpr ⟨lw_p21, List.forall_mem_cons.mpr ⟨lw_p22, List.forall_mem_cons.mpr ⟨lw_p23, List.forall_mem_cons.mpr ⟨lw_p24, List.forall_mem_cons.mpr ⟨lw_p25, List.forall_mem_cons.mpr ⟨lw_p26, List.forall_mem_cons.mpr ⟨lw_p27, List.forall_mem_cons.mpr ⟨lw_p28, List.forall_mem_cons.mpr ⟨lw_p29, List.forall_mem_cons.mpr ⟨lw_p30, List.forall_mem_cons.mpr ⟨lw_p31, fun _ h => absurd h List.not_mem_nil⟩⟩⟩⟩⟩⟩⟩⟩⟩⟩⟩⟩⟩⟩⟩⟩
theorem lw_p32 : lw_okq (⟨"CarriedOrdersModel", "orphans", "(I)I"⟩, 10) := ⟨⟨by decide +kernel, by decide +kernel⟩, List.mem_of_getElem? (i := 409) (by decide +kernel), List.mem_of_getElem? (i := 632) (by decide +kernel), List.mem_of_getElem? (i := 633) (by decide +kernel)⟩
theorem lw_p33 : lw_okq (⟨"CarriedOrdersModel", "fits", "(I)Z"⟩, 10) := ⟨⟨by decide +kernel, by decide +kernel⟩, List.mem_of_getElem? (i := 409) (by decide +kernel), List.mem_of_getElem? (i := 652) (by decide +kernel), List.mem_of_getElem? (i := 653) (by decide +kernel)⟩
theorem lw_p34 : lw_okq (⟨"CarriedOrdersModel", "greatest", "(I)I"⟩, 10) := ⟨⟨by decide +kernel, by decide +kernel⟩, List.mem_of_getElem? (i := 409) (by decide +kernel), List.mem_of_getElem? (i := 661) (by decide +kernel), List.mem_of_getElem? (i := 662) (by decide +kernel)⟩
theorem lw_p35 : lw_okq (⟨"CarriedOrdersModel", "allReceipts", "()I"⟩, 10) := ⟨⟨by decide +kernel, by decide +kernel⟩, List.mem_of_getElem? (i := 409) (by decide +kernel), List.mem_of_getElem? (i := 669) (by decide +kernel), List.mem_of_getElem? (i := 670) (by decide +kernel)⟩
theorem lw_p36 : lw_okq (⟨"CarriedOrdersModel", "allLetters", "()I"⟩, 10) := ⟨⟨by decide +kernel, by decide +kernel⟩, List.mem_of_getElem? (i := 409) (by decide +kernel), List.mem_of_getElem? (i := 681) (by decide +kernel), List.mem_of_getElem? (i := 682) (by decide +kernel)⟩
theorem lw_p37 : lw_okq (⟨"CarriedOrdersModel", "allSafe", "()I"⟩, 10) := ⟨⟨by decide +kernel, by decide +kernel⟩, List.mem_of_getElem? (i := 409) (by decide +kernel), List.mem_of_getElem? (i := 685) (by decide +kernel), List.mem_of_getElem? (i := 686) (by decide +kernel)⟩
theorem lw_p38 : lw_okq (⟨"CarriedOrdersModel", "allCarried", "()I"⟩, 10) := ⟨⟨by decide +kernel, by decide +kernel⟩, List.mem_of_getElem? (i := 409) (by decide +kernel), List.mem_of_getElem? (i := 689) (by decide +kernel), List.mem_of_getElem? (i := 690) (by decide +kernel)⟩
def lw_privs_3 : List (MethodName × Nat) := [(⟨"CarriedOrdersModel", "orphans", "(I)I"⟩, 10), (⟨"CarriedOrdersModel", "fits", "(I)Z"⟩, 10), (⟨"CarriedOrdersModel", "greatest", "(I)I"⟩, 10), (⟨"CarriedOrdersModel", "allReceipts", "()I"⟩, 10), (⟨"CarriedOrdersModel", "allLetters", "()I"⟩, 10), (⟨"CarriedOrdersModel", "allSafe", "()I"⟩, 10), (⟨"CarriedOrdersModel", "allCarried", "()I"⟩, 10)]
theorem lw_r3 : ∀ q ∈ lw_privs_3, lw_okq q := List.forall_mem_cons.mpr ⟨lw_p32, List.forall_mem_cons.mpr ⟨lw_p33, List.forall_mem_cons.mpr ⟨lw_p34, List.forall_mem_cons.mpr ⟨lw_p35, List.forall_mem_cons.mpr ⟨lw_p36, List.forall_mem_cons.mpr ⟨lw_p37, List.forall_mem_cons.mpr ⟨lw_p38, fun _ h => absurd h List.not_mem_nil⟩⟩⟩⟩⟩⟩⟩
def lw_privs : List (MethodName × Nat) := lw_privs_1 ++ (lw_privs_2 ++ (lw_privs_3))
def lw_tbl : List Cond := k2_sels lw_privs ++ tables_1
theorem lw_privs_ok : ∀ q ∈ lw_privs, lw_okq q := by
  show ∀ q ∈ lw_privs_1 ++ (lw_privs_2 ++ (lw_privs_3)), lw_okq q
  exact List.forall_mem_append.mpr ⟨lw_r1, List.forall_mem_append.mpr ⟨lw_r2, lw_r3⟩⟩
def RX0 : String := "CarriedOrders$World"
def TX0 : u_T := fun k => match k with
  | 0 => ("CarriedOrders$World", "sites", "I", false)
  | 1 => ("CarriedOrders$World", "enough", "I", false)
  | 2 => ("CarriedOrders$World", "down", "I", false)
  | 3 => ("CarriedOrders$World", "receipts", "[I", true)
  | 4 => ("CarriedOrders$World", "from", "[I", true)
  | 5 => ("CarriedOrders$World", "number", "[I", true)
  | 6 => ("CarriedOrders$World", "behind", "[I", true)
  | 7 => ("CarriedOrders$World", "pasts", "[I", true)
  | 8 => ("CarriedOrders$World", "written", "[I", true)
  | 9 => ("CarriedOrders$World", "content", "[I", true)
  | 10 => ("CarriedOrders$World", "birth", "[I", true)
  | 11 => ("CarriedOrders$World", "carried", "[I", true)
  | 12 => ("CarriedOrders$World", "told", "[I", true)
  | _ => ("CarriedOrders$World", "known", "[I", true)
def tyX0 : Nat → FieldType := fun k => match k with
  | 0 => .int
  | 1 => .int
  | 2 => .int
  | 3 => .array .int
  | 4 => .array .int
  | 5 => .array .int
  | 6 => .array .int
  | 7 => .array .int
  | 8 => .array .int
  | 9 => .array .int
  | 10 => .array .int
  | 11 => .array .int
  | 12 => .array .int
  | _ => .array .int
abbrev wsX00 : List Cond := u_ws RX0 TX0 14
theorem nmX0 : ∀ a, a < 14 → ∀ b, b < 14 → a ≠ b → (TX0 a).2.1 ≠ (TX0 b).2.1 := by decide +kernel
theorem tyX0_ok : ∀ k, k < 14 → parseFieldDescriptor (TX0 k).2.2.1 = some (tyX0 k) := by decide +kernel
abbrev cX0_init : ByteArray := prog_2_method_1_code
def yX0_init : MethodName := ⟨RX0, "<init>", "()V"⟩
abbrev cX0_start : ByteArray := prog_2_method_2_code
def yX0_start : MethodName := ⟨RX0, "start", "(II)V"⟩
abbrev cX0_become : ByteArray := prog_2_method_3_code
def yX0_become : MethodName := ⟨RX0, "become", "(LCarriedOrders$World;)V"⟩
abbrev cX0_codeOf : ByteArray := prog_2_method_4_code
def yX0_codeOf : MethodName := ⟨RX0, "codeOf", "(II)I"⟩
abbrev cX0_codesOf : ByteArray := prog_2_method_5_code
def yX0_codesOf : MethodName := ⟨RX0, "codesOf", "(I)I"⟩
abbrev cX0_receiptsIn : ByteArray := prog_2_method_6_code
def yX0_receiptsIn : MethodName := ⟨RX0, "receiptsIn", "(II)I"⟩
abbrev cX0_wayOf : ByteArray := prog_2_method_7_code
def yX0_wayOf : MethodName := ⟨RX0, "wayOf", "(II)I"⟩
abbrev cX0_letterOn : ByteArray := prog_2_method_8_code
def yX0_letterOn : MethodName := ⟨RX0, "letterOn", "(III)I"⟩
abbrev cX0_isSite : ByteArray := prog_2_method_9_code
def yX0_isSite : MethodName := ⟨RX0, "isSite", "(I)Z"⟩
abbrev cX0_isWay : ByteArray := prog_2_method_10_code
def yX0_isWay : MethodName := ⟨RX0, "isWay", "(II)Z"⟩
abbrev cX0_isReceipt : ByteArray := prog_2_method_11_code
def yX0_isReceipt : MethodName := ⟨RX0, "isReceipt", "(II)Z"⟩
abbrev cX0_isDown : ByteArray := prog_2_method_12_code
def yX0_isDown : MethodName := ⟨RX0, "isDown", "(I)Z"⟩
abbrev cX0_allSites : ByteArray := prog_2_method_13_code
def yX0_allSites : MethodName := ⟨RX0, "allSites", "()I"⟩
abbrev cX0_stateOf : ByteArray := prog_2_method_14_code
def yX0_stateOf : MethodName := ⟨RX0, "stateOf", "(I)I"⟩
abbrev cX0_allReceipts : ByteArray := prog_2_method_15_code
def yX0_allReceipts : MethodName := ⟨RX0, "allReceipts", "()I"⟩
abbrev cX0_lettersOn : ByteArray := prog_2_method_16_code
def yX0_lettersOn : MethodName := ⟨RX0, "lettersOn", "(II)I"⟩
abbrev cX0_lettersBy : ByteArray := prog_2_method_17_code
def yX0_lettersBy : MethodName := ⟨RX0, "lettersBy", "(I)I"⟩
abbrev cX0_allLetters : ByteArray := prog_2_method_18_code
def yX0_allLetters : MethodName := ⟨RX0, "allLetters", "()I"⟩
abbrev cX0_allCarried : ByteArray := prog_2_method_19_code
def yX0_allCarried : MethodName := ⟨RX0, "allCarried", "()I"⟩
abbrev cX0_carriedOn : ByteArray := prog_2_method_20_code
def yX0_carriedOn : MethodName := ⟨RX0, "carriedOn", "(II)I"⟩
abbrev cX0_takenFrom : ByteArray := prog_2_method_21_code
def yX0_takenFrom : MethodName := ⟨RX0, "takenFrom", "(II)I"⟩
abbrev cX0_heldBy : ByteArray := prog_2_method_22_code
def yX0_heldBy : MethodName := ⟨RX0, "heldBy", "(I)I"⟩
abbrev cX0_holdersOf : ByteArray := prog_2_method_23_code
def yX0_holdersOf : MethodName := ⟨RX0, "holdersOf", "(I)I"⟩
abbrev cX0_holdersKnown : ByteArray := prog_2_method_24_code
def yX0_holdersKnown : MethodName := ⟨RX0, "holdersKnown", "(II)I"⟩
abbrev cX0_isSafe : ByteArray := prog_2_method_25_code
def yX0_isSafe : MethodName := ⟨RX0, "isSafe", "(I)Z"⟩
abbrev cX0_safeReceipts : ByteArray := prog_2_method_26_code
def yX0_safeReceipts : MethodName := ⟨RX0, "safeReceipts", "()I"⟩
abbrev cX0_unsafeFor : ByteArray := prog_2_method_27_code
def yX0_unsafeFor : MethodName := ⟨RX0, "unsafeFor", "(I)I"⟩
abbrev cX0_write : ByteArray := prog_2_method_28_code
def yX0_write : MethodName := ⟨RX0, "write", "(IIIII)V"⟩
abbrev cX0_take : ByteArray := prog_2_method_29_code
def yX0_take : MethodName := ⟨RX0, "take", "(II)V"⟩
abbrev cX0_pastAhead : ByteArray := prog_2_method_30_code
def yX0_pastAhead : MethodName := ⟨RX0, "pastAhead", "(I)I"⟩
abbrev cX0_pastOfBirth : ByteArray := prog_2_method_31_code
def yX0_pastOfBirth : MethodName := ⟨RX0, "pastOfBirth", "(I)I"⟩
abbrev cX0_learn : ByteArray := prog_2_method_32_code
def yX0_learn : MethodName := ⟨RX0, "learn", "(III)V"⟩
abbrev cX0_answer : ByteArray := prog_2_method_33_code
def yX0_answer : MethodName := ⟨RX0, "answer", "(II)V"⟩
abbrev cX0_crash : ByteArray := prog_2_method_34_code
def yX0_crash : MethodName := ⟨RX0, "crash", "(I)V"⟩
abbrev cX0_keptIfDown : ByteArray := prog_2_method_35_code
def yX0_keptIfDown : MethodName := ⟨RX0, "keptIfDown", "(I)I"⟩
abbrev cX0_lostBut : ByteArray := prog_2_method_36_code
def yX0_lostBut : MethodName := ⟨RX0, "lostBut", "(I)I"⟩
abbrev cX0_orphansBut : ByteArray := prog_2_method_37_code
def yX0_orphansBut : MethodName := ⟨RX0, "orphansBut", "(II)I"⟩
abbrev cX0_raiseAll : ByteArray := prog_2_method_38_code
def yX0_raiseAll : MethodName := ⟨RX0, "raiseAll", "()I"⟩
abbrev cX0_keepLettersOn : ByteArray := prog_2_method_39_code
def yX0_keepLettersOn : MethodName := ⟨RX0, "keepLettersOn", "(III)V"⟩
abbrev cX0_learnAll : ByteArray := prog_2_method_40_code
def yX0_learnAll : MethodName := ⟨RX0, "learnAll", "(II)V"⟩
abbrev cX0_tellTheRaised : ByteArray := prog_2_method_41_code
def yX0_tellTheRaised : MethodName := ⟨RX0, "tellTheRaised", "()V"⟩
def RX1 : String := "CarriedOrders"
def TX1 : u_T := fun k => match k with
  | 0 => ("CarriedOrders", "now", "LCarriedOrders$World;", true)
  | 1 => ("CarriedOrders", "earlier", "[LCarriedOrders$World;", true)
  | 2 => ("CarriedOrders", "nextEarlier", "I", false)
  | 3 => ("CarriedOrders", "undoable", "I", false)
  | 4 => ("CarriedOrders", "images", "[LCarriedOrders$World;", true)
  | 5 => ("CarriedOrders", "imagesKept", "I", false)
  | 6 => ("CarriedOrders", "seenSite", "[I", true)
  | 7 => ("CarriedOrders", "seenReceipts", "[I", true)
  | 8 => ("CarriedOrders", "seen", "I", false)
  | 9 => ("CarriedOrders", "keptBySet", "[I", true)
  | _ => ("CarriedOrders", "tally", "[I", true)
def tyX1 : Nat → FieldType := fun k => match k with
  | 0 => .object "CarriedOrders$World"
  | 1 => .array (.object "CarriedOrders$World")
  | 2 => .int
  | 3 => .int
  | 4 => .array (.object "CarriedOrders$World")
  | 5 => .int
  | 6 => .array .int
  | 7 => .array .int
  | 8 => .int
  | 9 => .array .int
  | _ => .array .int
abbrev wsX10 : List Cond := u_ws RX1 TX1 11
theorem nmX1 : ∀ a, a < 11 → ∀ b, b < 11 → a ≠ b → (TX1 a).2.1 ≠ (TX1 b).2.1 := by decide +kernel
theorem tyX1_ok : ∀ k, k < 11 → parseFieldDescriptor (TX1 k).2.2.1 = some (tyX1 k) := by decide +kernel
abbrev cX1_init : ByteArray := prog_1_method_1_code
def yX1_init : MethodName := ⟨RX1, "<init>", "()V"⟩
abbrev cX1_begins : ByteArray := prog_1_method_2_code
def yX1_begins : MethodName := ⟨RX1, "begins", "(II)I"⟩
abbrev cX1_puts : ByteArray := prog_1_method_3_code
def yX1_puts : MethodName := ⟨RX1, "puts", "(II)I"⟩
abbrev cX1_receives : ByteArray := prog_1_method_4_code
def yX1_receives : MethodName := ⟨RX1, "receives", "(II)I"⟩
abbrev cX1_crashes : ByteArray := prog_1_method_5_code
def yX1_crashes : MethodName := ⟨RX1, "crashes", "(I)I"⟩
abbrev cX1_raises : ByteArray := prog_1_method_6_code
def yX1_raises : MethodName := ⟨RX1, "raises", "()I"⟩
abbrev cX1_undo : ByteArray := prog_1_method_7_code
def yX1_undo : MethodName := ⟨RX1, "undo", "()I"⟩
abbrev cX1_site : ByteArray := prog_1_method_8_code
def yX1_site : MethodName := ⟨RX1, "site", "(II)I"⟩
abbrev cX1_receipt : ByteArray := prog_1_method_9_code
def yX1_receipt : MethodName := ⟨RX1, "receipt", "(III)I"⟩
abbrev cX1_letter : ByteArray := prog_1_method_10_code
def yX1_letter : MethodName := ⟨RX1, "letter", "(IIII)I"⟩
abbrev cX1_carries : ByteArray := prog_1_method_11_code
def yX1_carries : MethodName := ⟨RX1, "carries", "(IIII)I"⟩
abbrev cX1_knows : ByteArray := prog_1_method_12_code
def yX1_knows : MethodName := ⟨RX1, "knows", "(II)I"⟩
abbrev cX1_past : ByteArray := prog_1_method_13_code
def yX1_past : MethodName := ⟨RX1, "past", "(III)I"⟩
abbrev cX1_risk : ByteArray := prog_1_method_14_code
def yX1_risk : MethodName := ⟨RX1, "risk", "(II)I"⟩
abbrev cX1_worst : ByteArray := prog_1_method_15_code
def yX1_worst : MethodName := ⟨RX1, "worst", "(I)I"⟩
abbrev cX1_sees : ByteArray := prog_1_method_16_code
def yX1_sees : MethodName := ⟨RX1, "sees", "(II)I"⟩
abbrev cX1_forget : ByteArray := prog_1_method_17_code
def yX1_forget : MethodName := ⟨RX1, "forget", "()I"⟩
abbrev cX1_which : ByteArray := prog_1_method_18_code
def yX1_which : MethodName := ⟨RX1, "which", "(I)I"⟩
abbrev cX1_ask : ByteArray := prog_1_method_19_code
def yX1_ask : MethodName := ⟨RX1, "ask", "()I"⟩
abbrev cX1_keep : ByteArray := prog_1_method_20_code
def yX1_keep : MethodName := ⟨RX1, "keep", "(I)I"⟩
abbrev cX1_back : ByteArray := prog_1_method_21_code
def yX1_back : MethodName := ⟨RX1, "back", "(I)I"⟩
abbrev cX1_count : ByteArray := prog_1_method_22_code
def yX1_count : MethodName := ⟨RX1, "count", "(I)I"⟩
abbrev cX1_remember : ByteArray := prog_1_method_23_code
def yX1_remember : MethodName := ⟨RX1, "remember", "()V"⟩
abbrev cX1_possibleSets : ByteArray := prog_1_method_24_code
def yX1_possibleSets : MethodName := ⟨RX1, "possibleSets", "()I"⟩
abbrev cX1_agreesWithSeen : ByteArray := prog_1_method_25_code
def yX1_agreesWithSeen : MethodName := ⟨RX1, "agreesWithSeen", "(I)Z"⟩
abbrev cX1_mostAlike : ByteArray := prog_1_method_26_code
def yX1_mostAlike : MethodName := ⟨RX1, "mostAlike", "(II)I"⟩
abbrev cX1_numberAt : ByteArray := prog_1_method_27_code
def yX1_numberAt : MethodName := ⟨RX1, "numberAt", "(II)I"⟩
def RX2 : String := "CarriedOrdersModel"
def TX2 : u_T := fun k => match k with
  | 0 => ("CarriedOrdersModel", "now", "[I", true)
  | 1 => ("CarriedOrdersModel", "past", "[I", true)
  | 2 => ("CarriedOrdersModel", "pasts", "I", false)
  | 3 => ("CarriedOrdersModel", "images", "[I", true)
  | 4 => ("CarriedOrdersModel", "isKept", "[Z", true)
  | 5 => ("CarriedOrdersModel", "seen", "I", false)
  | 6 => ("CarriedOrdersModel", "seenSite", "[I", true)
  | 7 => ("CarriedOrdersModel", "seenMany", "[I", true)
  | 8 => ("CarriedOrdersModel", "kept", "[I", true)
  | _ => ("CarriedOrdersModel", "tally", "[I", true)
def tyX2 : Nat → FieldType := fun k => match k with
  | 0 => .array .int
  | 1 => .array .int
  | 2 => .int
  | 3 => .array .int
  | 4 => .array .boolean
  | 5 => .int
  | 6 => .array .int
  | 7 => .array .int
  | 8 => .array .int
  | _ => .array .int
abbrev wsX20 : List Cond := u_ws RX2 TX2 10
theorem nmX2 : ∀ a, a < 10 → ∀ b, b < 10 → a ≠ b → (TX2 a).2.1 ≠ (TX2 b).2.1 := by decide +kernel
theorem tyX2_ok : ∀ k, k < 10 → parseFieldDescriptor (TX2 k).2.2.1 = some (tyX2 k) := by decide +kernel
abbrev cX2_init : ByteArray := prog_4_method_1_code
def yX2_init : MethodName := ⟨RX2, "<init>", "()V"⟩
abbrev cX2_in : ByteArray := prog_4_method_2_code
def yX2_in : MethodName := ⟨RX2, "in", "(III)Z"⟩
abbrev cX2_has : ByteArray := prog_4_method_3_code
def yX2_has : MethodName := ⟨RX2, "has", "(II)Z"⟩
abbrev cX2_bits : ByteArray := prog_4_method_4_code
def yX2_bits : MethodName := ⟨RX2, "bits", "(I)I"⟩
abbrev cX2_start : ByteArray := prog_4_method_5_code
def yX2_start : MethodName := ⟨RX2, "start", "(II)V"⟩
abbrev cX2_many : ByteArray := prog_4_method_6_code
def yX2_many : MethodName := ⟨RX2, "many", "()I"⟩
abbrev cX2_isSite : ByteArray := prog_4_method_7_code
def yX2_isSite : MethodName := ⟨RX2, "isSite", "(I)Z"⟩
abbrev cX2_isDown : ByteArray := prog_4_method_8_code
def yX2_isDown : MethodName := ⟨RX2, "isDown", "(I)Z"⟩
abbrev cX2_receipts : ByteArray := prog_4_method_9_code
def yX2_receipts : MethodName := ⟨RX2, "receipts", "(I)I"⟩
abbrev cX2_ofReceipt : ByteArray := prog_4_method_10_code
def yX2_ofReceipt : MethodName := ⟨RX2, "ofReceipt", "(III)I"⟩
abbrev cX2_stateOf : ByteArray := prog_4_method_11_code
def yX2_stateOf : MethodName := ⟨RX2, "stateOf", "(I)I"⟩
abbrev cX2_way : ByteArray := prog_4_method_12_code
def yX2_way : MethodName := ⟨RX2, "way", "(II)I"⟩
abbrev cX2_letters : ByteArray := prog_4_method_13_code
def yX2_letters : MethodName := ⟨RX2, "letters", "(II)I"⟩
abbrev cX2_letterAt : ByteArray := prog_4_method_14_code
def yX2_letterAt : MethodName := ⟨RX2, "letterAt", "(III)I"⟩
abbrev cX2_knownIn : ByteArray := prog_4_method_15_code
def yX2_knownIn : MethodName := ⟨RX2, "knownIn", "(II)I"⟩
abbrev cX2_knownBy : ByteArray := prog_4_method_16_code
def yX2_knownBy : MethodName := ⟨RX2, "knownBy", "(II)I"⟩
abbrev cX2_know : ByteArray := prog_4_method_17_code
def yX2_know : MethodName := ⟨RX2, "know", "(III)V"⟩
abbrev cX2_write : ByteArray := prog_4_method_18_code
def yX2_write : MethodName := ⟨RX2, "write", "(IIIII)V"⟩
abbrev cX2_had : ByteArray := prog_4_method_19_code
def yX2_had : MethodName := ⟨RX2, "had", "(II)I"⟩
abbrev cX2_note : ByteArray := prog_4_method_20_code
def yX2_note : MethodName := ⟨RX2, "note", "()V"⟩
abbrev cX2_begins : ByteArray := prog_4_method_21_code
def yX2_begins : MethodName := ⟨RX2, "begins", "(II)I"⟩
abbrev cX2_puts : ByteArray := prog_4_method_22_code
def yX2_puts : MethodName := ⟨RX2, "puts", "(II)I"⟩
abbrev cX2_isWay : ByteArray := prog_4_method_23_code
def yX2_isWay : MethodName := ⟨RX2, "isWay", "(II)Z"⟩
abbrev cX2_receives : ByteArray := prog_4_method_24_code
def yX2_receives : MethodName := ⟨RX2, "receives", "(II)I"⟩
abbrev cX2_answer : ByteArray := prog_4_method_25_code
def yX2_answer : MethodName := ⟨RX2, "answer", "(III)V"⟩
abbrev cX2_crashes : ByteArray := prog_4_method_26_code
def yX2_crashes : MethodName := ⟨RX2, "crashes", "(I)I"⟩
abbrev cX2_heldBut : ByteArray := prog_4_method_27_code
def yX2_heldBut : MethodName := ⟨RX2, "heldBut", "(I)I"⟩
abbrev cX2_isKeptCode : ByteArray := prog_4_method_28_code
def yX2_isKeptCode : MethodName := ⟨RX2, "isKeptCode", "(I)Z"⟩
abbrev cX2_birthOf : ByteArray := prog_4_method_29_code
def yX2_birthOf : MethodName := ⟨RX2, "birthOf", "(II)I"⟩
abbrev cX2_findKept : ByteArray := prog_4_method_30_code
def yX2_findKept : MethodName := ⟨RX2, "findKept", "(I)V"⟩
abbrev cX2_lost : ByteArray := prog_4_method_31_code
def yX2_lost : MethodName := ⟨RX2, "lost", "()I"⟩
abbrev cX2_orphans : ByteArray := prog_4_method_32_code
def yX2_orphans : MethodName := ⟨RX2, "orphans", "(I)I"⟩
abbrev cX2_codesKept : ByteArray := prog_4_method_33_code
def yX2_codesKept : MethodName := ⟨RX2, "codesKept", "()I"⟩
abbrev cX2_dropLetters : ByteArray := prog_4_method_34_code
def yX2_dropLetters : MethodName := ⟨RX2, "dropLetters", "(I)V"⟩
abbrev cX2_raises : ByteArray := prog_4_method_35_code
def yX2_raises : MethodName := ⟨RX2, "raises", "()I"⟩
abbrev cX2_raiseAll : ByteArray := prog_4_method_36_code
def yX2_raiseAll : MethodName := ⟨RX2, "raiseAll", "(II)V"⟩
abbrev cX2_undo : ByteArray := prog_4_method_37_code
def yX2_undo : MethodName := ⟨RX2, "undo", "()I"⟩
abbrev cX2_written : ByteArray := prog_4_method_38_code
def yX2_written : MethodName := ⟨RX2, "written", "(I)I"⟩
abbrev cX2_site : ByteArray := prog_4_method_39_code
def yX2_site : MethodName := ⟨RX2, "site", "(II)I"⟩
abbrev cX2_holders : ByteArray := prog_4_method_40_code
def yX2_holders : MethodName := ⟨RX2, "holders", "(I)I"⟩
abbrev cX2_isSafe : ByteArray := prog_4_method_41_code
def yX2_isSafe : MethodName := ⟨RX2, "isSafe", "(II)Z"⟩
abbrev cX2_pastOf : ByteArray := prog_4_method_42_code
def yX2_pastOf : MethodName := ⟨RX2, "pastOf", "(II)I"⟩
abbrev cX2_isReceipt : ByteArray := prog_4_method_43_code
def yX2_isReceipt : MethodName := ⟨RX2, "isReceipt", "(II)Z"⟩
abbrev cX2_receipt : ByteArray := prog_4_method_44_code
def yX2_receipt : MethodName := ⟨RX2, "receipt", "(III)I"⟩
abbrev cX2_letter : ByteArray := prog_4_method_45_code
def yX2_letter : MethodName := ⟨RX2, "letter", "(IIII)I"⟩
abbrev cX2_nth : ByteArray := prog_4_method_46_code
def yX2_nth : MethodName := ⟨RX2, "nth", "(II)I"⟩
abbrev cX2_carries : ByteArray := prog_4_method_47_code
def yX2_carries : MethodName := ⟨RX2, "carries", "(IIII)I"⟩
abbrev cX2_knows : ByteArray := prog_4_method_48_code
def yX2_knows : MethodName := ⟨RX2, "knows", "(II)I"⟩
abbrev cX2_past : ByteArray := prog_4_method_49_code
def yX2_past : MethodName := ⟨RX2, "past", "(III)I"⟩
abbrev cX2_risk : ByteArray := prog_4_method_50_code
def yX2_risk : MethodName := ⟨RX2, "risk", "(II)I"⟩
abbrev cX2_worst : ByteArray := prog_4_method_51_code
def yX2_worst : MethodName := ⟨RX2, "worst", "(I)I"⟩
abbrev cX2_sees : ByteArray := prog_4_method_52_code
def yX2_sees : MethodName := ⟨RX2, "sees", "(II)I"⟩
abbrev cX2_forget : ByteArray := prog_4_method_53_code
def yX2_forget : MethodName := ⟨RX2, "forget", "()I"⟩
abbrev cX2_fits : ByteArray := prog_4_method_54_code
def yX2_fits : MethodName := ⟨RX2, "fits", "(I)Z"⟩
abbrev cX2_which : ByteArray := prog_4_method_55_code
def yX2_which : MethodName := ⟨RX2, "which", "(I)I"⟩
abbrev cX2_greatest : ByteArray := prog_4_method_56_code
def yX2_greatest : MethodName := ⟨RX2, "greatest", "(I)I"⟩
abbrev cX2_ask : ByteArray := prog_4_method_57_code
def yX2_ask : MethodName := ⟨RX2, "ask", "()I"⟩
abbrev cX2_allReceipts : ByteArray := prog_4_method_58_code
def yX2_allReceipts : MethodName := ⟨RX2, "allReceipts", "()I"⟩
abbrev cX2_keep : ByteArray := prog_4_method_59_code
def yX2_keep : MethodName := ⟨RX2, "keep", "(I)I"⟩
abbrev cX2_back : ByteArray := prog_4_method_60_code
def yX2_back : MethodName := ⟨RX2, "back", "(I)I"⟩
abbrev cX2_allLetters : ByteArray := prog_4_method_61_code
def yX2_allLetters : MethodName := ⟨RX2, "allLetters", "()I"⟩
abbrev cX2_allSafe : ByteArray := prog_4_method_62_code
def yX2_allSafe : MethodName := ⟨RX2, "allSafe", "()I"⟩
abbrev cX2_allCarried : ByteArray := prog_4_method_63_code
def yX2_allCarried : MethodName := ⟨RX2, "allCarried", "()I"⟩
abbrev cX2_count : ByteArray := prog_4_method_64_code
def yX2_count : MethodName := ⟨RX2, "count", "(I)I"⟩
def RJ6 : String := "java/lang/Integer"
def TJ6 : u_T := fun k => match k with
  | _ => ("", "", "", false)
def tyJ6 : Nat → FieldType := fun k => match k with
  | _ => .int
abbrev wsJ60 : List Cond := u_ws RJ6 TJ6 0
theorem nmJ6 : ∀ a, a < 0 → ∀ b, b < 0 → a ≠ b → (TJ6 a).2.1 ≠ (TJ6 b).2.1 := by decide +kernel
theorem tyJ6_ok : ∀ k, k < 0 → parseFieldDescriptor (TJ6 k).2.2.1 = some (tyJ6 k) := by decide +kernel
abbrev cJ6_bitCount_0f7a4 : ByteArray := prog_5_method_49_code
def yJ6_bitCount_0f7a4 : MethodName := ⟨RJ6, "bitCount", "(I)I"⟩
def RJ9 : String := "java/lang/Math"
def TJ9 : u_T := fun k => match k with
  | _ => ("", "", "", false)
def tyJ9 : Nat → FieldType := fun k => match k with
  | _ => .int
abbrev wsJ90 : List Cond := u_ws RJ9 TJ9 0
theorem nmJ9 : ∀ a, a < 0 → ∀ b, b < 0 → a ≠ b → (TJ9 a).2.1 ≠ (TJ9 b).2.1 := by decide +kernel
theorem tyJ9_ok : ∀ k, k < 0 → parseFieldDescriptor (TJ9 k).2.2.1 = some (tyJ9 k) := by decide +kernel
abbrev cJ9_max_7cf53 : ByteArray := prog_6_method_65_code
def yJ9_max_7cf53 : MethodName := ⟨RJ9, "max", "(II)I"⟩
abbrev cJ9_min_7cf53 : ByteArray := prog_6_method_69_code
def yJ9_min_7cf53 : MethodName := ⟨RJ9, "min", "(II)I"⟩
def RJ10 : String := "java/lang/System"
def TJ10 : u_T := fun k => match k with
  | _ => ("", "", "", false)
def tyJ10 : Nat → FieldType := fun k => match k with
  | _ => .int
abbrev wsJ100 : List Cond := u_ws RJ10 TJ10 0
theorem nmJ10 : ∀ a, a < 0 → ∀ b, b < 0 → a ≠ b → (TJ10 a).2.1 ≠ (TJ10 b).2.1 := by decide +kernel
theorem tyJ10_ok : ∀ k, k < 0 → parseFieldDescriptor (TJ10 k).2.2.1 = some (tyJ10 k) := by decide +kernel
def RJ7 : String := "java/util/Arrays"
def TJ7 : u_T := fun k => match k with
  | _ => ("", "", "", false)
def tyJ7 : Nat → FieldType := fun k => match k with
  | _ => .int
abbrev wsJ70 : List Cond := u_ws RJ7 TJ7 0
theorem nmJ7 : ∀ a, a < 0 → ∀ b, b < 0 → a ≠ b → (TJ7 a).2.1 ≠ (TJ7 b).2.1 := by decide +kernel
theorem tyJ7_ok : ∀ k, k < 0 → parseFieldDescriptor (TJ7 k).2.2.1 = some (tyJ7 k) := by decide +kernel
abbrev cJ7_fill_53178 : ByteArray := prog_8_method_103_code
def yJ7_fill_53178 : MethodName := ⟨RJ7, "fill", "([II)V"⟩
def RL : String := "CarriedOrdersLaw"
abbrev cL_law : ByteArray := code
def yL_law : MethodName := ⟨RL, "law", "([I)Z"⟩
theorem inX0 : ∀ w ∈ wsX00, w ∈ lw_tbl := by decide +kernel
theorem inX1 : ∀ w ∈ wsX10, w ∈ lw_tbl := by decide +kernel
theorem inX2 : ∀ w ∈ wsX20, w ∈ lw_tbl := by decide +kernel
/-- the words of the tables that stay: what every contract takes -/
def gw : List Cond := lw_tbl.filter goodWord
theorem gw_mem {w : Cond} (n : Nat) (h : lw_tbl[n]? = some w) (hg : goodWord w = true) : w ∈ gw := List.mem_filter.mpr ⟨List.mem_of_getElem? h, hg⟩
theorem gw_sub {w : Cond} (h : w ∈ gw) : w ∈ lw_tbl := (List.mem_filter.mp h).1
theorem gw_good : ∀ w ∈ gw, goodWord w = true := fun _ h => (List.mem_filter.mp h).2
theorem igX0 : ∀ w ∈ wsX00, w ∈ gw := fun w h => List.mem_filter.mpr ⟨inX0 w h, List.all_eq_true.mp (by decide +kernel : wsX00.all goodWord = true) w h⟩
theorem igX1 : ∀ w ∈ wsX10, w ∈ gw := fun w h => List.mem_filter.mpr ⟨inX1 w h, List.all_eq_true.mp (by decide +kernel : wsX10.all goodWord = true) w h⟩
theorem igX2 : ∀ w ∈ wsX20, w ∈ gw := fun w h => List.mem_filter.mpr ⟨inX2 w h, List.all_eq_true.mp (by decide +kernel : wsX20.all goodWord = true) w h⟩
theorem gw_in : GoodIn gw gw := fun w h => ⟨h, good_of_word (gw_good w h)⟩
end
section
theorem dJ6_bitCount_0f7a4_0 : decode cJ6_bitCount_0f7a4 0 = .ok (.iload_n 0, 1) := by decide +kernel
theorem dJ6_bitCount_0f7a4_1 : decode cJ6_bitCount_0f7a4 1 = .ok (.iload_n 0, 1) := by decide +kernel
theorem dJ6_bitCount_0f7a4_2 : decode cJ6_bitCount_0f7a4 2 = .ok (.iconst 1, 1) := by decide +kernel
theorem dJ6_bitCount_0f7a4_3 : decode cJ6_bitCount_0f7a4 3 = .ok (.iushr, 1) := by decide +kernel
theorem dJ6_bitCount_0f7a4_4 : decode cJ6_bitCount_0f7a4 4 = .ok (.ldc_w 265, 3) := by decide +kernel
theorem dJ6_bitCount_0f7a4_7 : decode cJ6_bitCount_0f7a4 7 = .ok (.iand, 1) := by decide +kernel
theorem dJ6_bitCount_0f7a4_8 : decode cJ6_bitCount_0f7a4 8 = .ok (.isub, 1) := by decide +kernel
theorem dJ6_bitCount_0f7a4_9 : decode cJ6_bitCount_0f7a4 9 = .ok (.istore_n 0, 1) := by decide +kernel
theorem dJ6_bitCount_0f7a4_10 : decode cJ6_bitCount_0f7a4 10 = .ok (.iload_n 0, 1) := by decide +kernel
theorem dJ6_bitCount_0f7a4_11 : decode cJ6_bitCount_0f7a4 11 = .ok (.ldc_w 266, 3) := by decide +kernel
theorem dJ6_bitCount_0f7a4_14 : decode cJ6_bitCount_0f7a4 14 = .ok (.iand, 1) := by decide +kernel
theorem dJ6_bitCount_0f7a4_15 : decode cJ6_bitCount_0f7a4 15 = .ok (.iload_n 0, 1) := by decide +kernel
theorem dJ6_bitCount_0f7a4_16 : decode cJ6_bitCount_0f7a4 16 = .ok (.iconst 2, 1) := by decide +kernel
theorem dJ6_bitCount_0f7a4_17 : decode cJ6_bitCount_0f7a4 17 = .ok (.iushr, 1) := by decide +kernel
theorem dJ6_bitCount_0f7a4_18 : decode cJ6_bitCount_0f7a4 18 = .ok (.ldc_w 266, 3) := by decide +kernel
theorem dJ6_bitCount_0f7a4_21 : decode cJ6_bitCount_0f7a4 21 = .ok (.iand, 1) := by decide +kernel
theorem dJ6_bitCount_0f7a4_22 : decode cJ6_bitCount_0f7a4 22 = .ok (.iadd, 1) := by decide +kernel
theorem dJ6_bitCount_0f7a4_23 : decode cJ6_bitCount_0f7a4 23 = .ok (.istore_n 0, 1) := by decide +kernel
theorem dJ6_bitCount_0f7a4_24 : decode cJ6_bitCount_0f7a4 24 = .ok (.iload_n 0, 1) := by decide +kernel
theorem dJ6_bitCount_0f7a4_25 : decode cJ6_bitCount_0f7a4 25 = .ok (.iload_n 0, 1) := by decide +kernel
theorem dJ6_bitCount_0f7a4_26 : decode cJ6_bitCount_0f7a4 26 = .ok (.iconst 4, 1) := by decide +kernel
theorem dJ6_bitCount_0f7a4_27 : decode cJ6_bitCount_0f7a4 27 = .ok (.iushr, 1) := by decide +kernel
theorem dJ6_bitCount_0f7a4_28 : decode cJ6_bitCount_0f7a4 28 = .ok (.iadd, 1) := by decide +kernel
theorem dJ6_bitCount_0f7a4_29 : decode cJ6_bitCount_0f7a4 29 = .ok (.ldc_w 267, 3) := by decide +kernel
theorem dJ6_bitCount_0f7a4_32 : decode cJ6_bitCount_0f7a4 32 = .ok (.iand, 1) := by decide +kernel
theorem dJ6_bitCount_0f7a4_33 : decode cJ6_bitCount_0f7a4 33 = .ok (.istore_n 0, 1) := by decide +kernel
theorem dJ6_bitCount_0f7a4_34 : decode cJ6_bitCount_0f7a4 34 = .ok (.iload_n 0, 1) := by decide +kernel
theorem dJ6_bitCount_0f7a4_35 : decode cJ6_bitCount_0f7a4 35 = .ok (.iload_n 0, 1) := by decide +kernel
theorem dJ6_bitCount_0f7a4_36 : decode cJ6_bitCount_0f7a4 36 = .ok (.bipush 8, 2) := by decide +kernel
theorem dJ6_bitCount_0f7a4_38 : decode cJ6_bitCount_0f7a4 38 = .ok (.iushr, 1) := by decide +kernel
theorem dJ6_bitCount_0f7a4_39 : decode cJ6_bitCount_0f7a4 39 = .ok (.iadd, 1) := by decide +kernel
theorem dJ6_bitCount_0f7a4_40 : decode cJ6_bitCount_0f7a4 40 = .ok (.istore_n 0, 1) := by decide +kernel
theorem dJ6_bitCount_0f7a4_41 : decode cJ6_bitCount_0f7a4 41 = .ok (.iload_n 0, 1) := by decide +kernel
theorem dJ6_bitCount_0f7a4_42 : decode cJ6_bitCount_0f7a4 42 = .ok (.iload_n 0, 1) := by decide +kernel
theorem dJ6_bitCount_0f7a4_43 : decode cJ6_bitCount_0f7a4 43 = .ok (.bipush 16, 2) := by decide +kernel
theorem dJ6_bitCount_0f7a4_45 : decode cJ6_bitCount_0f7a4 45 = .ok (.iushr, 1) := by decide +kernel
theorem dJ6_bitCount_0f7a4_46 : decode cJ6_bitCount_0f7a4 46 = .ok (.iadd, 1) := by decide +kernel
theorem dJ6_bitCount_0f7a4_47 : decode cJ6_bitCount_0f7a4 47 = .ok (.istore_n 0, 1) := by decide +kernel
theorem dJ6_bitCount_0f7a4_48 : decode cJ6_bitCount_0f7a4 48 = .ok (.iload_n 0, 1) := by decide +kernel
theorem dJ6_bitCount_0f7a4_49 : decode cJ6_bitCount_0f7a4 49 = .ok (.bipush 63, 2) := by decide +kernel
theorem dJ6_bitCount_0f7a4_51 : decode cJ6_bitCount_0f7a4 51 = .ok (.iand, 1) := by decide +kernel
theorem dJ6_bitCount_0f7a4_52 : decode cJ6_bitCount_0f7a4 52 = .ok (.ireturn, 1) := by decide +kernel
theorem dJ9_max_7cf53_0 : decode cJ9_max_7cf53 0 = .ok (.iload_n 0, 1) := by decide +kernel
theorem dJ9_max_7cf53_1 : decode cJ9_max_7cf53 1 = .ok (.iload_n 1, 1) := by decide +kernel
theorem dJ9_max_7cf53_2 : decode cJ9_max_7cf53 2 = .ok (.if_icmp .lt 7, 3) := by decide +kernel
theorem dJ9_max_7cf53_5 : decode cJ9_max_7cf53 5 = .ok (.iload_n 0, 1) := by decide +kernel
theorem dJ9_max_7cf53_6 : decode cJ9_max_7cf53 6 = .ok (.goto 4, 3) := by decide +kernel
theorem dJ9_max_7cf53_9 : decode cJ9_max_7cf53 9 = .ok (.iload_n 1, 1) := by decide +kernel
theorem dJ9_max_7cf53_10 : decode cJ9_max_7cf53 10 = .ok (.ireturn, 1) := by decide +kernel
theorem dJ9_min_7cf53_0 : decode cJ9_min_7cf53 0 = .ok (.iload_n 0, 1) := by decide +kernel
theorem dJ9_min_7cf53_1 : decode cJ9_min_7cf53 1 = .ok (.iload_n 1, 1) := by decide +kernel
theorem dJ9_min_7cf53_2 : decode cJ9_min_7cf53 2 = .ok (.if_icmp .gt 7, 3) := by decide +kernel
theorem dJ9_min_7cf53_5 : decode cJ9_min_7cf53 5 = .ok (.iload_n 0, 1) := by decide +kernel
theorem dJ9_min_7cf53_6 : decode cJ9_min_7cf53 6 = .ok (.goto 4, 3) := by decide +kernel
theorem dJ9_min_7cf53_9 : decode cJ9_min_7cf53 9 = .ok (.iload_n 1, 1) := by decide +kernel
theorem dJ9_min_7cf53_10 : decode cJ9_min_7cf53 10 = .ok (.ireturn, 1) := by decide +kernel
theorem dJ7_fill_53178_0 : decode cJ7_fill_53178 0 = .ok (.iconst 0, 1) := by decide +kernel
theorem dJ7_fill_53178_1 : decode cJ7_fill_53178 1 = .ok (.istore_n 2, 1) := by decide +kernel
theorem dJ7_fill_53178_2 : decode cJ7_fill_53178 2 = .ok (.aload_n 0, 1) := by decide +kernel
theorem dJ7_fill_53178_3 : decode cJ7_fill_53178 3 = .ok (.arraylength, 1) := by decide +kernel
theorem dJ7_fill_53178_4 : decode cJ7_fill_53178 4 = .ok (.istore_n 3, 1) := by decide +kernel
theorem dJ7_fill_53178_5 : decode cJ7_fill_53178 5 = .ok (.iload_n 2, 1) := by decide +kernel
theorem dJ7_fill_53178_6 : decode cJ7_fill_53178 6 = .ok (.iload_n 3, 1) := by decide +kernel
theorem dJ7_fill_53178_7 : decode cJ7_fill_53178 7 = .ok (.if_icmp .ge 13, 3) := by decide +kernel
theorem dJ7_fill_53178_10 : decode cJ7_fill_53178 10 = .ok (.aload_n 0, 1) := by decide +kernel
theorem dJ7_fill_53178_11 : decode cJ7_fill_53178 11 = .ok (.iload_n 2, 1) := by decide +kernel
theorem dJ7_fill_53178_12 : decode cJ7_fill_53178 12 = .ok (.iload_n 1, 1) := by decide +kernel
theorem dJ7_fill_53178_13 : decode cJ7_fill_53178 13 = .ok (.iastore, 1) := by decide +kernel
theorem dJ7_fill_53178_14 : decode cJ7_fill_53178 14 = .ok (.iinc 2 1, 3) := by decide +kernel
theorem dJ7_fill_53178_17 : decode cJ7_fill_53178 17 = .ok (.goto (-12), 3) := by decide +kernel
theorem dJ7_fill_53178_20 : decode cJ7_fill_53178 20 = .ok (.return_, 1) := by decide +kernel
theorem dX0_init_0 : decode cX0_init 0 = .ok (.aload_n 0, 1) := by decide +kernel
theorem dX0_init_1 : decode cX0_init 1 = .ok (.invokespecial 3, 3) := by decide +kernel
theorem dX0_init_4 : decode cX0_init 4 = .ok (.aload_n 0, 1) := by decide +kernel
theorem dX0_init_5 : decode cX0_init 5 = .ok (.iconst 4, 1) := by decide +kernel
theorem dX0_init_6 : decode cX0_init 6 = .ok (.newarray .int, 2) := by decide +kernel
theorem dX0_init_8 : decode cX0_init 8 = .ok (.putfield 9, 3) := by decide +kernel
theorem dX0_init_11 : decode cX0_init 11 = .ok (.aload_n 0, 1) := by decide +kernel
theorem dX0_init_12 : decode cX0_init 12 = .ok (.bipush 32, 2) := by decide +kernel
theorem dX0_init_14 : decode cX0_init 14 = .ok (.newarray .int, 2) := by decide +kernel
theorem dX0_init_16 : decode cX0_init 16 = .ok (.putfield 15, 3) := by decide +kernel
theorem dX0_init_19 : decode cX0_init 19 = .ok (.aload_n 0, 1) := by decide +kernel
theorem dX0_init_20 : decode cX0_init 20 = .ok (.bipush 32, 2) := by decide +kernel
theorem dX0_init_22 : decode cX0_init 22 = .ok (.newarray .int, 2) := by decide +kernel
theorem dX0_init_24 : decode cX0_init 24 = .ok (.putfield 18, 3) := by decide +kernel
theorem dX0_init_27 : decode cX0_init 27 = .ok (.aload_n 0, 1) := by decide +kernel
theorem dX0_init_28 : decode cX0_init 28 = .ok (.bipush 32, 2) := by decide +kernel
theorem dX0_init_30 : decode cX0_init 30 = .ok (.newarray .int, 2) := by decide +kernel
theorem dX0_init_32 : decode cX0_init 32 = .ok (.putfield 21, 3) := by decide +kernel
theorem dX0_init_35 : decode cX0_init 35 = .ok (.aload_n 0, 1) := by decide +kernel
theorem dX0_init_36 : decode cX0_init 36 = .ok (.bipush 32, 2) := by decide +kernel
theorem dX0_init_38 : decode cX0_init 38 = .ok (.newarray .int, 2) := by decide +kernel
theorem dX0_init_40 : decode cX0_init 40 = .ok (.putfield 24, 3) := by decide +kernel
theorem dX0_init_43 : decode cX0_init 43 = .ok (.aload_n 0, 1) := by decide +kernel
theorem dX0_init_44 : decode cX0_init 44 = .ok (.bipush 20, 2) := by decide +kernel
theorem dX0_init_46 : decode cX0_init 46 = .ok (.newarray .int, 2) := by decide +kernel
theorem dX0_init_48 : decode cX0_init 48 = .ok (.putfield 27, 3) := by decide +kernel
theorem dX0_init_51 : decode cX0_init 51 = .ok (.aload_n 0, 1) := by decide +kernel
theorem dX0_init_52 : decode cX0_init 52 = .ok (.sipush 160, 3) := by decide +kernel
theorem dX0_init_55 : decode cX0_init 55 = .ok (.newarray .int, 2) := by decide +kernel
theorem dX0_init_57 : decode cX0_init 57 = .ok (.putfield 30, 3) := by decide +kernel
theorem dX0_init_60 : decode cX0_init 60 = .ok (.aload_n 0, 1) := by decide +kernel
theorem dX0_init_61 : decode cX0_init 61 = .ok (.sipush 160, 3) := by decide +kernel
theorem dX0_init_64 : decode cX0_init 64 = .ok (.newarray .int, 2) := by decide +kernel
theorem dX0_init_66 : decode cX0_init 66 = .ok (.putfield 33, 3) := by decide +kernel
theorem dX0_init_69 : decode cX0_init 69 = .ok (.aload_n 0, 1) := by decide +kernel
theorem dX0_init_70 : decode cX0_init 70 = .ok (.sipush 160, 3) := by decide +kernel
theorem dX0_init_73 : decode cX0_init 73 = .ok (.newarray .int, 2) := by decide +kernel
theorem dX0_init_75 : decode cX0_init 75 = .ok (.putfield 36, 3) := by decide +kernel
theorem dX0_init_78 : decode cX0_init 78 = .ok (.aload_n 0, 1) := by decide +kernel
theorem dX0_init_79 : decode cX0_init 79 = .ok (.sipush 640, 3) := by decide +kernel
theorem dX0_init_82 : decode cX0_init 82 = .ok (.newarray .int, 2) := by decide +kernel
theorem dX0_init_84 : decode cX0_init 84 = .ok (.putfield 39, 3) := by decide +kernel
theorem dX0_init_87 : decode cX0_init 87 = .ok (.aload_n 0, 1) := by decide +kernel
theorem dX0_init_88 : decode cX0_init 88 = .ok (.bipush 16, 2) := by decide +kernel
theorem dX0_init_90 : decode cX0_init 90 = .ok (.newarray .int, 2) := by decide +kernel
theorem dX0_init_92 : decode cX0_init 92 = .ok (.putfield 42, 3) := by decide +kernel
theorem dX0_init_95 : decode cX0_init 95 = .ok (.aload_n 0, 1) := by decide +kernel
theorem dX0_init_96 : decode cX0_init 96 = .ok (.iconst 3, 1) := by decide +kernel
theorem dX0_init_97 : decode cX0_init 97 = .ok (.iconst 2, 1) := by decide +kernel
theorem dX0_init_98 : decode cX0_init 98 = .ok (.invokevirtual 45, 3) := by decide +kernel
theorem dX0_init_101 : decode cX0_init 101 = .ok (.return_, 1) := by decide +kernel
theorem dX0_start_0 : decode cX0_start 0 = .ok (.aload_n 0, 1) := by decide +kernel
theorem dX0_start_1 : decode cX0_start 1 = .ok (.iload_n 1, 1) := by decide +kernel
theorem dX0_start_2 : decode cX0_start 2 = .ok (.putfield 49, 3) := by decide +kernel
theorem dX0_start_5 : decode cX0_start 5 = .ok (.aload_n 0, 1) := by decide +kernel
theorem dX0_start_6 : decode cX0_start 6 = .ok (.iload_n 2, 1) := by decide +kernel
theorem dX0_start_7 : decode cX0_start 7 = .ok (.putfield 53, 3) := by decide +kernel
theorem dX0_start_10 : decode cX0_start 10 = .ok (.aload_n 0, 1) := by decide +kernel
theorem dX0_start_11 : decode cX0_start 11 = .ok (.iconst 0, 1) := by decide +kernel
theorem dX0_start_12 : decode cX0_start 12 = .ok (.putfield 56, 3) := by decide +kernel
theorem dX0_start_15 : decode cX0_start 15 = .ok (.aload_n 0, 1) := by decide +kernel
theorem dX0_start_16 : decode cX0_start 16 = .ok (.getfield 9, 3) := by decide +kernel
theorem dX0_start_19 : decode cX0_start 19 = .ok (.iconst 0, 1) := by decide +kernel
theorem dX0_start_20 : decode cX0_start 20 = .ok (.invokestatic 59, 3) := by decide +kernel
theorem dX0_start_23 : decode cX0_start 23 = .ok (.aload_n 0, 1) := by decide +kernel
theorem dX0_start_24 : decode cX0_start 24 = .ok (.getfield 27, 3) := by decide +kernel
theorem dX0_start_27 : decode cX0_start 27 = .ok (.iconst 0, 1) := by decide +kernel
theorem dX0_start_28 : decode cX0_start 28 = .ok (.invokestatic 59, 3) := by decide +kernel
theorem dX0_start_31 : decode cX0_start 31 = .ok (.aload_n 0, 1) := by decide +kernel
theorem dX0_start_32 : decode cX0_start 32 = .ok (.getfield 42, 3) := by decide +kernel
theorem dX0_start_35 : decode cX0_start 35 = .ok (.iconst 0, 1) := by decide +kernel
theorem dX0_start_36 : decode cX0_start 36 = .ok (.invokestatic 59, 3) := by decide +kernel
theorem dX0_start_39 : decode cX0_start 39 = .ok (.return_, 1) := by decide +kernel
theorem dX0_become_0 : decode cX0_become 0 = .ok (.aload_n 0, 1) := by decide +kernel
theorem dX0_become_1 : decode cX0_become 1 = .ok (.aload_n 1, 1) := by decide +kernel
theorem dX0_become_2 : decode cX0_become 2 = .ok (.getfield 49, 3) := by decide +kernel
theorem dX0_become_5 : decode cX0_become 5 = .ok (.putfield 49, 3) := by decide +kernel
theorem dX0_become_8 : decode cX0_become 8 = .ok (.aload_n 0, 1) := by decide +kernel
theorem dX0_become_9 : decode cX0_become 9 = .ok (.aload_n 1, 1) := by decide +kernel
theorem dX0_become_10 : decode cX0_become 10 = .ok (.getfield 53, 3) := by decide +kernel
theorem dX0_become_13 : decode cX0_become 13 = .ok (.putfield 53, 3) := by decide +kernel
theorem dX0_become_16 : decode cX0_become 16 = .ok (.aload_n 0, 1) := by decide +kernel
theorem dX0_become_17 : decode cX0_become 17 = .ok (.aload_n 1, 1) := by decide +kernel
theorem dX0_become_18 : decode cX0_become 18 = .ok (.getfield 56, 3) := by decide +kernel
theorem dX0_become_21 : decode cX0_become 21 = .ok (.putfield 56, 3) := by decide +kernel
theorem dX0_become_24 : decode cX0_become 24 = .ok (.aload_n 1, 1) := by decide +kernel
theorem dX0_become_25 : decode cX0_become 25 = .ok (.getfield 9, 3) := by decide +kernel
theorem dX0_become_28 : decode cX0_become 28 = .ok (.iconst 0, 1) := by decide +kernel
theorem dX0_become_29 : decode cX0_become 29 = .ok (.aload_n 0, 1) := by decide +kernel
theorem dX0_become_30 : decode cX0_become 30 = .ok (.getfield 9, 3) := by decide +kernel
theorem dX0_become_33 : decode cX0_become 33 = .ok (.iconst 0, 1) := by decide +kernel
theorem dX0_become_34 : decode cX0_become 34 = .ok (.iconst 4, 1) := by decide +kernel
theorem dX0_become_35 : decode cX0_become 35 = .ok (.invokestatic 65, 3) := by decide +kernel
theorem dX0_become_38 : decode cX0_become 38 = .ok (.aload_n 1, 1) := by decide +kernel
theorem dX0_become_39 : decode cX0_become 39 = .ok (.getfield 15, 3) := by decide +kernel
theorem dX0_become_42 : decode cX0_become 42 = .ok (.iconst 0, 1) := by decide +kernel
theorem dX0_become_43 : decode cX0_become 43 = .ok (.aload_n 0, 1) := by decide +kernel
theorem dX0_become_44 : decode cX0_become 44 = .ok (.getfield 15, 3) := by decide +kernel
theorem dX0_become_47 : decode cX0_become 47 = .ok (.iconst 0, 1) := by decide +kernel
theorem dX0_become_48 : decode cX0_become 48 = .ok (.bipush 32, 2) := by decide +kernel
theorem dX0_become_50 : decode cX0_become 50 = .ok (.invokestatic 65, 3) := by decide +kernel
theorem dX0_become_53 : decode cX0_become 53 = .ok (.aload_n 1, 1) := by decide +kernel
theorem dX0_become_54 : decode cX0_become 54 = .ok (.getfield 18, 3) := by decide +kernel
theorem dX0_become_57 : decode cX0_become 57 = .ok (.iconst 0, 1) := by decide +kernel
theorem dX0_become_58 : decode cX0_become 58 = .ok (.aload_n 0, 1) := by decide +kernel
theorem dX0_become_59 : decode cX0_become 59 = .ok (.getfield 18, 3) := by decide +kernel
theorem dX0_become_62 : decode cX0_become 62 = .ok (.iconst 0, 1) := by decide +kernel
theorem dX0_become_63 : decode cX0_become 63 = .ok (.bipush 32, 2) := by decide +kernel
theorem dX0_become_65 : decode cX0_become 65 = .ok (.invokestatic 65, 3) := by decide +kernel
theorem dX0_become_68 : decode cX0_become 68 = .ok (.aload_n 1, 1) := by decide +kernel
theorem dX0_become_69 : decode cX0_become 69 = .ok (.getfield 21, 3) := by decide +kernel
theorem dX0_become_72 : decode cX0_become 72 = .ok (.iconst 0, 1) := by decide +kernel
theorem dX0_become_73 : decode cX0_become 73 = .ok (.aload_n 0, 1) := by decide +kernel
theorem dX0_become_74 : decode cX0_become 74 = .ok (.getfield 21, 3) := by decide +kernel
theorem dX0_become_77 : decode cX0_become 77 = .ok (.iconst 0, 1) := by decide +kernel
theorem dX0_become_78 : decode cX0_become 78 = .ok (.bipush 32, 2) := by decide +kernel
theorem dX0_become_80 : decode cX0_become 80 = .ok (.invokestatic 65, 3) := by decide +kernel
theorem dX0_become_83 : decode cX0_become 83 = .ok (.aload_n 1, 1) := by decide +kernel
theorem dX0_become_84 : decode cX0_become 84 = .ok (.getfield 24, 3) := by decide +kernel
theorem dX0_become_87 : decode cX0_become 87 = .ok (.iconst 0, 1) := by decide +kernel
theorem dX0_become_88 : decode cX0_become 88 = .ok (.aload_n 0, 1) := by decide +kernel
theorem dX0_become_89 : decode cX0_become 89 = .ok (.getfield 24, 3) := by decide +kernel
theorem dX0_become_92 : decode cX0_become 92 = .ok (.iconst 0, 1) := by decide +kernel
theorem dX0_become_93 : decode cX0_become 93 = .ok (.bipush 32, 2) := by decide +kernel
theorem dX0_become_95 : decode cX0_become 95 = .ok (.invokestatic 65, 3) := by decide +kernel
theorem dX0_become_98 : decode cX0_become 98 = .ok (.aload_n 1, 1) := by decide +kernel
theorem dX0_become_99 : decode cX0_become 99 = .ok (.getfield 27, 3) := by decide +kernel
theorem dX0_become_102 : decode cX0_become 102 = .ok (.iconst 0, 1) := by decide +kernel
theorem dX0_become_103 : decode cX0_become 103 = .ok (.aload_n 0, 1) := by decide +kernel
theorem dX0_become_104 : decode cX0_become 104 = .ok (.getfield 27, 3) := by decide +kernel
theorem dX0_become_107 : decode cX0_become 107 = .ok (.iconst 0, 1) := by decide +kernel
theorem dX0_become_108 : decode cX0_become 108 = .ok (.bipush 20, 2) := by decide +kernel
theorem dX0_become_110 : decode cX0_become 110 = .ok (.invokestatic 65, 3) := by decide +kernel
theorem dX0_become_113 : decode cX0_become 113 = .ok (.aload_n 1, 1) := by decide +kernel
theorem dX0_become_114 : decode cX0_become 114 = .ok (.getfield 30, 3) := by decide +kernel
theorem dX0_become_117 : decode cX0_become 117 = .ok (.iconst 0, 1) := by decide +kernel
theorem dX0_become_118 : decode cX0_become 118 = .ok (.aload_n 0, 1) := by decide +kernel
theorem dX0_become_119 : decode cX0_become 119 = .ok (.getfield 30, 3) := by decide +kernel
theorem dX0_become_122 : decode cX0_become 122 = .ok (.iconst 0, 1) := by decide +kernel
theorem dX0_become_123 : decode cX0_become 123 = .ok (.sipush 160, 3) := by decide +kernel
theorem dX0_become_126 : decode cX0_become 126 = .ok (.invokestatic 65, 3) := by decide +kernel
theorem dX0_become_129 : decode cX0_become 129 = .ok (.aload_n 1, 1) := by decide +kernel
theorem dX0_become_130 : decode cX0_become 130 = .ok (.getfield 33, 3) := by decide +kernel
theorem dX0_become_133 : decode cX0_become 133 = .ok (.iconst 0, 1) := by decide +kernel
theorem dX0_become_134 : decode cX0_become 134 = .ok (.aload_n 0, 1) := by decide +kernel
theorem dX0_become_135 : decode cX0_become 135 = .ok (.getfield 33, 3) := by decide +kernel
theorem dX0_become_138 : decode cX0_become 138 = .ok (.iconst 0, 1) := by decide +kernel
theorem dX0_become_139 : decode cX0_become 139 = .ok (.sipush 160, 3) := by decide +kernel
theorem dX0_become_142 : decode cX0_become 142 = .ok (.invokestatic 65, 3) := by decide +kernel
theorem dX0_become_145 : decode cX0_become 145 = .ok (.aload_n 1, 1) := by decide +kernel
theorem dX0_become_146 : decode cX0_become 146 = .ok (.getfield 36, 3) := by decide +kernel
theorem dX0_become_149 : decode cX0_become 149 = .ok (.iconst 0, 1) := by decide +kernel
theorem dX0_become_150 : decode cX0_become 150 = .ok (.aload_n 0, 1) := by decide +kernel
theorem dX0_become_151 : decode cX0_become 151 = .ok (.getfield 36, 3) := by decide +kernel
theorem dX0_become_154 : decode cX0_become 154 = .ok (.iconst 0, 1) := by decide +kernel
theorem dX0_become_155 : decode cX0_become 155 = .ok (.sipush 160, 3) := by decide +kernel
theorem dX0_become_158 : decode cX0_become 158 = .ok (.invokestatic 65, 3) := by decide +kernel
theorem dX0_become_161 : decode cX0_become 161 = .ok (.aload_n 1, 1) := by decide +kernel
theorem dX0_become_162 : decode cX0_become 162 = .ok (.getfield 39, 3) := by decide +kernel
theorem dX0_become_165 : decode cX0_become 165 = .ok (.iconst 0, 1) := by decide +kernel
theorem dX0_become_166 : decode cX0_become 166 = .ok (.aload_n 0, 1) := by decide +kernel
theorem dX0_become_167 : decode cX0_become 167 = .ok (.getfield 39, 3) := by decide +kernel
theorem dX0_become_170 : decode cX0_become 170 = .ok (.iconst 0, 1) := by decide +kernel
theorem dX0_become_171 : decode cX0_become 171 = .ok (.sipush 640, 3) := by decide +kernel
theorem dX0_become_174 : decode cX0_become 174 = .ok (.invokestatic 65, 3) := by decide +kernel
theorem dX0_become_177 : decode cX0_become 177 = .ok (.aload_n 1, 1) := by decide +kernel
theorem dX0_become_178 : decode cX0_become 178 = .ok (.getfield 42, 3) := by decide +kernel
theorem dX0_become_181 : decode cX0_become 181 = .ok (.iconst 0, 1) := by decide +kernel
theorem dX0_become_182 : decode cX0_become 182 = .ok (.aload_n 0, 1) := by decide +kernel
theorem dX0_become_183 : decode cX0_become 183 = .ok (.getfield 42, 3) := by decide +kernel
theorem dX0_become_186 : decode cX0_become 186 = .ok (.iconst 0, 1) := by decide +kernel
theorem dX0_become_187 : decode cX0_become 187 = .ok (.bipush 16, 2) := by decide +kernel
theorem dX0_become_189 : decode cX0_become 189 = .ok (.invokestatic 65, 3) := by decide +kernel
theorem dX0_become_192 : decode cX0_become 192 = .ok (.return_, 1) := by decide +kernel
theorem dX0_codeOf_0 : decode cX0_codeOf 0 = .ok (.iload_n 0, 1) := by decide +kernel
theorem dX0_codeOf_1 : decode cX0_codeOf 1 = .ok (.bipush 8, 2) := by decide +kernel
theorem dX0_codeOf_3 : decode cX0_codeOf 3 = .ok (.imul, 1) := by decide +kernel
theorem dX0_codeOf_4 : decode cX0_codeOf 4 = .ok (.iload_n 1, 1) := by decide +kernel
theorem dX0_codeOf_5 : decode cX0_codeOf 5 = .ok (.iadd, 1) := by decide +kernel
theorem dX0_codeOf_6 : decode cX0_codeOf 6 = .ok (.ireturn, 1) := by decide +kernel
theorem dX0_codesOf_0 : decode cX0_codesOf 0 = .ok (.sipush 255, 3) := by decide +kernel
theorem dX0_codesOf_3 : decode cX0_codesOf 3 = .ok (.iload_n 0, 1) := by decide +kernel
theorem dX0_codesOf_4 : decode cX0_codesOf 4 = .ok (.bipush 8, 2) := by decide +kernel
theorem dX0_codesOf_6 : decode cX0_codesOf 6 = .ok (.imul, 1) := by decide +kernel
theorem dX0_codesOf_7 : decode cX0_codesOf 7 = .ok (.ishl, 1) := by decide +kernel
theorem dX0_codesOf_8 : decode cX0_codesOf 8 = .ok (.ireturn, 1) := by decide +kernel
theorem dX0_receiptsIn_0 : decode cX0_receiptsIn 0 = .ok (.iload_n 0, 1) := by decide +kernel
theorem dX0_receiptsIn_1 : decode cX0_receiptsIn 1 = .ok (.iload_n 1, 1) := by decide +kernel
theorem dX0_receiptsIn_2 : decode cX0_receiptsIn 2 = .ok (.invokestatic 71, 3) := by decide +kernel
theorem dX0_receiptsIn_5 : decode cX0_receiptsIn 5 = .ok (.iand, 1) := by decide +kernel
theorem dX0_receiptsIn_6 : decode cX0_receiptsIn 6 = .ok (.invokestatic 75, 3) := by decide +kernel
theorem dX0_receiptsIn_9 : decode cX0_receiptsIn 9 = .ok (.ireturn, 1) := by decide +kernel
theorem dX0_wayOf_0 : decode cX0_wayOf 0 = .ok (.iload_n 0, 1) := by decide +kernel
theorem dX0_wayOf_1 : decode cX0_wayOf 1 = .ok (.iconst 4, 1) := by decide +kernel
theorem dX0_wayOf_2 : decode cX0_wayOf 2 = .ok (.imul, 1) := by decide +kernel
theorem dX0_wayOf_3 : decode cX0_wayOf 3 = .ok (.iload_n 1, 1) := by decide +kernel
theorem dX0_wayOf_4 : decode cX0_wayOf 4 = .ok (.iadd, 1) := by decide +kernel
theorem dX0_wayOf_5 : decode cX0_wayOf 5 = .ok (.ireturn, 1) := by decide +kernel
theorem dX0_letterOn_0 : decode cX0_letterOn 0 = .ok (.iload_n 0, 1) := by decide +kernel
theorem dX0_letterOn_1 : decode cX0_letterOn 1 = .ok (.iload_n 1, 1) := by decide +kernel
theorem dX0_letterOn_2 : decode cX0_letterOn 2 = .ok (.invokestatic 80, 3) := by decide +kernel
theorem dX0_letterOn_5 : decode cX0_letterOn 5 = .ok (.bipush 8, 2) := by decide +kernel
theorem dX0_letterOn_7 : decode cX0_letterOn 7 = .ok (.imul, 1) := by decide +kernel
theorem dX0_letterOn_8 : decode cX0_letterOn 8 = .ok (.iload_n 2, 1) := by decide +kernel
theorem dX0_letterOn_9 : decode cX0_letterOn 9 = .ok (.iadd, 1) := by decide +kernel
theorem dX0_letterOn_10 : decode cX0_letterOn 10 = .ok (.ireturn, 1) := by decide +kernel
theorem dX0_isSite_0 : decode cX0_isSite 0 = .ok (.iload_n 1, 1) := by decide +kernel
theorem dX0_isSite_1 : decode cX0_isSite 1 = .ok (.ifCond .lt 15, 3) := by decide +kernel
theorem dX0_isSite_4 : decode cX0_isSite 4 = .ok (.iload_n 1, 1) := by decide +kernel
theorem dX0_isSite_5 : decode cX0_isSite 5 = .ok (.aload_n 0, 1) := by decide +kernel
theorem dX0_isSite_6 : decode cX0_isSite 6 = .ok (.getfield 49, 3) := by decide +kernel
theorem dX0_isSite_9 : decode cX0_isSite 9 = .ok (.if_icmp .ge 7, 3) := by decide +kernel
theorem dX0_isSite_12 : decode cX0_isSite 12 = .ok (.iconst 1, 1) := by decide +kernel
theorem dX0_isSite_13 : decode cX0_isSite 13 = .ok (.goto 4, 3) := by decide +kernel
theorem dX0_isSite_16 : decode cX0_isSite 16 = .ok (.iconst 0, 1) := by decide +kernel
theorem dX0_isSite_17 : decode cX0_isSite 17 = .ok (.ireturn, 1) := by decide +kernel
theorem dX0_isWay_0 : decode cX0_isWay 0 = .ok (.iload_n 1, 1) := by decide +kernel
theorem dX0_isWay_1 : decode cX0_isWay 1 = .ok (.ifCond .lt 28, 3) := by decide +kernel
theorem dX0_isWay_4 : decode cX0_isWay 4 = .ok (.iload_n 1, 1) := by decide +kernel
theorem dX0_isWay_5 : decode cX0_isWay 5 = .ok (.aload_n 0, 1) := by decide +kernel
theorem dX0_isWay_6 : decode cX0_isWay 6 = .ok (.getfield 49, 3) := by decide +kernel
theorem dX0_isWay_9 : decode cX0_isWay 9 = .ok (.if_icmp .gt 20, 3) := by decide +kernel
theorem dX0_isWay_12 : decode cX0_isWay 12 = .ok (.aload_n 0, 1) := by decide +kernel
theorem dX0_isWay_13 : decode cX0_isWay 13 = .ok (.iload_n 2, 1) := by decide +kernel
theorem dX0_isWay_14 : decode cX0_isWay 14 = .ok (.invokevirtual 84, 3) := by decide +kernel
theorem dX0_isWay_17 : decode cX0_isWay 17 = .ok (.ifCond .eq 12, 3) := by decide +kernel
theorem dX0_isWay_20 : decode cX0_isWay 20 = .ok (.iload_n 1, 1) := by decide +kernel
theorem dX0_isWay_21 : decode cX0_isWay 21 = .ok (.iload_n 2, 1) := by decide +kernel
theorem dX0_isWay_22 : decode cX0_isWay 22 = .ok (.if_icmp .eq 7, 3) := by decide +kernel
theorem dX0_isWay_25 : decode cX0_isWay 25 = .ok (.iconst 1, 1) := by decide +kernel
theorem dX0_isWay_26 : decode cX0_isWay 26 = .ok (.goto 4, 3) := by decide +kernel
theorem dX0_isWay_29 : decode cX0_isWay 29 = .ok (.iconst 0, 1) := by decide +kernel
theorem dX0_isWay_30 : decode cX0_isWay 30 = .ok (.ireturn, 1) := by decide +kernel
theorem dX0_isReceipt_0 : decode cX0_isReceipt 0 = .ok (.aload_n 0, 1) := by decide +kernel
theorem dX0_isReceipt_1 : decode cX0_isReceipt 1 = .ok (.iload_n 1, 1) := by decide +kernel
theorem dX0_isReceipt_2 : decode cX0_isReceipt 2 = .ok (.invokevirtual 84, 3) := by decide +kernel
theorem dX0_isReceipt_5 : decode cX0_isReceipt 5 = .ok (.ifCond .eq 21, 3) := by decide +kernel
theorem dX0_isReceipt_8 : decode cX0_isReceipt 8 = .ok (.iload_n 2, 1) := by decide +kernel
theorem dX0_isReceipt_9 : decode cX0_isReceipt 9 = .ok (.ifCond .lt 17, 3) := by decide +kernel
theorem dX0_isReceipt_12 : decode cX0_isReceipt 12 = .ok (.iload_n 2, 1) := by decide +kernel
theorem dX0_isReceipt_13 : decode cX0_isReceipt 13 = .ok (.aload_n 0, 1) := by decide +kernel
theorem dX0_isReceipt_14 : decode cX0_isReceipt 14 = .ok (.getfield 9, 3) := by decide +kernel
theorem dX0_isReceipt_17 : decode cX0_isReceipt 17 = .ok (.iload_n 1, 1) := by decide +kernel
theorem dX0_isReceipt_18 : decode cX0_isReceipt 18 = .ok (.iaload, 1) := by decide +kernel
theorem dX0_isReceipt_19 : decode cX0_isReceipt 19 = .ok (.if_icmp .ge 7, 3) := by decide +kernel
theorem dX0_isReceipt_22 : decode cX0_isReceipt 22 = .ok (.iconst 1, 1) := by decide +kernel
theorem dX0_isReceipt_23 : decode cX0_isReceipt 23 = .ok (.goto 4, 3) := by decide +kernel
theorem dX0_isReceipt_26 : decode cX0_isReceipt 26 = .ok (.iconst 0, 1) := by decide +kernel
theorem dX0_isReceipt_27 : decode cX0_isReceipt 27 = .ok (.ireturn, 1) := by decide +kernel
theorem dX0_isDown_0 : decode cX0_isDown 0 = .ok (.aload_n 0, 1) := by decide +kernel
theorem dX0_isDown_1 : decode cX0_isDown 1 = .ok (.getfield 56, 3) := by decide +kernel
theorem dX0_isDown_4 : decode cX0_isDown 4 = .ok (.iload_n 1, 1) := by decide +kernel
theorem dX0_isDown_5 : decode cX0_isDown 5 = .ok (.ishr, 1) := by decide +kernel
theorem dX0_isDown_6 : decode cX0_isDown 6 = .ok (.iconst 1, 1) := by decide +kernel
theorem dX0_isDown_7 : decode cX0_isDown 7 = .ok (.iand, 1) := by decide +kernel
theorem dX0_isDown_8 : decode cX0_isDown 8 = .ok (.ifCond .eq 7, 3) := by decide +kernel
theorem dX0_isDown_11 : decode cX0_isDown 11 = .ok (.iconst 1, 1) := by decide +kernel
theorem dX0_isDown_12 : decode cX0_isDown 12 = .ok (.goto 4, 3) := by decide +kernel
theorem dX0_isDown_15 : decode cX0_isDown 15 = .ok (.iconst 0, 1) := by decide +kernel
theorem dX0_isDown_16 : decode cX0_isDown 16 = .ok (.ireturn, 1) := by decide +kernel
theorem dX0_allSites_0 : decode cX0_allSites 0 = .ok (.iconst 1, 1) := by decide +kernel
theorem dX0_allSites_1 : decode cX0_allSites 1 = .ok (.aload_n 0, 1) := by decide +kernel
theorem dX0_allSites_2 : decode cX0_allSites 2 = .ok (.getfield 49, 3) := by decide +kernel
theorem dX0_allSites_5 : decode cX0_allSites 5 = .ok (.ishl, 1) := by decide +kernel
theorem dX0_allSites_6 : decode cX0_allSites 6 = .ok (.iconst 1, 1) := by decide +kernel
theorem dX0_allSites_7 : decode cX0_allSites 7 = .ok (.isub, 1) := by decide +kernel
theorem dX0_allSites_8 : decode cX0_allSites 8 = .ok (.ireturn, 1) := by decide +kernel
theorem dX0_stateOf_0 : decode cX0_stateOf 0 = .ok (.aload_n 0, 1) := by decide +kernel
theorem dX0_stateOf_1 : decode cX0_stateOf 1 = .ok (.getfield 9, 3) := by decide +kernel
theorem dX0_stateOf_4 : decode cX0_stateOf 4 = .ok (.iload_n 1, 1) := by decide +kernel
theorem dX0_stateOf_5 : decode cX0_stateOf 5 = .ok (.iaload, 1) := by decide +kernel
theorem dX0_stateOf_6 : decode cX0_stateOf 6 = .ok (.ifCond .ne 9, 3) := by decide +kernel
theorem dX0_stateOf_9 : decode cX0_stateOf 9 = .ok (.iload_n 1, 1) := by decide +kernel
theorem dX0_stateOf_10 : decode cX0_stateOf 10 = .ok (.iconst 1, 1) := by decide +kernel
theorem dX0_stateOf_11 : decode cX0_stateOf 11 = .ok (.iadd, 1) := by decide +kernel
theorem dX0_stateOf_12 : decode cX0_stateOf 12 = .ok (.goto 20, 3) := by decide +kernel
theorem dX0_stateOf_15 : decode cX0_stateOf 15 = .ok (.aload_n 0, 1) := by decide +kernel
theorem dX0_stateOf_16 : decode cX0_stateOf 16 = .ok (.getfield 21, 3) := by decide +kernel
theorem dX0_stateOf_19 : decode cX0_stateOf 19 = .ok (.iload_n 1, 1) := by decide +kernel
theorem dX0_stateOf_20 : decode cX0_stateOf 20 = .ok (.aload_n 0, 1) := by decide +kernel
theorem dX0_stateOf_21 : decode cX0_stateOf 21 = .ok (.getfield 9, 3) := by decide +kernel
theorem dX0_stateOf_24 : decode cX0_stateOf 24 = .ok (.iload_n 1, 1) := by decide +kernel
theorem dX0_stateOf_25 : decode cX0_stateOf 25 = .ok (.iaload, 1) := by decide +kernel
theorem dX0_stateOf_26 : decode cX0_stateOf 26 = .ok (.iconst 1, 1) := by decide +kernel
theorem dX0_stateOf_27 : decode cX0_stateOf 27 = .ok (.isub, 1) := by decide +kernel
theorem dX0_stateOf_28 : decode cX0_stateOf 28 = .ok (.invokestatic 88, 3) := by decide +kernel
theorem dX0_stateOf_31 : decode cX0_stateOf 31 = .ok (.iaload, 1) := by decide +kernel
theorem dX0_stateOf_32 : decode cX0_stateOf 32 = .ok (.ireturn, 1) := by decide +kernel
theorem dX0_allReceipts_0 : decode cX0_allReceipts 0 = .ok (.iconst 0, 1) := by decide +kernel
theorem dX0_allReceipts_1 : decode cX0_allReceipts 1 = .ok (.istore_n 1, 1) := by decide +kernel
theorem dX0_allReceipts_2 : decode cX0_allReceipts 2 = .ok (.iconst 0, 1) := by decide +kernel
theorem dX0_allReceipts_3 : decode cX0_allReceipts 3 = .ok (.istore_n 2, 1) := by decide +kernel
theorem dX0_allReceipts_4 : decode cX0_allReceipts 4 = .ok (.iload_n 2, 1) := by decide +kernel
theorem dX0_allReceipts_5 : decode cX0_allReceipts 5 = .ok (.aload_n 0, 1) := by decide +kernel
theorem dX0_allReceipts_6 : decode cX0_allReceipts 6 = .ok (.getfield 49, 3) := by decide +kernel
theorem dX0_allReceipts_9 : decode cX0_allReceipts 9 = .ok (.if_icmp .ge 18, 3) := by decide +kernel
theorem dX0_allReceipts_12 : decode cX0_allReceipts 12 = .ok (.iload_n 1, 1) := by decide +kernel
theorem dX0_allReceipts_13 : decode cX0_allReceipts 13 = .ok (.aload_n 0, 1) := by decide +kernel
theorem dX0_allReceipts_14 : decode cX0_allReceipts 14 = .ok (.getfield 9, 3) := by decide +kernel
theorem dX0_allReceipts_17 : decode cX0_allReceipts 17 = .ok (.iload_n 2, 1) := by decide +kernel
theorem dX0_allReceipts_18 : decode cX0_allReceipts 18 = .ok (.iaload, 1) := by decide +kernel
theorem dX0_allReceipts_19 : decode cX0_allReceipts 19 = .ok (.iadd, 1) := by decide +kernel
theorem dX0_allReceipts_20 : decode cX0_allReceipts 20 = .ok (.istore_n 1, 1) := by decide +kernel
theorem dX0_allReceipts_21 : decode cX0_allReceipts 21 = .ok (.iinc 2 1, 3) := by decide +kernel
theorem dX0_allReceipts_24 : decode cX0_allReceipts 24 = .ok (.goto (-20), 3) := by decide +kernel
theorem dX0_allReceipts_27 : decode cX0_allReceipts 27 = .ok (.iload_n 1, 1) := by decide +kernel
theorem dX0_allReceipts_28 : decode cX0_allReceipts 28 = .ok (.ireturn, 1) := by decide +kernel
theorem dX0_lettersOn_0 : decode cX0_lettersOn 0 = .ok (.aload_n 0, 1) := by decide +kernel
theorem dX0_lettersOn_1 : decode cX0_lettersOn 1 = .ok (.getfield 27, 3) := by decide +kernel
theorem dX0_lettersOn_4 : decode cX0_lettersOn 4 = .ok (.iload_n 1, 1) := by decide +kernel
theorem dX0_lettersOn_5 : decode cX0_lettersOn 5 = .ok (.iload_n 2, 1) := by decide +kernel
theorem dX0_lettersOn_6 : decode cX0_lettersOn 6 = .ok (.invokestatic 80, 3) := by decide +kernel
theorem dX0_lettersOn_9 : decode cX0_lettersOn 9 = .ok (.iaload, 1) := by decide +kernel
theorem dX0_lettersOn_10 : decode cX0_lettersOn 10 = .ok (.ireturn, 1) := by decide +kernel
theorem dX0_lettersBy_0 : decode cX0_lettersBy 0 = .ok (.iconst 0, 1) := by decide +kernel
theorem dX0_lettersBy_1 : decode cX0_lettersBy 1 = .ok (.istore_n 2, 1) := by decide +kernel
theorem dX0_lettersBy_2 : decode cX0_lettersBy 2 = .ok (.iconst 0, 1) := by decide +kernel
theorem dX0_lettersBy_3 : decode cX0_lettersBy 3 = .ok (.istore_n 3, 1) := by decide +kernel
theorem dX0_lettersBy_4 : decode cX0_lettersBy 4 = .ok (.iload_n 3, 1) := by decide +kernel
theorem dX0_lettersBy_5 : decode cX0_lettersBy 5 = .ok (.aload_n 0, 1) := by decide +kernel
theorem dX0_lettersBy_6 : decode cX0_lettersBy 6 = .ok (.getfield 49, 3) := by decide +kernel
theorem dX0_lettersBy_9 : decode cX0_lettersBy 9 = .ok (.if_icmp .ge 18, 3) := by decide +kernel
theorem dX0_lettersBy_12 : decode cX0_lettersBy 12 = .ok (.iload_n 2, 1) := by decide +kernel
theorem dX0_lettersBy_13 : decode cX0_lettersBy 13 = .ok (.aload_n 0, 1) := by decide +kernel
theorem dX0_lettersBy_14 : decode cX0_lettersBy 14 = .ok (.iload_n 1, 1) := by decide +kernel
theorem dX0_lettersBy_15 : decode cX0_lettersBy 15 = .ok (.iload_n 3, 1) := by decide +kernel
theorem dX0_lettersBy_16 : decode cX0_lettersBy 16 = .ok (.invokevirtual 91, 3) := by decide +kernel
theorem dX0_lettersBy_19 : decode cX0_lettersBy 19 = .ok (.iadd, 1) := by decide +kernel
theorem dX0_lettersBy_20 : decode cX0_lettersBy 20 = .ok (.istore_n 2, 1) := by decide +kernel
theorem dX0_lettersBy_21 : decode cX0_lettersBy 21 = .ok (.iinc 3 1, 3) := by decide +kernel
theorem dX0_lettersBy_24 : decode cX0_lettersBy 24 = .ok (.goto (-20), 3) := by decide +kernel
theorem dX0_lettersBy_27 : decode cX0_lettersBy 27 = .ok (.iload_n 2, 1) := by decide +kernel
theorem dX0_lettersBy_28 : decode cX0_lettersBy 28 = .ok (.ireturn, 1) := by decide +kernel
theorem dX0_allLetters_0 : decode cX0_allLetters 0 = .ok (.iconst 0, 1) := by decide +kernel
theorem dX0_allLetters_1 : decode cX0_allLetters 1 = .ok (.istore_n 1, 1) := by decide +kernel
theorem dX0_allLetters_2 : decode cX0_allLetters 2 = .ok (.iconst 0, 1) := by decide +kernel
theorem dX0_allLetters_3 : decode cX0_allLetters 3 = .ok (.istore_n 2, 1) := by decide +kernel
theorem dX0_allLetters_4 : decode cX0_allLetters 4 = .ok (.iload_n 2, 1) := by decide +kernel
theorem dX0_allLetters_5 : decode cX0_allLetters 5 = .ok (.aload_n 0, 1) := by decide +kernel
theorem dX0_allLetters_6 : decode cX0_allLetters 6 = .ok (.getfield 49, 3) := by decide +kernel
theorem dX0_allLetters_9 : decode cX0_allLetters 9 = .ok (.if_icmp .gt 17, 3) := by decide +kernel
theorem dX0_allLetters_12 : decode cX0_allLetters 12 = .ok (.iload_n 1, 1) := by decide +kernel
theorem dX0_allLetters_13 : decode cX0_allLetters 13 = .ok (.aload_n 0, 1) := by decide +kernel
theorem dX0_allLetters_14 : decode cX0_allLetters 14 = .ok (.iload_n 2, 1) := by decide +kernel
theorem dX0_allLetters_15 : decode cX0_allLetters 15 = .ok (.invokevirtual 94, 3) := by decide +kernel
theorem dX0_allLetters_18 : decode cX0_allLetters 18 = .ok (.iadd, 1) := by decide +kernel
theorem dX0_allLetters_19 : decode cX0_allLetters 19 = .ok (.istore_n 1, 1) := by decide +kernel
theorem dX0_allLetters_20 : decode cX0_allLetters 20 = .ok (.iinc 2 1, 3) := by decide +kernel
theorem dX0_allLetters_23 : decode cX0_allLetters 23 = .ok (.goto (-19), 3) := by decide +kernel
theorem dX0_allLetters_26 : decode cX0_allLetters 26 = .ok (.iload_n 1, 1) := by decide +kernel
theorem dX0_allLetters_27 : decode cX0_allLetters 27 = .ok (.ireturn, 1) := by decide +kernel
theorem dX0_allCarried_0 : decode cX0_allCarried 0 = .ok (.iconst 0, 1) := by decide +kernel
theorem dX0_allCarried_1 : decode cX0_allCarried 1 = .ok (.istore_n 1, 1) := by decide +kernel
theorem dX0_allCarried_2 : decode cX0_allCarried 2 = .ok (.iconst 0, 1) := by decide +kernel
theorem dX0_allCarried_3 : decode cX0_allCarried 3 = .ok (.istore_n 2, 1) := by decide +kernel
theorem dX0_allCarried_4 : decode cX0_allCarried 4 = .ok (.iload_n 2, 1) := by decide +kernel
theorem dX0_allCarried_5 : decode cX0_allCarried 5 = .ok (.aload_n 0, 1) := by decide +kernel
theorem dX0_allCarried_6 : decode cX0_allCarried 6 = .ok (.getfield 49, 3) := by decide +kernel
theorem dX0_allCarried_9 : decode cX0_allCarried 9 = .ok (.if_icmp .ge 34, 3) := by decide +kernel
theorem dX0_allCarried_12 : decode cX0_allCarried 12 = .ok (.iconst 0, 1) := by decide +kernel
theorem dX0_allCarried_13 : decode cX0_allCarried 13 = .ok (.istore_n 3, 1) := by decide +kernel
theorem dX0_allCarried_14 : decode cX0_allCarried 14 = .ok (.iload_n 3, 1) := by decide +kernel
theorem dX0_allCarried_15 : decode cX0_allCarried 15 = .ok (.aload_n 0, 1) := by decide +kernel
theorem dX0_allCarried_16 : decode cX0_allCarried 16 = .ok (.getfield 49, 3) := by decide +kernel
theorem dX0_allCarried_19 : decode cX0_allCarried 19 = .ok (.if_icmp .ge 18, 3) := by decide +kernel
theorem dX0_allCarried_22 : decode cX0_allCarried 22 = .ok (.iload_n 1, 1) := by decide +kernel
theorem dX0_allCarried_23 : decode cX0_allCarried 23 = .ok (.aload_n 0, 1) := by decide +kernel
theorem dX0_allCarried_24 : decode cX0_allCarried 24 = .ok (.iload_n 2, 1) := by decide +kernel
theorem dX0_allCarried_25 : decode cX0_allCarried 25 = .ok (.iload_n 3, 1) := by decide +kernel
theorem dX0_allCarried_26 : decode cX0_allCarried 26 = .ok (.invokevirtual 97, 3) := by decide +kernel
theorem dX0_allCarried_29 : decode cX0_allCarried 29 = .ok (.iadd, 1) := by decide +kernel
theorem dX0_allCarried_30 : decode cX0_allCarried 30 = .ok (.istore_n 1, 1) := by decide +kernel
theorem dX0_allCarried_31 : decode cX0_allCarried 31 = .ok (.iinc 3 1, 3) := by decide +kernel
theorem dX0_allCarried_34 : decode cX0_allCarried 34 = .ok (.goto (-20), 3) := by decide +kernel
theorem dX0_allCarried_37 : decode cX0_allCarried 37 = .ok (.iinc 2 1, 3) := by decide +kernel
theorem dX0_allCarried_40 : decode cX0_allCarried 40 = .ok (.goto (-36), 3) := by decide +kernel
theorem dX0_allCarried_43 : decode cX0_allCarried 43 = .ok (.iload_n 1, 1) := by decide +kernel
theorem dX0_allCarried_44 : decode cX0_allCarried 44 = .ok (.ireturn, 1) := by decide +kernel
theorem dX0_carriedOn_0 : decode cX0_carriedOn 0 = .ok (.iconst 0, 1) := by decide +kernel
theorem dX0_carriedOn_1 : decode cX0_carriedOn 1 = .ok (.istore_n 3, 1) := by decide +kernel
theorem dX0_carriedOn_2 : decode cX0_carriedOn 2 = .ok (.aload_n 0, 1) := by decide +kernel
theorem dX0_carriedOn_3 : decode cX0_carriedOn 3 = .ok (.iload_n 1, 1) := by decide +kernel
theorem dX0_carriedOn_4 : decode cX0_carriedOn 4 = .ok (.iload_n 2, 1) := by decide +kernel
theorem dX0_carriedOn_5 : decode cX0_carriedOn 5 = .ok (.invokevirtual 91, 3) := by decide +kernel
theorem dX0_carriedOn_8 : decode cX0_carriedOn 8 = .ok (.istore 4, 2) := by decide +kernel
theorem dX0_carriedOn_10 : decode cX0_carriedOn 10 = .ok (.iconst 0, 1) := by decide +kernel
theorem dX0_carriedOn_11 : decode cX0_carriedOn 11 = .ok (.istore 5, 2) := by decide +kernel
theorem dX0_carriedOn_13 : decode cX0_carriedOn 13 = .ok (.iload 5, 2) := by decide +kernel
theorem dX0_carriedOn_15 : decode cX0_carriedOn 15 = .ok (.iload 4, 2) := by decide +kernel
theorem dX0_carriedOn_17 : decode cX0_carriedOn 17 = .ok (.if_icmp .ge 27, 3) := by decide +kernel
theorem dX0_carriedOn_20 : decode cX0_carriedOn 20 = .ok (.iload_n 3, 1) := by decide +kernel
theorem dX0_carriedOn_21 : decode cX0_carriedOn 21 = .ok (.aload_n 0, 1) := by decide +kernel
theorem dX0_carriedOn_22 : decode cX0_carriedOn 22 = .ok (.getfield 36, 3) := by decide +kernel
theorem dX0_carriedOn_25 : decode cX0_carriedOn 25 = .ok (.iload_n 1, 1) := by decide +kernel
theorem dX0_carriedOn_26 : decode cX0_carriedOn 26 = .ok (.iload_n 2, 1) := by decide +kernel
theorem dX0_carriedOn_27 : decode cX0_carriedOn 27 = .ok (.iload 5, 2) := by decide +kernel
theorem dX0_carriedOn_29 : decode cX0_carriedOn 29 = .ok (.invokestatic 100, 3) := by decide +kernel
theorem dX0_carriedOn_32 : decode cX0_carriedOn 32 = .ok (.iaload, 1) := by decide +kernel
theorem dX0_carriedOn_33 : decode cX0_carriedOn 33 = .ok (.invokestatic 75, 3) := by decide +kernel
theorem dX0_carriedOn_36 : decode cX0_carriedOn 36 = .ok (.iadd, 1) := by decide +kernel
theorem dX0_carriedOn_37 : decode cX0_carriedOn 37 = .ok (.istore_n 3, 1) := by decide +kernel
theorem dX0_carriedOn_38 : decode cX0_carriedOn 38 = .ok (.iinc 5 1, 3) := by decide +kernel
theorem dX0_carriedOn_41 : decode cX0_carriedOn 41 = .ok (.goto (-28), 3) := by decide +kernel
theorem dX0_carriedOn_44 : decode cX0_carriedOn 44 = .ok (.iload_n 3, 1) := by decide +kernel
theorem dX0_carriedOn_45 : decode cX0_carriedOn 45 = .ok (.ireturn, 1) := by decide +kernel
theorem dX0_takenFrom_0 : decode cX0_takenFrom 0 = .ok (.iconst 0, 1) := by decide +kernel
theorem dX0_takenFrom_1 : decode cX0_takenFrom 1 = .ok (.istore_n 3, 1) := by decide +kernel
theorem dX0_takenFrom_2 : decode cX0_takenFrom 2 = .ok (.iconst 0, 1) := by decide +kernel
theorem dX0_takenFrom_3 : decode cX0_takenFrom 3 = .ok (.istore 4, 2) := by decide +kernel
theorem dX0_takenFrom_5 : decode cX0_takenFrom 5 = .ok (.iload 4, 2) := by decide +kernel
theorem dX0_takenFrom_7 : decode cX0_takenFrom 7 = .ok (.aload_n 0, 1) := by decide +kernel
theorem dX0_takenFrom_8 : decode cX0_takenFrom 8 = .ok (.getfield 9, 3) := by decide +kernel
theorem dX0_takenFrom_11 : decode cX0_takenFrom 11 = .ok (.iload_n 2, 1) := by decide +kernel
theorem dX0_takenFrom_12 : decode cX0_takenFrom 12 = .ok (.iaload, 1) := by decide +kernel
theorem dX0_takenFrom_13 : decode cX0_takenFrom 13 = .ok (.if_icmp .ge 27, 3) := by decide +kernel
theorem dX0_takenFrom_16 : decode cX0_takenFrom 16 = .ok (.aload_n 0, 1) := by decide +kernel
theorem dX0_takenFrom_17 : decode cX0_takenFrom 17 = .ok (.getfield 15, 3) := by decide +kernel
theorem dX0_takenFrom_20 : decode cX0_takenFrom 20 = .ok (.iload_n 2, 1) := by decide +kernel
theorem dX0_takenFrom_21 : decode cX0_takenFrom 21 = .ok (.iload 4, 2) := by decide +kernel
theorem dX0_takenFrom_23 : decode cX0_takenFrom 23 = .ok (.invokestatic 88, 3) := by decide +kernel
theorem dX0_takenFrom_26 : decode cX0_takenFrom 26 = .ok (.iaload, 1) := by decide +kernel
theorem dX0_takenFrom_27 : decode cX0_takenFrom 27 = .ok (.iload_n 1, 1) := by decide +kernel
theorem dX0_takenFrom_28 : decode cX0_takenFrom 28 = .ok (.if_icmp .ne 6, 3) := by decide +kernel
theorem dX0_takenFrom_31 : decode cX0_takenFrom 31 = .ok (.iinc 3 1, 3) := by decide +kernel
theorem dX0_takenFrom_34 : decode cX0_takenFrom 34 = .ok (.iinc 4 1, 3) := by decide +kernel
theorem dX0_takenFrom_37 : decode cX0_takenFrom 37 = .ok (.goto (-32), 3) := by decide +kernel
theorem dX0_takenFrom_40 : decode cX0_takenFrom 40 = .ok (.iload_n 3, 1) := by decide +kernel
theorem dX0_takenFrom_41 : decode cX0_takenFrom 41 = .ok (.ireturn, 1) := by decide +kernel
theorem dX0_heldBy_0 : decode cX0_heldBy 0 = .ok (.aload_n 0, 1) := by decide +kernel
theorem dX0_heldBy_1 : decode cX0_heldBy 1 = .ok (.getfield 42, 3) := by decide +kernel
theorem dX0_heldBy_4 : decode cX0_heldBy 4 = .ok (.iload_n 1, 1) := by decide +kernel
theorem dX0_heldBy_5 : decode cX0_heldBy 5 = .ok (.iconst 4, 1) := by decide +kernel
theorem dX0_heldBy_6 : decode cX0_heldBy 6 = .ok (.imul, 1) := by decide +kernel
theorem dX0_heldBy_7 : decode cX0_heldBy 7 = .ok (.iload_n 1, 1) := by decide +kernel
theorem dX0_heldBy_8 : decode cX0_heldBy 8 = .ok (.iadd, 1) := by decide +kernel
theorem dX0_heldBy_9 : decode cX0_heldBy 9 = .ok (.iaload, 1) := by decide +kernel
theorem dX0_heldBy_10 : decode cX0_heldBy 10 = .ok (.ireturn, 1) := by decide +kernel
theorem dX0_holdersOf_0 : decode cX0_holdersOf 0 = .ok (.iconst 0, 1) := by decide +kernel
theorem dX0_holdersOf_1 : decode cX0_holdersOf 1 = .ok (.istore_n 2, 1) := by decide +kernel
theorem dX0_holdersOf_2 : decode cX0_holdersOf 2 = .ok (.iconst 0, 1) := by decide +kernel
theorem dX0_holdersOf_3 : decode cX0_holdersOf 3 = .ok (.istore_n 3, 1) := by decide +kernel
theorem dX0_holdersOf_4 : decode cX0_holdersOf 4 = .ok (.iload_n 3, 1) := by decide +kernel
theorem dX0_holdersOf_5 : decode cX0_holdersOf 5 = .ok (.aload_n 0, 1) := by decide +kernel
theorem dX0_holdersOf_6 : decode cX0_holdersOf 6 = .ok (.getfield 49, 3) := by decide +kernel
theorem dX0_holdersOf_9 : decode cX0_holdersOf 9 = .ok (.if_icmp .ge 23, 3) := by decide +kernel
theorem dX0_holdersOf_12 : decode cX0_holdersOf 12 = .ok (.iload_n 2, 1) := by decide +kernel
theorem dX0_holdersOf_13 : decode cX0_holdersOf 13 = .ok (.aload_n 0, 1) := by decide +kernel
theorem dX0_holdersOf_14 : decode cX0_holdersOf 14 = .ok (.iload_n 3, 1) := by decide +kernel
theorem dX0_holdersOf_15 : decode cX0_holdersOf 15 = .ok (.invokevirtual 104, 3) := by decide +kernel
theorem dX0_holdersOf_18 : decode cX0_holdersOf 18 = .ok (.iload_n 1, 1) := by decide +kernel
theorem dX0_holdersOf_19 : decode cX0_holdersOf 19 = .ok (.iushr, 1) := by decide +kernel
theorem dX0_holdersOf_20 : decode cX0_holdersOf 20 = .ok (.iconst 1, 1) := by decide +kernel
theorem dX0_holdersOf_21 : decode cX0_holdersOf 21 = .ok (.iand, 1) := by decide +kernel
theorem dX0_holdersOf_22 : decode cX0_holdersOf 22 = .ok (.iload_n 3, 1) := by decide +kernel
theorem dX0_holdersOf_23 : decode cX0_holdersOf 23 = .ok (.ishl, 1) := by decide +kernel
theorem dX0_holdersOf_24 : decode cX0_holdersOf 24 = .ok (.ior, 1) := by decide +kernel
theorem dX0_holdersOf_25 : decode cX0_holdersOf 25 = .ok (.istore_n 2, 1) := by decide +kernel
theorem dX0_holdersOf_26 : decode cX0_holdersOf 26 = .ok (.iinc 3 1, 3) := by decide +kernel
theorem dX0_holdersOf_29 : decode cX0_holdersOf 29 = .ok (.goto (-25), 3) := by decide +kernel
theorem dX0_holdersOf_32 : decode cX0_holdersOf 32 = .ok (.iload_n 2, 1) := by decide +kernel
theorem dX0_holdersOf_33 : decode cX0_holdersOf 33 = .ok (.ireturn, 1) := by decide +kernel
theorem dX0_holdersKnown_0 : decode cX0_holdersKnown 0 = .ok (.iconst 0, 1) := by decide +kernel
theorem dX0_holdersKnown_1 : decode cX0_holdersKnown 1 = .ok (.istore_n 3, 1) := by decide +kernel
theorem dX0_holdersKnown_2 : decode cX0_holdersKnown 2 = .ok (.iconst 0, 1) := by decide +kernel
theorem dX0_holdersKnown_3 : decode cX0_holdersKnown 3 = .ok (.istore 4, 2) := by decide +kernel
theorem dX0_holdersKnown_5 : decode cX0_holdersKnown 5 = .ok (.iload 4, 2) := by decide +kernel
theorem dX0_holdersKnown_7 : decode cX0_holdersKnown 7 = .ok (.aload_n 0, 1) := by decide +kernel
theorem dX0_holdersKnown_8 : decode cX0_holdersKnown 8 = .ok (.getfield 49, 3) := by decide +kernel
theorem dX0_holdersKnown_11 : decode cX0_holdersKnown 11 = .ok (.if_icmp .ge 30, 3) := by decide +kernel
theorem dX0_holdersKnown_14 : decode cX0_holdersKnown 14 = .ok (.iload_n 3, 1) := by decide +kernel
theorem dX0_holdersKnown_15 : decode cX0_holdersKnown 15 = .ok (.aload_n 0, 1) := by decide +kernel
theorem dX0_holdersKnown_16 : decode cX0_holdersKnown 16 = .ok (.getfield 42, 3) := by decide +kernel
theorem dX0_holdersKnown_19 : decode cX0_holdersKnown 19 = .ok (.iload_n 1, 1) := by decide +kernel
theorem dX0_holdersKnown_20 : decode cX0_holdersKnown 20 = .ok (.iconst 4, 1) := by decide +kernel
theorem dX0_holdersKnown_21 : decode cX0_holdersKnown 21 = .ok (.imul, 1) := by decide +kernel
theorem dX0_holdersKnown_22 : decode cX0_holdersKnown 22 = .ok (.iload 4, 2) := by decide +kernel
theorem dX0_holdersKnown_24 : decode cX0_holdersKnown 24 = .ok (.iadd, 1) := by decide +kernel
theorem dX0_holdersKnown_25 : decode cX0_holdersKnown 25 = .ok (.iaload, 1) := by decide +kernel
theorem dX0_holdersKnown_26 : decode cX0_holdersKnown 26 = .ok (.iload_n 2, 1) := by decide +kernel
theorem dX0_holdersKnown_27 : decode cX0_holdersKnown 27 = .ok (.iushr, 1) := by decide +kernel
theorem dX0_holdersKnown_28 : decode cX0_holdersKnown 28 = .ok (.iconst 1, 1) := by decide +kernel
theorem dX0_holdersKnown_29 : decode cX0_holdersKnown 29 = .ok (.iand, 1) := by decide +kernel
theorem dX0_holdersKnown_30 : decode cX0_holdersKnown 30 = .ok (.iload 4, 2) := by decide +kernel
theorem dX0_holdersKnown_32 : decode cX0_holdersKnown 32 = .ok (.ishl, 1) := by decide +kernel
theorem dX0_holdersKnown_33 : decode cX0_holdersKnown 33 = .ok (.ior, 1) := by decide +kernel
theorem dX0_holdersKnown_34 : decode cX0_holdersKnown 34 = .ok (.istore_n 3, 1) := by decide +kernel
theorem dX0_holdersKnown_35 : decode cX0_holdersKnown 35 = .ok (.iinc 4 1, 3) := by decide +kernel
theorem dX0_holdersKnown_38 : decode cX0_holdersKnown 38 = .ok (.goto (-33), 3) := by decide +kernel
theorem dX0_holdersKnown_41 : decode cX0_holdersKnown 41 = .ok (.iload_n 3, 1) := by decide +kernel
theorem dX0_holdersKnown_42 : decode cX0_holdersKnown 42 = .ok (.ireturn, 1) := by decide +kernel
theorem dX0_isSafe_0 : decode cX0_isSafe 0 = .ok (.aload_n 0, 1) := by decide +kernel
theorem dX0_isSafe_1 : decode cX0_isSafe 1 = .ok (.iload_n 1, 1) := by decide +kernel
theorem dX0_isSafe_2 : decode cX0_isSafe 2 = .ok (.invokevirtual 107, 3) := by decide +kernel
theorem dX0_isSafe_5 : decode cX0_isSafe 5 = .ok (.invokestatic 75, 3) := by decide +kernel
theorem dX0_isSafe_8 : decode cX0_isSafe 8 = .ok (.aload_n 0, 1) := by decide +kernel
theorem dX0_isSafe_9 : decode cX0_isSafe 9 = .ok (.getfield 53, 3) := by decide +kernel
theorem dX0_isSafe_12 : decode cX0_isSafe 12 = .ok (.if_icmp .lt 7, 3) := by decide +kernel
theorem dX0_isSafe_15 : decode cX0_isSafe 15 = .ok (.iconst 1, 1) := by decide +kernel
theorem dX0_isSafe_16 : decode cX0_isSafe 16 = .ok (.goto 4, 3) := by decide +kernel
theorem dX0_isSafe_19 : decode cX0_isSafe 19 = .ok (.iconst 0, 1) := by decide +kernel
theorem dX0_isSafe_20 : decode cX0_isSafe 20 = .ok (.ireturn, 1) := by decide +kernel
theorem dX0_safeReceipts_0 : decode cX0_safeReceipts 0 = .ok (.iconst 0, 1) := by decide +kernel
theorem dX0_safeReceipts_1 : decode cX0_safeReceipts 1 = .ok (.istore_n 1, 1) := by decide +kernel
theorem dX0_safeReceipts_2 : decode cX0_safeReceipts 2 = .ok (.iconst 0, 1) := by decide +kernel
theorem dX0_safeReceipts_3 : decode cX0_safeReceipts 3 = .ok (.istore_n 2, 1) := by decide +kernel
theorem dX0_safeReceipts_4 : decode cX0_safeReceipts 4 = .ok (.iload_n 2, 1) := by decide +kernel
theorem dX0_safeReceipts_5 : decode cX0_safeReceipts 5 = .ok (.aload_n 0, 1) := by decide +kernel
theorem dX0_safeReceipts_6 : decode cX0_safeReceipts 6 = .ok (.getfield 49, 3) := by decide +kernel
theorem dX0_safeReceipts_9 : decode cX0_safeReceipts 9 = .ok (.if_icmp .ge 42, 3) := by decide +kernel
theorem dX0_safeReceipts_12 : decode cX0_safeReceipts 12 = .ok (.iconst 0, 1) := by decide +kernel
theorem dX0_safeReceipts_13 : decode cX0_safeReceipts 13 = .ok (.istore_n 3, 1) := by decide +kernel
theorem dX0_safeReceipts_14 : decode cX0_safeReceipts 14 = .ok (.iload_n 3, 1) := by decide +kernel
theorem dX0_safeReceipts_15 : decode cX0_safeReceipts 15 = .ok (.aload_n 0, 1) := by decide +kernel
theorem dX0_safeReceipts_16 : decode cX0_safeReceipts 16 = .ok (.getfield 9, 3) := by decide +kernel
theorem dX0_safeReceipts_19 : decode cX0_safeReceipts 19 = .ok (.iload_n 2, 1) := by decide +kernel
theorem dX0_safeReceipts_20 : decode cX0_safeReceipts 20 = .ok (.iaload, 1) := by decide +kernel
theorem dX0_safeReceipts_21 : decode cX0_safeReceipts 21 = .ok (.if_icmp .ge 24, 3) := by decide +kernel
theorem dX0_safeReceipts_24 : decode cX0_safeReceipts 24 = .ok (.aload_n 0, 1) := by decide +kernel
theorem dX0_safeReceipts_25 : decode cX0_safeReceipts 25 = .ok (.iload_n 2, 1) := by decide +kernel
theorem dX0_safeReceipts_26 : decode cX0_safeReceipts 26 = .ok (.iload_n 3, 1) := by decide +kernel
theorem dX0_safeReceipts_27 : decode cX0_safeReceipts 27 = .ok (.invokestatic 88, 3) := by decide +kernel
theorem dX0_safeReceipts_30 : decode cX0_safeReceipts 30 = .ok (.invokevirtual 110, 3) := by decide +kernel
theorem dX0_safeReceipts_33 : decode cX0_safeReceipts 33 = .ok (.ifCond .eq 6, 3) := by decide +kernel
theorem dX0_safeReceipts_36 : decode cX0_safeReceipts 36 = .ok (.iinc 1 1, 3) := by decide +kernel
theorem dX0_safeReceipts_39 : decode cX0_safeReceipts 39 = .ok (.iinc 3 1, 3) := by decide +kernel
theorem dX0_safeReceipts_42 : decode cX0_safeReceipts 42 = .ok (.goto (-28), 3) := by decide +kernel
theorem dX0_safeReceipts_45 : decode cX0_safeReceipts 45 = .ok (.iinc 2 1, 3) := by decide +kernel
theorem dX0_safeReceipts_48 : decode cX0_safeReceipts 48 = .ok (.goto (-44), 3) := by decide +kernel
theorem dX0_safeReceipts_51 : decode cX0_safeReceipts 51 = .ok (.iload_n 1, 1) := by decide +kernel
theorem dX0_safeReceipts_52 : decode cX0_safeReceipts 52 = .ok (.ireturn, 1) := by decide +kernel
theorem dX0_unsafeFor_0 : decode cX0_unsafeFor 0 = .ok (.iconst 0, 1) := by decide +kernel
theorem dX0_unsafeFor_1 : decode cX0_unsafeFor 1 = .ok (.istore_n 2, 1) := by decide +kernel
theorem dX0_unsafeFor_2 : decode cX0_unsafeFor 2 = .ok (.iconst 0, 1) := by decide +kernel
theorem dX0_unsafeFor_3 : decode cX0_unsafeFor 3 = .ok (.istore_n 3, 1) := by decide +kernel
theorem dX0_unsafeFor_4 : decode cX0_unsafeFor 4 = .ok (.iload_n 3, 1) := by decide +kernel
theorem dX0_unsafeFor_5 : decode cX0_unsafeFor 5 = .ok (.bipush 32, 2) := by decide +kernel
theorem dX0_unsafeFor_7 : decode cX0_unsafeFor 7 = .ok (.if_icmp .ge 43, 3) := by decide +kernel
theorem dX0_unsafeFor_10 : decode cX0_unsafeFor 10 = .ok (.aload_n 0, 1) := by decide +kernel
theorem dX0_unsafeFor_11 : decode cX0_unsafeFor 11 = .ok (.iload_n 1, 1) := by decide +kernel
theorem dX0_unsafeFor_12 : decode cX0_unsafeFor 12 = .ok (.invokevirtual 104, 3) := by decide +kernel
theorem dX0_unsafeFor_15 : decode cX0_unsafeFor 15 = .ok (.iload_n 3, 1) := by decide +kernel
theorem dX0_unsafeFor_16 : decode cX0_unsafeFor 16 = .ok (.iushr, 1) := by decide +kernel
theorem dX0_unsafeFor_17 : decode cX0_unsafeFor 17 = .ok (.iconst 1, 1) := by decide +kernel
theorem dX0_unsafeFor_18 : decode cX0_unsafeFor 18 = .ok (.iand, 1) := by decide +kernel
theorem dX0_unsafeFor_19 : decode cX0_unsafeFor 19 = .ok (.ifCond .eq 25, 3) := by decide +kernel
theorem dX0_unsafeFor_22 : decode cX0_unsafeFor 22 = .ok (.aload_n 0, 1) := by decide +kernel
theorem dX0_unsafeFor_23 : decode cX0_unsafeFor 23 = .ok (.iload_n 1, 1) := by decide +kernel
theorem dX0_unsafeFor_24 : decode cX0_unsafeFor 24 = .ok (.iload_n 3, 1) := by decide +kernel
theorem dX0_unsafeFor_25 : decode cX0_unsafeFor 25 = .ok (.invokevirtual 113, 3) := by decide +kernel
theorem dX0_unsafeFor_28 : decode cX0_unsafeFor 28 = .ok (.invokestatic 75, 3) := by decide +kernel
theorem dX0_unsafeFor_31 : decode cX0_unsafeFor 31 = .ok (.aload_n 0, 1) := by decide +kernel
theorem dX0_unsafeFor_32 : decode cX0_unsafeFor 32 = .ok (.getfield 53, 3) := by decide +kernel
theorem dX0_unsafeFor_35 : decode cX0_unsafeFor 35 = .ok (.if_icmp .ge 9, 3) := by decide +kernel
theorem dX0_unsafeFor_38 : decode cX0_unsafeFor 38 = .ok (.iload_n 2, 1) := by decide +kernel
theorem dX0_unsafeFor_39 : decode cX0_unsafeFor 39 = .ok (.iconst 1, 1) := by decide +kernel
theorem dX0_unsafeFor_40 : decode cX0_unsafeFor 40 = .ok (.iload_n 3, 1) := by decide +kernel
theorem dX0_unsafeFor_41 : decode cX0_unsafeFor 41 = .ok (.ishl, 1) := by decide +kernel
theorem dX0_unsafeFor_42 : decode cX0_unsafeFor 42 = .ok (.ior, 1) := by decide +kernel
theorem dX0_unsafeFor_43 : decode cX0_unsafeFor 43 = .ok (.istore_n 2, 1) := by decide +kernel
theorem dX0_unsafeFor_44 : decode cX0_unsafeFor 44 = .ok (.iinc 3 1, 3) := by decide +kernel
theorem dX0_unsafeFor_47 : decode cX0_unsafeFor 47 = .ok (.goto (-43), 3) := by decide +kernel
theorem dX0_unsafeFor_50 : decode cX0_unsafeFor 50 = .ok (.iload_n 2, 1) := by decide +kernel
theorem dX0_unsafeFor_51 : decode cX0_unsafeFor 51 = .ok (.ireturn, 1) := by decide +kernel
theorem dX0_write_0 : decode cX0_write 0 = .ok (.iload_n 1, 1) := by decide +kernel
theorem dX0_write_1 : decode cX0_write 1 = .ok (.iload_n 2, 1) := by decide +kernel
theorem dX0_write_2 : decode cX0_write 2 = .ok (.aload_n 0, 1) := by decide +kernel
theorem dX0_write_3 : decode cX0_write 3 = .ok (.iload_n 1, 1) := by decide +kernel
theorem dX0_write_4 : decode cX0_write 4 = .ok (.iload_n 2, 1) := by decide +kernel
theorem dX0_write_5 : decode cX0_write 5 = .ok (.invokevirtual 91, 3) := by decide +kernel
theorem dX0_write_8 : decode cX0_write 8 = .ok (.invokestatic 100, 3) := by decide +kernel
theorem dX0_write_11 : decode cX0_write 11 = .ok (.istore 6, 2) := by decide +kernel
theorem dX0_write_13 : decode cX0_write 13 = .ok (.aload_n 0, 1) := by decide +kernel
theorem dX0_write_14 : decode cX0_write 14 = .ok (.getfield 30, 3) := by decide +kernel
theorem dX0_write_17 : decode cX0_write 17 = .ok (.iload 6, 2) := by decide +kernel
theorem dX0_write_19 : decode cX0_write 19 = .ok (.iload_n 3, 1) := by decide +kernel
theorem dX0_write_20 : decode cX0_write 20 = .ok (.iastore, 1) := by decide +kernel
theorem dX0_write_21 : decode cX0_write 21 = .ok (.aload_n 0, 1) := by decide +kernel
theorem dX0_write_22 : decode cX0_write 22 = .ok (.getfield 33, 3) := by decide +kernel
theorem dX0_write_25 : decode cX0_write 25 = .ok (.iload 6, 2) := by decide +kernel
theorem dX0_write_27 : decode cX0_write 27 = .ok (.iload 4, 2) := by decide +kernel
theorem dX0_write_29 : decode cX0_write 29 = .ok (.iastore, 1) := by decide +kernel
theorem dX0_write_30 : decode cX0_write 30 = .ok (.aload_n 0, 1) := by decide +kernel
theorem dX0_write_31 : decode cX0_write 31 = .ok (.getfield 36, 3) := by decide +kernel
theorem dX0_write_34 : decode cX0_write 34 = .ok (.iload 6, 2) := by decide +kernel
theorem dX0_write_36 : decode cX0_write 36 = .ok (.iload 5, 2) := by decide +kernel
theorem dX0_write_38 : decode cX0_write 38 = .ok (.iastore, 1) := by decide +kernel
theorem dX0_write_39 : decode cX0_write 39 = .ok (.iconst 0, 1) := by decide +kernel
theorem dX0_write_40 : decode cX0_write 40 = .ok (.istore 7, 2) := by decide +kernel
theorem dX0_write_42 : decode cX0_write 42 = .ok (.iload 7, 2) := by decide +kernel
theorem dX0_write_44 : decode cX0_write 44 = .ok (.iconst 4, 1) := by decide +kernel
theorem dX0_write_45 : decode cX0_write 45 = .ok (.if_icmp .ge 47, 3) := by decide +kernel
theorem dX0_write_48 : decode cX0_write 48 = .ok (.aload_n 0, 1) := by decide +kernel
theorem dX0_write_49 : decode cX0_write 49 = .ok (.getfield 39, 3) := by decide +kernel
theorem dX0_write_52 : decode cX0_write 52 = .ok (.iload 6, 2) := by decide +kernel
theorem dX0_write_54 : decode cX0_write 54 = .ok (.iconst 4, 1) := by decide +kernel
theorem dX0_write_55 : decode cX0_write 55 = .ok (.imul, 1) := by decide +kernel
theorem dX0_write_56 : decode cX0_write 56 = .ok (.iload 7, 2) := by decide +kernel
theorem dX0_write_58 : decode cX0_write 58 = .ok (.iadd, 1) := by decide +kernel
theorem dX0_write_59 : decode cX0_write 59 = .ok (.aload_n 0, 1) := by decide +kernel
theorem dX0_write_60 : decode cX0_write 60 = .ok (.iload_n 1, 1) := by decide +kernel
theorem dX0_write_61 : decode cX0_write 61 = .ok (.invokevirtual 84, 3) := by decide +kernel
theorem dX0_write_64 : decode cX0_write 64 = .ok (.ifCond .eq 20, 3) := by decide +kernel
theorem dX0_write_67 : decode cX0_write 67 = .ok (.aload_n 0, 1) := by decide +kernel
theorem dX0_write_68 : decode cX0_write 68 = .ok (.getfield 42, 3) := by decide +kernel
theorem dX0_write_71 : decode cX0_write 71 = .ok (.iload_n 1, 1) := by decide +kernel
theorem dX0_write_72 : decode cX0_write 72 = .ok (.iconst 4, 1) := by decide +kernel
theorem dX0_write_73 : decode cX0_write 73 = .ok (.imul, 1) := by decide +kernel
theorem dX0_write_74 : decode cX0_write 74 = .ok (.iload 7, 2) := by decide +kernel
theorem dX0_write_76 : decode cX0_write 76 = .ok (.iadd, 1) := by decide +kernel
theorem dX0_write_77 : decode cX0_write 77 = .ok (.iaload, 1) := by decide +kernel
theorem dX0_write_78 : decode cX0_write 78 = .ok (.iload 5, 2) := by decide +kernel
theorem dX0_write_80 : decode cX0_write 80 = .ok (.iand, 1) := by decide +kernel
theorem dX0_write_81 : decode cX0_write 81 = .ok (.goto 4, 3) := by decide +kernel
theorem dX0_write_84 : decode cX0_write 84 = .ok (.iconst 0, 1) := by decide +kernel
theorem dX0_write_85 : decode cX0_write 85 = .ok (.iastore, 1) := by decide +kernel
theorem dX0_write_86 : decode cX0_write 86 = .ok (.iinc 7 1, 3) := by decide +kernel
theorem dX0_write_89 : decode cX0_write 89 = .ok (.goto (-47), 3) := by decide +kernel
theorem dX0_write_92 : decode cX0_write 92 = .ok (.aload_n 0, 1) := by decide +kernel
theorem dX0_write_93 : decode cX0_write 93 = .ok (.getfield 27, 3) := by decide +kernel
theorem dX0_write_96 : decode cX0_write 96 = .ok (.iload_n 1, 1) := by decide +kernel
theorem dX0_write_97 : decode cX0_write 97 = .ok (.iload_n 2, 1) := by decide +kernel
theorem dX0_write_98 : decode cX0_write 98 = .ok (.invokestatic 80, 3) := by decide +kernel
theorem dX0_write_101 : decode cX0_write 101 = .ok (.dup2, 1) := by decide +kernel
theorem dX0_write_102 : decode cX0_write 102 = .ok (.iaload, 1) := by decide +kernel
theorem dX0_write_103 : decode cX0_write 103 = .ok (.iconst 1, 1) := by decide +kernel
theorem dX0_write_104 : decode cX0_write 104 = .ok (.iadd, 1) := by decide +kernel
theorem dX0_write_105 : decode cX0_write 105 = .ok (.iastore, 1) := by decide +kernel
theorem dX0_write_106 : decode cX0_write 106 = .ok (.return_, 1) := by decide +kernel
theorem dX0_take_0 : decode cX0_take 0 = .ok (.aload_n 0, 1) := by decide +kernel
theorem dX0_take_1 : decode cX0_take 1 = .ok (.iload_n 1, 1) := by decide +kernel
theorem dX0_take_2 : decode cX0_take 2 = .ok (.iload_n 2, 1) := by decide +kernel
theorem dX0_take_3 : decode cX0_take 3 = .ok (.invokevirtual 116, 3) := by decide +kernel
theorem dX0_take_6 : decode cX0_take 6 = .ok (.istore_n 3, 1) := by decide +kernel
theorem dX0_take_7 : decode cX0_take 7 = .ok (.iload_n 1, 1) := by decide +kernel
theorem dX0_take_8 : decode cX0_take 8 = .ok (.iload_n 2, 1) := by decide +kernel
theorem dX0_take_9 : decode cX0_take 9 = .ok (.iload_n 3, 1) := by decide +kernel
theorem dX0_take_10 : decode cX0_take 10 = .ok (.invokestatic 100, 3) := by decide +kernel
theorem dX0_take_13 : decode cX0_take 13 = .ok (.istore 4, 2) := by decide +kernel
theorem dX0_take_15 : decode cX0_take 15 = .ok (.iload_n 2, 1) := by decide +kernel
theorem dX0_take_16 : decode cX0_take 16 = .ok (.aload_n 0, 1) := by decide +kernel
theorem dX0_take_17 : decode cX0_take 17 = .ok (.getfield 9, 3) := by decide +kernel
theorem dX0_take_20 : decode cX0_take 20 = .ok (.iload_n 2, 1) := by decide +kernel
theorem dX0_take_21 : decode cX0_take 21 = .ok (.iaload, 1) := by decide +kernel
theorem dX0_take_22 : decode cX0_take 22 = .ok (.invokestatic 88, 3) := by decide +kernel
theorem dX0_take_25 : decode cX0_take 25 = .ok (.istore 5, 2) := by decide +kernel
theorem dX0_take_27 : decode cX0_take 27 = .ok (.aload_n 0, 1) := by decide +kernel
theorem dX0_take_28 : decode cX0_take 28 = .ok (.getfield 15, 3) := by decide +kernel
theorem dX0_take_31 : decode cX0_take 31 = .ok (.iload 5, 2) := by decide +kernel
theorem dX0_take_33 : decode cX0_take 33 = .ok (.iload_n 1, 1) := by decide +kernel
theorem dX0_take_34 : decode cX0_take 34 = .ok (.iastore, 1) := by decide +kernel
theorem dX0_take_35 : decode cX0_take 35 = .ok (.aload_n 0, 1) := by decide +kernel
theorem dX0_take_36 : decode cX0_take 36 = .ok (.getfield 18, 3) := by decide +kernel
theorem dX0_take_39 : decode cX0_take 39 = .ok (.iload 5, 2) := by decide +kernel
theorem dX0_take_41 : decode cX0_take 41 = .ok (.iload_n 3, 1) := by decide +kernel
theorem dX0_take_42 : decode cX0_take 42 = .ok (.iastore, 1) := by decide +kernel
theorem dX0_take_43 : decode cX0_take 43 = .ok (.aload_n 0, 1) := by decide +kernel
theorem dX0_take_44 : decode cX0_take 44 = .ok (.getfield 21, 3) := by decide +kernel
theorem dX0_take_47 : decode cX0_take 47 = .ok (.iload 5, 2) := by decide +kernel
theorem dX0_take_49 : decode cX0_take 49 = .ok (.bipush 31, 2) := by decide +kernel
theorem dX0_take_51 : decode cX0_take 51 = .ok (.aload_n 0, 1) := by decide +kernel
theorem dX0_take_52 : decode cX0_take 52 = .ok (.iload_n 2, 1) := by decide +kernel
theorem dX0_take_53 : decode cX0_take 53 = .ok (.invokevirtual 119, 3) := by decide +kernel
theorem dX0_take_56 : decode cX0_take 56 = .ok (.imul, 1) := by decide +kernel
theorem dX0_take_57 : decode cX0_take 57 = .ok (.aload_n 0, 1) := by decide +kernel
theorem dX0_take_58 : decode cX0_take 58 = .ok (.getfield 30, 3) := by decide +kernel
theorem dX0_take_61 : decode cX0_take 61 = .ok (.iload 4, 2) := by decide +kernel
theorem dX0_take_63 : decode cX0_take 63 = .ok (.iaload, 1) := by decide +kernel
theorem dX0_take_64 : decode cX0_take 64 = .ok (.iadd, 1) := by decide +kernel
theorem dX0_take_65 : decode cX0_take 65 = .ok (.iload_n 1, 1) := by decide +kernel
theorem dX0_take_66 : decode cX0_take 66 = .ok (.iadd, 1) := by decide +kernel
theorem dX0_take_67 : decode cX0_take 67 = .ok (.iconst 1, 1) := by decide +kernel
theorem dX0_take_68 : decode cX0_take 68 = .ok (.iadd, 1) := by decide +kernel
theorem dX0_take_69 : decode cX0_take 69 = .ok (.sipush 997, 3) := by decide +kernel
theorem dX0_take_72 : decode cX0_take 72 = .ok (.irem, 1) := by decide +kernel
theorem dX0_take_73 : decode cX0_take 73 = .ok (.iastore, 1) := by decide +kernel
theorem dX0_take_74 : decode cX0_take 74 = .ok (.aload_n 0, 1) := by decide +kernel
theorem dX0_take_75 : decode cX0_take 75 = .ok (.getfield 24, 3) := by decide +kernel
theorem dX0_take_78 : decode cX0_take 78 = .ok (.iload 5, 2) := by decide +kernel
theorem dX0_take_80 : decode cX0_take 80 = .ok (.iconst 1, 1) := by decide +kernel
theorem dX0_take_81 : decode cX0_take 81 = .ok (.iload 5, 2) := by decide +kernel
theorem dX0_take_83 : decode cX0_take 83 = .ok (.ishl, 1) := by decide +kernel
theorem dX0_take_84 : decode cX0_take 84 = .ok (.aload_n 0, 1) := by decide +kernel
theorem dX0_take_85 : decode cX0_take 85 = .ok (.iload_n 2, 1) := by decide +kernel
theorem dX0_take_86 : decode cX0_take 86 = .ok (.invokevirtual 122, 3) := by decide +kernel
theorem dX0_take_89 : decode cX0_take 89 = .ok (.ior, 1) := by decide +kernel
theorem dX0_take_90 : decode cX0_take 90 = .ok (.aload_n 0, 1) := by decide +kernel
theorem dX0_take_91 : decode cX0_take 91 = .ok (.iload 4, 2) := by decide +kernel
theorem dX0_take_93 : decode cX0_take 93 = .ok (.invokevirtual 125, 3) := by decide +kernel
theorem dX0_take_96 : decode cX0_take 96 = .ok (.ior, 1) := by decide +kernel
theorem dX0_take_97 : decode cX0_take 97 = .ok (.iastore, 1) := by decide +kernel
theorem dX0_take_98 : decode cX0_take 98 = .ok (.aload_n 0, 1) := by decide +kernel
theorem dX0_take_99 : decode cX0_take 99 = .ok (.getfield 9, 3) := by decide +kernel
theorem dX0_take_102 : decode cX0_take 102 = .ok (.iload_n 2, 1) := by decide +kernel
theorem dX0_take_103 : decode cX0_take 103 = .ok (.dup2, 1) := by decide +kernel
theorem dX0_take_104 : decode cX0_take 104 = .ok (.iaload, 1) := by decide +kernel
theorem dX0_take_105 : decode cX0_take 105 = .ok (.iconst 1, 1) := by decide +kernel
theorem dX0_take_106 : decode cX0_take 106 = .ok (.iadd, 1) := by decide +kernel
theorem dX0_take_107 : decode cX0_take 107 = .ok (.iastore, 1) := by decide +kernel
theorem dX0_take_108 : decode cX0_take 108 = .ok (.aload_n 0, 1) := by decide +kernel
theorem dX0_take_109 : decode cX0_take 109 = .ok (.iload_n 2, 1) := by decide +kernel
theorem dX0_take_110 : decode cX0_take 110 = .ok (.iload 5, 2) := by decide +kernel
theorem dX0_take_112 : decode cX0_take 112 = .ok (.iload 4, 2) := by decide +kernel
theorem dX0_take_114 : decode cX0_take 114 = .ok (.invokevirtual 128, 3) := by decide +kernel
theorem dX0_take_117 : decode cX0_take 117 = .ok (.aload_n 0, 1) := by decide +kernel
theorem dX0_take_118 : decode cX0_take 118 = .ok (.iload_n 2, 1) := by decide +kernel
theorem dX0_take_119 : decode cX0_take 119 = .ok (.iload 5, 2) := by decide +kernel
theorem dX0_take_121 : decode cX0_take 121 = .ok (.invokevirtual 132, 3) := by decide +kernel
theorem dX0_take_124 : decode cX0_take 124 = .ok (.return_, 1) := by decide +kernel
theorem dX0_pastAhead_0 : decode cX0_pastAhead 0 = .ok (.aload_n 0, 1) := by decide +kernel
theorem dX0_pastAhead_1 : decode cX0_pastAhead 1 = .ok (.getfield 9, 3) := by decide +kernel
theorem dX0_pastAhead_4 : decode cX0_pastAhead 4 = .ok (.iload_n 1, 1) := by decide +kernel
theorem dX0_pastAhead_5 : decode cX0_pastAhead 5 = .ok (.iaload, 1) := by decide +kernel
theorem dX0_pastAhead_6 : decode cX0_pastAhead 6 = .ok (.ifCond .ne 7, 3) := by decide +kernel
theorem dX0_pastAhead_9 : decode cX0_pastAhead 9 = .ok (.iconst 0, 1) := by decide +kernel
theorem dX0_pastAhead_10 : decode cX0_pastAhead 10 = .ok (.goto 20, 3) := by decide +kernel
theorem dX0_pastAhead_13 : decode cX0_pastAhead 13 = .ok (.aload_n 0, 1) := by decide +kernel
theorem dX0_pastAhead_14 : decode cX0_pastAhead 14 = .ok (.getfield 24, 3) := by decide +kernel
theorem dX0_pastAhead_17 : decode cX0_pastAhead 17 = .ok (.iload_n 1, 1) := by decide +kernel
theorem dX0_pastAhead_18 : decode cX0_pastAhead 18 = .ok (.aload_n 0, 1) := by decide +kernel
theorem dX0_pastAhead_19 : decode cX0_pastAhead 19 = .ok (.getfield 9, 3) := by decide +kernel
theorem dX0_pastAhead_22 : decode cX0_pastAhead 22 = .ok (.iload_n 1, 1) := by decide +kernel
theorem dX0_pastAhead_23 : decode cX0_pastAhead 23 = .ok (.iaload, 1) := by decide +kernel
theorem dX0_pastAhead_24 : decode cX0_pastAhead 24 = .ok (.iconst 1, 1) := by decide +kernel
theorem dX0_pastAhead_25 : decode cX0_pastAhead 25 = .ok (.isub, 1) := by decide +kernel
theorem dX0_pastAhead_26 : decode cX0_pastAhead 26 = .ok (.invokestatic 88, 3) := by decide +kernel
theorem dX0_pastAhead_29 : decode cX0_pastAhead 29 = .ok (.iaload, 1) := by decide +kernel
theorem dX0_pastAhead_30 : decode cX0_pastAhead 30 = .ok (.ireturn, 1) := by decide +kernel
theorem dX0_pastOfBirth_0 : decode cX0_pastOfBirth 0 = .ok (.aload_n 0, 1) := by decide +kernel
theorem dX0_pastOfBirth_1 : decode cX0_pastOfBirth 1 = .ok (.getfield 33, 3) := by decide +kernel
theorem dX0_pastOfBirth_4 : decode cX0_pastOfBirth 4 = .ok (.iload_n 1, 1) := by decide +kernel
theorem dX0_pastOfBirth_5 : decode cX0_pastOfBirth 5 = .ok (.iaload, 1) := by decide +kernel
theorem dX0_pastOfBirth_6 : decode cX0_pastOfBirth 6 = .ok (.ifCond .ge 7, 3) := by decide +kernel
theorem dX0_pastOfBirth_9 : decode cX0_pastOfBirth 9 = .ok (.iconst 0, 1) := by decide +kernel
theorem dX0_pastOfBirth_10 : decode cX0_pastOfBirth 10 = .ok (.goto 14, 3) := by decide +kernel
theorem dX0_pastOfBirth_13 : decode cX0_pastOfBirth 13 = .ok (.aload_n 0, 1) := by decide +kernel
theorem dX0_pastOfBirth_14 : decode cX0_pastOfBirth 14 = .ok (.getfield 24, 3) := by decide +kernel
theorem dX0_pastOfBirth_17 : decode cX0_pastOfBirth 17 = .ok (.aload_n 0, 1) := by decide +kernel
theorem dX0_pastOfBirth_18 : decode cX0_pastOfBirth 18 = .ok (.getfield 33, 3) := by decide +kernel
theorem dX0_pastOfBirth_21 : decode cX0_pastOfBirth 21 = .ok (.iload_n 1, 1) := by decide +kernel
theorem dX0_pastOfBirth_22 : decode cX0_pastOfBirth 22 = .ok (.iaload, 1) := by decide +kernel
theorem dX0_pastOfBirth_23 : decode cX0_pastOfBirth 23 = .ok (.iaload, 1) := by decide +kernel
theorem dX0_pastOfBirth_24 : decode cX0_pastOfBirth 24 = .ok (.ireturn, 1) := by decide +kernel
theorem dX0_learn_0 : decode cX0_learn 0 = .ok (.iconst 0, 1) := by decide +kernel
theorem dX0_learn_1 : decode cX0_learn 1 = .ok (.istore 4, 2) := by decide +kernel
theorem dX0_learn_3 : decode cX0_learn 3 = .ok (.iload 4, 2) := by decide +kernel
theorem dX0_learn_5 : decode cX0_learn 5 = .ok (.aload_n 0, 1) := by decide +kernel
theorem dX0_learn_6 : decode cX0_learn 6 = .ok (.getfield 49, 3) := by decide +kernel
theorem dX0_learn_9 : decode cX0_learn 9 = .ok (.if_icmp .ge 34, 3) := by decide +kernel
theorem dX0_learn_12 : decode cX0_learn 12 = .ok (.aload_n 0, 1) := by decide +kernel
theorem dX0_learn_13 : decode cX0_learn 13 = .ok (.getfield 42, 3) := by decide +kernel
theorem dX0_learn_16 : decode cX0_learn 16 = .ok (.iload_n 1, 1) := by decide +kernel
theorem dX0_learn_17 : decode cX0_learn 17 = .ok (.iconst 4, 1) := by decide +kernel
theorem dX0_learn_18 : decode cX0_learn 18 = .ok (.imul, 1) := by decide +kernel
theorem dX0_learn_19 : decode cX0_learn 19 = .ok (.iload 4, 2) := by decide +kernel
theorem dX0_learn_21 : decode cX0_learn 21 = .ok (.iadd, 1) := by decide +kernel
theorem dX0_learn_22 : decode cX0_learn 22 = .ok (.dup2, 1) := by decide +kernel
theorem dX0_learn_23 : decode cX0_learn 23 = .ok (.iaload, 1) := by decide +kernel
theorem dX0_learn_24 : decode cX0_learn 24 = .ok (.aload_n 0, 1) := by decide +kernel
theorem dX0_learn_25 : decode cX0_learn 25 = .ok (.getfield 39, 3) := by decide +kernel
theorem dX0_learn_28 : decode cX0_learn 28 = .ok (.iload_n 3, 1) := by decide +kernel
theorem dX0_learn_29 : decode cX0_learn 29 = .ok (.iconst 4, 1) := by decide +kernel
theorem dX0_learn_30 : decode cX0_learn 30 = .ok (.imul, 1) := by decide +kernel
theorem dX0_learn_31 : decode cX0_learn 31 = .ok (.iload 4, 2) := by decide +kernel
theorem dX0_learn_33 : decode cX0_learn 33 = .ok (.iadd, 1) := by decide +kernel
theorem dX0_learn_34 : decode cX0_learn 34 = .ok (.iaload, 1) := by decide +kernel
theorem dX0_learn_35 : decode cX0_learn 35 = .ok (.ior, 1) := by decide +kernel
theorem dX0_learn_36 : decode cX0_learn 36 = .ok (.iastore, 1) := by decide +kernel
theorem dX0_learn_37 : decode cX0_learn 37 = .ok (.iinc 4 1, 3) := by decide +kernel
theorem dX0_learn_40 : decode cX0_learn 40 = .ok (.goto (-37), 3) := by decide +kernel
theorem dX0_learn_43 : decode cX0_learn 43 = .ok (.aload_n 0, 1) := by decide +kernel
theorem dX0_learn_44 : decode cX0_learn 44 = .ok (.getfield 42, 3) := by decide +kernel
theorem dX0_learn_47 : decode cX0_learn 47 = .ok (.iload_n 1, 1) := by decide +kernel
theorem dX0_learn_48 : decode cX0_learn 48 = .ok (.iconst 4, 1) := by decide +kernel
theorem dX0_learn_49 : decode cX0_learn 49 = .ok (.imul, 1) := by decide +kernel
theorem dX0_learn_50 : decode cX0_learn 50 = .ok (.iload_n 1, 1) := by decide +kernel
theorem dX0_learn_51 : decode cX0_learn 51 = .ok (.iadd, 1) := by decide +kernel
theorem dX0_learn_52 : decode cX0_learn 52 = .ok (.dup2, 1) := by decide +kernel
theorem dX0_learn_53 : decode cX0_learn 53 = .ok (.iaload, 1) := by decide +kernel
theorem dX0_learn_54 : decode cX0_learn 54 = .ok (.iconst 1, 1) := by decide +kernel
theorem dX0_learn_55 : decode cX0_learn 55 = .ok (.iload_n 2, 1) := by decide +kernel
theorem dX0_learn_56 : decode cX0_learn 56 = .ok (.ishl, 1) := by decide +kernel
theorem dX0_learn_57 : decode cX0_learn 57 = .ok (.aload_n 0, 1) := by decide +kernel
theorem dX0_learn_58 : decode cX0_learn 58 = .ok (.getfield 36, 3) := by decide +kernel
theorem dX0_learn_61 : decode cX0_learn 61 = .ok (.iload_n 3, 1) := by decide +kernel
theorem dX0_learn_62 : decode cX0_learn 62 = .ok (.iaload, 1) := by decide +kernel
theorem dX0_learn_63 : decode cX0_learn 63 = .ok (.ior, 1) := by decide +kernel
theorem dX0_learn_64 : decode cX0_learn 64 = .ok (.ior, 1) := by decide +kernel
theorem dX0_learn_65 : decode cX0_learn 65 = .ok (.iastore, 1) := by decide +kernel
theorem dX0_learn_66 : decode cX0_learn 66 = .ok (.return_, 1) := by decide +kernel
theorem dX0_answer_0 : decode cX0_answer 0 = .ok (.aload_n 0, 1) := by decide +kernel
theorem dX0_answer_1 : decode cX0_answer 1 = .ok (.getfield 21, 3) := by decide +kernel
theorem dX0_answer_4 : decode cX0_answer 4 = .ok (.iload_n 2, 1) := by decide +kernel
theorem dX0_answer_5 : decode cX0_answer 5 = .ok (.iaload, 1) := by decide +kernel
theorem dX0_answer_6 : decode cX0_answer 6 = .ok (.istore_n 3, 1) := by decide +kernel
theorem dX0_answer_7 : decode cX0_answer 7 = .ok (.aload_n 0, 1) := by decide +kernel
theorem dX0_answer_8 : decode cX0_answer 8 = .ok (.getfield 49, 3) := by decide +kernel
theorem dX0_answer_11 : decode cX0_answer 11 = .ok (.ifCond .le 12, 3) := by decide +kernel
theorem dX0_answer_14 : decode cX0_answer 14 = .ok (.iload_n 3, 1) := by decide +kernel
theorem dX0_answer_15 : decode cX0_answer 15 = .ok (.aload_n 0, 1) := by decide +kernel
theorem dX0_answer_16 : decode cX0_answer 16 = .ok (.getfield 49, 3) := by decide +kernel
theorem dX0_answer_19 : decode cX0_answer 19 = .ok (.irem, 1) := by decide +kernel
theorem dX0_answer_20 : decode cX0_answer 20 = .ok (.goto 4, 3) := by decide +kernel
theorem dX0_answer_23 : decode cX0_answer 23 = .ok (.iload_n 1, 1) := by decide +kernel
theorem dX0_answer_24 : decode cX0_answer 24 = .ok (.istore 4, 2) := by decide +kernel
theorem dX0_answer_26 : decode cX0_answer 26 = .ok (.iload_n 3, 1) := by decide +kernel
theorem dX0_answer_27 : decode cX0_answer 27 = .ok (.iconst 3, 1) := by decide +kernel
theorem dX0_answer_28 : decode cX0_answer 28 = .ok (.irem, 1) := by decide +kernel
theorem dX0_answer_29 : decode cX0_answer 29 = .ok (.ifCond .eq 38, 3) := by decide +kernel
theorem dX0_answer_32 : decode cX0_answer 32 = .ok (.iload 4, 2) := by decide +kernel
theorem dX0_answer_34 : decode cX0_answer 34 = .ok (.iload_n 1, 1) := by decide +kernel
theorem dX0_answer_35 : decode cX0_answer 35 = .ok (.if_icmp .eq 32, 3) := by decide +kernel
theorem dX0_answer_38 : decode cX0_answer 38 = .ok (.aload_n 0, 1) := by decide +kernel
theorem dX0_answer_39 : decode cX0_answer 39 = .ok (.iload_n 1, 1) := by decide +kernel
theorem dX0_answer_40 : decode cX0_answer 40 = .ok (.iload 4, 2) := by decide +kernel
theorem dX0_answer_42 : decode cX0_answer 42 = .ok (.invokevirtual 91, 3) := by decide +kernel
theorem dX0_answer_45 : decode cX0_answer 45 = .ok (.bipush 8, 2) := by decide +kernel
theorem dX0_answer_47 : decode cX0_answer 47 = .ok (.if_icmp .ge 20, 3) := by decide +kernel
theorem dX0_answer_50 : decode cX0_answer 50 = .ok (.aload_n 0, 1) := by decide +kernel
theorem dX0_answer_51 : decode cX0_answer 51 = .ok (.iload_n 1, 1) := by decide +kernel
theorem dX0_answer_52 : decode cX0_answer 52 = .ok (.iload 4, 2) := by decide +kernel
theorem dX0_answer_54 : decode cX0_answer 54 = .ok (.iload_n 3, 1) := by decide +kernel
theorem dX0_answer_55 : decode cX0_answer 55 = .ok (.bipush 100, 2) := by decide +kernel
theorem dX0_answer_57 : decode cX0_answer 57 = .ok (.irem, 1) := by decide +kernel
theorem dX0_answer_58 : decode cX0_answer 58 = .ok (.iload_n 2, 1) := by decide +kernel
theorem dX0_answer_59 : decode cX0_answer 59 = .ok (.aload_n 0, 1) := by decide +kernel
theorem dX0_answer_60 : decode cX0_answer 60 = .ok (.iload_n 1, 1) := by decide +kernel
theorem dX0_answer_61 : decode cX0_answer 61 = .ok (.invokevirtual 135, 3) := by decide +kernel
theorem dX0_answer_64 : decode cX0_answer 64 = .ok (.invokevirtual 138, 3) := by decide +kernel
theorem dX0_answer_67 : decode cX0_answer 67 = .ok (.return_, 1) := by decide +kernel
theorem dX0_crash_0 : decode cX0_crash 0 = .ok (.aload_n 0, 1) := by decide +kernel
theorem dX0_crash_1 : decode cX0_crash 1 = .ok (.dup, 1) := by decide +kernel
theorem dX0_crash_2 : decode cX0_crash 2 = .ok (.getfield 56, 3) := by decide +kernel
theorem dX0_crash_5 : decode cX0_crash 5 = .ok (.iconst 1, 1) := by decide +kernel
theorem dX0_crash_6 : decode cX0_crash 6 = .ok (.iload_n 1, 1) := by decide +kernel
theorem dX0_crash_7 : decode cX0_crash 7 = .ok (.ishl, 1) := by decide +kernel
theorem dX0_crash_8 : decode cX0_crash 8 = .ok (.ior, 1) := by decide +kernel
theorem dX0_crash_9 : decode cX0_crash 9 = .ok (.putfield 56, 3) := by decide +kernel
theorem dX0_crash_12 : decode cX0_crash 12 = .ok (.iconst 0, 1) := by decide +kernel
theorem dX0_crash_13 : decode cX0_crash 13 = .ok (.istore_n 2, 1) := by decide +kernel
theorem dX0_crash_14 : decode cX0_crash 14 = .ok (.iload_n 2, 1) := by decide +kernel
theorem dX0_crash_15 : decode cX0_crash 15 = .ok (.iconst 4, 1) := by decide +kernel
theorem dX0_crash_16 : decode cX0_crash 16 = .ok (.if_icmp .ge 20, 3) := by decide +kernel
theorem dX0_crash_19 : decode cX0_crash 19 = .ok (.aload_n 0, 1) := by decide +kernel
theorem dX0_crash_20 : decode cX0_crash 20 = .ok (.getfield 42, 3) := by decide +kernel
theorem dX0_crash_23 : decode cX0_crash 23 = .ok (.iload_n 1, 1) := by decide +kernel
theorem dX0_crash_24 : decode cX0_crash 24 = .ok (.iconst 4, 1) := by decide +kernel
theorem dX0_crash_25 : decode cX0_crash 25 = .ok (.imul, 1) := by decide +kernel
theorem dX0_crash_26 : decode cX0_crash 26 = .ok (.iload_n 2, 1) := by decide +kernel
theorem dX0_crash_27 : decode cX0_crash 27 = .ok (.iadd, 1) := by decide +kernel
theorem dX0_crash_28 : decode cX0_crash 28 = .ok (.iconst 0, 1) := by decide +kernel
theorem dX0_crash_29 : decode cX0_crash 29 = .ok (.iastore, 1) := by decide +kernel
theorem dX0_crash_30 : decode cX0_crash 30 = .ok (.iinc 2 1, 3) := by decide +kernel
theorem dX0_crash_33 : decode cX0_crash 33 = .ok (.goto (-19), 3) := by decide +kernel
theorem dX0_crash_36 : decode cX0_crash 36 = .ok (.return_, 1) := by decide +kernel
theorem dX0_keptIfDown_0 : decode cX0_keptIfDown 0 = .ok (.iconst 0, 1) := by decide +kernel
theorem dX0_keptIfDown_1 : decode cX0_keptIfDown 1 = .ok (.istore_n 2, 1) := by decide +kernel
theorem dX0_keptIfDown_2 : decode cX0_keptIfDown 2 = .ok (.iconst 0, 1) := by decide +kernel
theorem dX0_keptIfDown_3 : decode cX0_keptIfDown 3 = .ok (.istore_n 3, 1) := by decide +kernel
theorem dX0_keptIfDown_4 : decode cX0_keptIfDown 4 = .ok (.iload_n 3, 1) := by decide +kernel
theorem dX0_keptIfDown_5 : decode cX0_keptIfDown 5 = .ok (.aload_n 0, 1) := by decide +kernel
theorem dX0_keptIfDown_6 : decode cX0_keptIfDown 6 = .ok (.getfield 49, 3) := by decide +kernel
theorem dX0_keptIfDown_9 : decode cX0_keptIfDown 9 = .ok (.if_icmp .ge 30, 3) := by decide +kernel
theorem dX0_keptIfDown_12 : decode cX0_keptIfDown 12 = .ok (.iload_n 1, 1) := by decide +kernel
theorem dX0_keptIfDown_13 : decode cX0_keptIfDown 13 = .ok (.iload_n 3, 1) := by decide +kernel
theorem dX0_keptIfDown_14 : decode cX0_keptIfDown 14 = .ok (.ishr, 1) := by decide +kernel
theorem dX0_keptIfDown_15 : decode cX0_keptIfDown 15 = .ok (.iconst 1, 1) := by decide +kernel
theorem dX0_keptIfDown_16 : decode cX0_keptIfDown 16 = .ok (.iand, 1) := by decide +kernel
theorem dX0_keptIfDown_17 : decode cX0_keptIfDown 17 = .ok (.ifCond .ne 16, 3) := by decide +kernel
theorem dX0_keptIfDown_20 : decode cX0_keptIfDown 20 = .ok (.iload_n 2, 1) := by decide +kernel
theorem dX0_keptIfDown_21 : decode cX0_keptIfDown 21 = .ok (.iload_n 3, 1) := by decide +kernel
theorem dX0_keptIfDown_22 : decode cX0_keptIfDown 22 = .ok (.invokestatic 71, 3) := by decide +kernel
theorem dX0_keptIfDown_25 : decode cX0_keptIfDown 25 = .ok (.aload_n 0, 1) := by decide +kernel
theorem dX0_keptIfDown_26 : decode cX0_keptIfDown 26 = .ok (.iload_n 3, 1) := by decide +kernel
theorem dX0_keptIfDown_27 : decode cX0_keptIfDown 27 = .ok (.invokevirtual 104, 3) := by decide +kernel
theorem dX0_keptIfDown_30 : decode cX0_keptIfDown 30 = .ok (.ior, 1) := by decide +kernel
theorem dX0_keptIfDown_31 : decode cX0_keptIfDown 31 = .ok (.ior, 1) := by decide +kernel
theorem dX0_keptIfDown_32 : decode cX0_keptIfDown 32 = .ok (.istore_n 2, 1) := by decide +kernel
theorem dX0_keptIfDown_33 : decode cX0_keptIfDown 33 = .ok (.iinc 3 1, 3) := by decide +kernel
theorem dX0_keptIfDown_36 : decode cX0_keptIfDown 36 = .ok (.goto (-32), 3) := by decide +kernel
theorem dX0_keptIfDown_39 : decode cX0_keptIfDown 39 = .ok (.iconst 0, 1) := by decide +kernel
theorem dX0_keptIfDown_40 : decode cX0_keptIfDown 40 = .ok (.istore_n 3, 1) := by decide +kernel
theorem dX0_keptIfDown_41 : decode cX0_keptIfDown 41 = .ok (.iconst 0, 1) := by decide +kernel
theorem dX0_keptIfDown_42 : decode cX0_keptIfDown 42 = .ok (.istore 4, 2) := by decide +kernel
theorem dX0_keptIfDown_44 : decode cX0_keptIfDown 44 = .ok (.iload 4, 2) := by decide +kernel
theorem dX0_keptIfDown_46 : decode cX0_keptIfDown 46 = .ok (.aload_n 0, 1) := by decide +kernel
theorem dX0_keptIfDown_47 : decode cX0_keptIfDown 47 = .ok (.getfield 49, 3) := by decide +kernel
theorem dX0_keptIfDown_50 : decode cX0_keptIfDown 50 = .ok (.if_icmp .ge 60, 3) := by decide +kernel
theorem dX0_keptIfDown_53 : decode cX0_keptIfDown 53 = .ok (.iconst 0, 1) := by decide +kernel
theorem dX0_keptIfDown_54 : decode cX0_keptIfDown 54 = .ok (.istore 5, 2) := by decide +kernel
theorem dX0_keptIfDown_56 : decode cX0_keptIfDown 56 = .ok (.iload 5, 2) := by decide +kernel
theorem dX0_keptIfDown_58 : decode cX0_keptIfDown 58 = .ok (.aload_n 0, 1) := by decide +kernel
theorem dX0_keptIfDown_59 : decode cX0_keptIfDown 59 = .ok (.getfield 9, 3) := by decide +kernel
theorem dX0_keptIfDown_62 : decode cX0_keptIfDown 62 = .ok (.iload 4, 2) := by decide +kernel
theorem dX0_keptIfDown_64 : decode cX0_keptIfDown 64 = .ok (.iaload, 1) := by decide +kernel
theorem dX0_keptIfDown_65 : decode cX0_keptIfDown 65 = .ok (.if_icmp .ge 39, 3) := by decide +kernel
theorem dX0_keptIfDown_68 : decode cX0_keptIfDown 68 = .ok (.iload 4, 2) := by decide +kernel
theorem dX0_keptIfDown_70 : decode cX0_keptIfDown 70 = .ok (.iload 5, 2) := by decide +kernel
theorem dX0_keptIfDown_72 : decode cX0_keptIfDown 72 = .ok (.invokestatic 88, 3) := by decide +kernel
theorem dX0_keptIfDown_75 : decode cX0_keptIfDown 75 = .ok (.istore 6, 2) := by decide +kernel
theorem dX0_keptIfDown_77 : decode cX0_keptIfDown 77 = .ok (.aload_n 0, 1) := by decide +kernel
theorem dX0_keptIfDown_78 : decode cX0_keptIfDown 78 = .ok (.getfield 24, 3) := by decide +kernel
theorem dX0_keptIfDown_81 : decode cX0_keptIfDown 81 = .ok (.iload 6, 2) := by decide +kernel
theorem dX0_keptIfDown_83 : decode cX0_keptIfDown 83 = .ok (.iaload, 1) := by decide +kernel
theorem dX0_keptIfDown_84 : decode cX0_keptIfDown 84 = .ok (.iload_n 2, 1) := by decide +kernel
theorem dX0_keptIfDown_85 : decode cX0_keptIfDown 85 = .ok (.iconst (-1), 1) := by decide +kernel
theorem dX0_keptIfDown_86 : decode cX0_keptIfDown 86 = .ok (.ixor, 1) := by decide +kernel
theorem dX0_keptIfDown_87 : decode cX0_keptIfDown 87 = .ok (.iand, 1) := by decide +kernel
theorem dX0_keptIfDown_88 : decode cX0_keptIfDown 88 = .ok (.ifCond .ne 10, 3) := by decide +kernel
theorem dX0_keptIfDown_91 : decode cX0_keptIfDown 91 = .ok (.iload_n 3, 1) := by decide +kernel
theorem dX0_keptIfDown_92 : decode cX0_keptIfDown 92 = .ok (.iconst 1, 1) := by decide +kernel
theorem dX0_keptIfDown_93 : decode cX0_keptIfDown 93 = .ok (.iload 6, 2) := by decide +kernel
theorem dX0_keptIfDown_95 : decode cX0_keptIfDown 95 = .ok (.ishl, 1) := by decide +kernel
theorem dX0_keptIfDown_96 : decode cX0_keptIfDown 96 = .ok (.ior, 1) := by decide +kernel
theorem dX0_keptIfDown_97 : decode cX0_keptIfDown 97 = .ok (.istore_n 3, 1) := by decide +kernel
theorem dX0_keptIfDown_98 : decode cX0_keptIfDown 98 = .ok (.iinc 5 1, 3) := by decide +kernel
theorem dX0_keptIfDown_101 : decode cX0_keptIfDown 101 = .ok (.goto (-45), 3) := by decide +kernel
theorem dX0_keptIfDown_104 : decode cX0_keptIfDown 104 = .ok (.iinc 4 1, 3) := by decide +kernel
theorem dX0_keptIfDown_107 : decode cX0_keptIfDown 107 = .ok (.goto (-63), 3) := by decide +kernel
theorem dX0_keptIfDown_110 : decode cX0_keptIfDown 110 = .ok (.iload_n 3, 1) := by decide +kernel
theorem dX0_keptIfDown_111 : decode cX0_keptIfDown 111 = .ok (.ireturn, 1) := by decide +kernel
theorem dX0_lostBut_0 : decode cX0_lostBut 0 = .ok (.aload_n 0, 1) := by decide +kernel
theorem dX0_lostBut_1 : decode cX0_lostBut 1 = .ok (.invokevirtual 142, 3) := by decide +kernel
theorem dX0_lostBut_4 : decode cX0_lostBut 4 = .ok (.iload_n 1, 1) := by decide +kernel
theorem dX0_lostBut_5 : decode cX0_lostBut 5 = .ok (.invokestatic 75, 3) := by decide +kernel
theorem dX0_lostBut_8 : decode cX0_lostBut 8 = .ok (.isub, 1) := by decide +kernel
theorem dX0_lostBut_9 : decode cX0_lostBut 9 = .ok (.ireturn, 1) := by decide +kernel
theorem dX0_orphansBut_0 : decode cX0_orphansBut 0 = .ok (.iconst 0, 1) := by decide +kernel
theorem dX0_orphansBut_1 : decode cX0_orphansBut 1 = .ok (.istore_n 3, 1) := by decide +kernel
theorem dX0_orphansBut_2 : decode cX0_orphansBut 2 = .ok (.iconst 0, 1) := by decide +kernel
theorem dX0_orphansBut_3 : decode cX0_orphansBut 3 = .ok (.istore 4, 2) := by decide +kernel
theorem dX0_orphansBut_5 : decode cX0_orphansBut 5 = .ok (.iload 4, 2) := by decide +kernel
theorem dX0_orphansBut_7 : decode cX0_orphansBut 7 = .ok (.aload_n 0, 1) := by decide +kernel
theorem dX0_orphansBut_8 : decode cX0_orphansBut 8 = .ok (.getfield 49, 3) := by decide +kernel
theorem dX0_orphansBut_11 : decode cX0_orphansBut 11 = .ok (.if_icmp .ge 37, 3) := by decide +kernel
theorem dX0_orphansBut_14 : decode cX0_orphansBut 14 = .ok (.iload_n 2, 1) := by decide +kernel
theorem dX0_orphansBut_15 : decode cX0_orphansBut 15 = .ok (.iload 4, 2) := by decide +kernel
theorem dX0_orphansBut_17 : decode cX0_orphansBut 17 = .ok (.ishr, 1) := by decide +kernel
theorem dX0_orphansBut_18 : decode cX0_orphansBut 18 = .ok (.iconst 1, 1) := by decide +kernel
theorem dX0_orphansBut_19 : decode cX0_orphansBut 19 = .ok (.iand, 1) := by decide +kernel
theorem dX0_orphansBut_20 : decode cX0_orphansBut 20 = .ok (.ifCond .ne 22, 3) := by decide +kernel
theorem dX0_orphansBut_23 : decode cX0_orphansBut 23 = .ok (.iload_n 1, 1) := by decide +kernel
theorem dX0_orphansBut_24 : decode cX0_orphansBut 24 = .ok (.iload 4, 2) := by decide +kernel
theorem dX0_orphansBut_26 : decode cX0_orphansBut 26 = .ok (.invokestatic 146, 3) := by decide +kernel
theorem dX0_orphansBut_29 : decode cX0_orphansBut 29 = .ok (.aload_n 0, 1) := by decide +kernel
theorem dX0_orphansBut_30 : decode cX0_orphansBut 30 = .ok (.getfield 9, 3) := by decide +kernel
theorem dX0_orphansBut_33 : decode cX0_orphansBut 33 = .ok (.iload 4, 2) := by decide +kernel
theorem dX0_orphansBut_35 : decode cX0_orphansBut 35 = .ok (.iaload, 1) := by decide +kernel
theorem dX0_orphansBut_36 : decode cX0_orphansBut 36 = .ok (.if_icmp .ge 6, 3) := by decide +kernel
theorem dX0_orphansBut_39 : decode cX0_orphansBut 39 = .ok (.iinc 3 1, 3) := by decide +kernel
theorem dX0_orphansBut_42 : decode cX0_orphansBut 42 = .ok (.iinc 4 1, 3) := by decide +kernel
theorem dX0_orphansBut_45 : decode cX0_orphansBut 45 = .ok (.goto (-40), 3) := by decide +kernel
theorem dX0_orphansBut_48 : decode cX0_orphansBut 48 = .ok (.iload_n 3, 1) := by decide +kernel
theorem dX0_orphansBut_49 : decode cX0_orphansBut 49 = .ok (.ireturn, 1) := by decide +kernel
theorem dX0_raiseAll_0 : decode cX0_raiseAll 0 = .ok (.aload_n 0, 1) := by decide +kernel
theorem dX0_raiseAll_1 : decode cX0_raiseAll 1 = .ok (.aload_n 0, 1) := by decide +kernel
theorem dX0_raiseAll_2 : decode cX0_raiseAll 2 = .ok (.getfield 56, 3) := by decide +kernel
theorem dX0_raiseAll_5 : decode cX0_raiseAll 5 = .ok (.invokevirtual 149, 3) := by decide +kernel
theorem dX0_raiseAll_8 : decode cX0_raiseAll 8 = .ok (.istore_n 1, 1) := by decide +kernel
theorem dX0_raiseAll_9 : decode cX0_raiseAll 9 = .ok (.aload_n 0, 1) := by decide +kernel
theorem dX0_raiseAll_10 : decode cX0_raiseAll 10 = .ok (.iload_n 1, 1) := by decide +kernel
theorem dX0_raiseAll_11 : decode cX0_raiseAll 11 = .ok (.invokevirtual 152, 3) := by decide +kernel
theorem dX0_raiseAll_14 : decode cX0_raiseAll 14 = .ok (.istore_n 2, 1) := by decide +kernel
theorem dX0_raiseAll_15 : decode cX0_raiseAll 15 = .ok (.iconst 0, 1) := by decide +kernel
theorem dX0_raiseAll_16 : decode cX0_raiseAll 16 = .ok (.istore_n 3, 1) := by decide +kernel
theorem dX0_raiseAll_17 : decode cX0_raiseAll 17 = .ok (.iload_n 3, 1) := by decide +kernel
theorem dX0_raiseAll_18 : decode cX0_raiseAll 18 = .ok (.aload_n 0, 1) := by decide +kernel
theorem dX0_raiseAll_19 : decode cX0_raiseAll 19 = .ok (.getfield 49, 3) := by decide +kernel
theorem dX0_raiseAll_22 : decode cX0_raiseAll 22 = .ok (.if_icmp .ge 46, 3) := by decide +kernel
theorem dX0_raiseAll_25 : decode cX0_raiseAll 25 = .ok (.aload_n 0, 1) := by decide +kernel
theorem dX0_raiseAll_26 : decode cX0_raiseAll 26 = .ok (.getfield 9, 3) := by decide +kernel
theorem dX0_raiseAll_29 : decode cX0_raiseAll 29 = .ok (.iload_n 3, 1) := by decide +kernel
theorem dX0_raiseAll_30 : decode cX0_raiseAll 30 = .ok (.iload_n 1, 1) := by decide +kernel
theorem dX0_raiseAll_31 : decode cX0_raiseAll 31 = .ok (.iload_n 3, 1) := by decide +kernel
theorem dX0_raiseAll_32 : decode cX0_raiseAll 32 = .ok (.invokestatic 146, 3) := by decide +kernel
theorem dX0_raiseAll_35 : decode cX0_raiseAll 35 = .ok (.iastore, 1) := by decide +kernel
theorem dX0_raiseAll_36 : decode cX0_raiseAll 36 = .ok (.iconst 0, 1) := by decide +kernel
theorem dX0_raiseAll_37 : decode cX0_raiseAll 37 = .ok (.istore 4, 2) := by decide +kernel
theorem dX0_raiseAll_39 : decode cX0_raiseAll 39 = .ok (.iload 4, 2) := by decide +kernel
theorem dX0_raiseAll_41 : decode cX0_raiseAll 41 = .ok (.aload_n 0, 1) := by decide +kernel
theorem dX0_raiseAll_42 : decode cX0_raiseAll 42 = .ok (.getfield 49, 3) := by decide +kernel
theorem dX0_raiseAll_45 : decode cX0_raiseAll 45 = .ok (.if_icmp .ge 17, 3) := by decide +kernel
theorem dX0_raiseAll_48 : decode cX0_raiseAll 48 = .ok (.aload_n 0, 1) := by decide +kernel
theorem dX0_raiseAll_49 : decode cX0_raiseAll 49 = .ok (.iload_n 3, 1) := by decide +kernel
theorem dX0_raiseAll_50 : decode cX0_raiseAll 50 = .ok (.iload 4, 2) := by decide +kernel
theorem dX0_raiseAll_52 : decode cX0_raiseAll 52 = .ok (.iload_n 1, 1) := by decide +kernel
theorem dX0_raiseAll_53 : decode cX0_raiseAll 53 = .ok (.invokevirtual 155, 3) := by decide +kernel
theorem dX0_raiseAll_56 : decode cX0_raiseAll 56 = .ok (.iinc 4 1, 3) := by decide +kernel
theorem dX0_raiseAll_59 : decode cX0_raiseAll 59 = .ok (.goto (-20), 3) := by decide +kernel
theorem dX0_raiseAll_62 : decode cX0_raiseAll 62 = .ok (.iinc 3 1, 3) := by decide +kernel
theorem dX0_raiseAll_65 : decode cX0_raiseAll 65 = .ok (.goto (-48), 3) := by decide +kernel
theorem dX0_raiseAll_68 : decode cX0_raiseAll 68 = .ok (.iconst 0, 1) := by decide +kernel
theorem dX0_raiseAll_69 : decode cX0_raiseAll 69 = .ok (.istore_n 3, 1) := by decide +kernel
theorem dX0_raiseAll_70 : decode cX0_raiseAll 70 = .ok (.iload_n 3, 1) := by decide +kernel
theorem dX0_raiseAll_71 : decode cX0_raiseAll 71 = .ok (.bipush 16, 2) := by decide +kernel
theorem dX0_raiseAll_73 : decode cX0_raiseAll 73 = .ok (.if_icmp .ge 19, 3) := by decide +kernel
theorem dX0_raiseAll_76 : decode cX0_raiseAll 76 = .ok (.aload_n 0, 1) := by decide +kernel
theorem dX0_raiseAll_77 : decode cX0_raiseAll 77 = .ok (.getfield 42, 3) := by decide +kernel
theorem dX0_raiseAll_80 : decode cX0_raiseAll 80 = .ok (.iload_n 3, 1) := by decide +kernel
theorem dX0_raiseAll_81 : decode cX0_raiseAll 81 = .ok (.dup2, 1) := by decide +kernel
theorem dX0_raiseAll_82 : decode cX0_raiseAll 82 = .ok (.iaload, 1) := by decide +kernel
theorem dX0_raiseAll_83 : decode cX0_raiseAll 83 = .ok (.iload_n 1, 1) := by decide +kernel
theorem dX0_raiseAll_84 : decode cX0_raiseAll 84 = .ok (.iand, 1) := by decide +kernel
theorem dX0_raiseAll_85 : decode cX0_raiseAll 85 = .ok (.iastore, 1) := by decide +kernel
theorem dX0_raiseAll_86 : decode cX0_raiseAll 86 = .ok (.iinc 3 1, 3) := by decide +kernel
theorem dX0_raiseAll_89 : decode cX0_raiseAll 89 = .ok (.goto (-19), 3) := by decide +kernel
theorem dX0_raiseAll_92 : decode cX0_raiseAll 92 = .ok (.aload_n 0, 1) := by decide +kernel
theorem dX0_raiseAll_93 : decode cX0_raiseAll 93 = .ok (.invokevirtual 158, 3) := by decide +kernel
theorem dX0_raiseAll_96 : decode cX0_raiseAll 96 = .ok (.aload_n 0, 1) := by decide +kernel
theorem dX0_raiseAll_97 : decode cX0_raiseAll 97 = .ok (.iconst 0, 1) := by decide +kernel
theorem dX0_raiseAll_98 : decode cX0_raiseAll 98 = .ok (.putfield 56, 3) := by decide +kernel
theorem dX0_raiseAll_101 : decode cX0_raiseAll 101 = .ok (.iload_n 2, 1) := by decide +kernel
theorem dX0_raiseAll_102 : decode cX0_raiseAll 102 = .ok (.ireturn, 1) := by decide +kernel
theorem dX0_keepLettersOn_0 : decode cX0_keepLettersOn 0 = .ok (.iconst 0, 1) := by decide +kernel
theorem dX0_keepLettersOn_1 : decode cX0_keepLettersOn 1 = .ok (.istore 4, 2) := by decide +kernel
theorem dX0_keepLettersOn_3 : decode cX0_keepLettersOn 3 = .ok (.aload_n 0, 1) := by decide +kernel
theorem dX0_keepLettersOn_4 : decode cX0_keepLettersOn 4 = .ok (.iload_n 1, 1) := by decide +kernel
theorem dX0_keepLettersOn_5 : decode cX0_keepLettersOn 5 = .ok (.iload_n 2, 1) := by decide +kernel
theorem dX0_keepLettersOn_6 : decode cX0_keepLettersOn 6 = .ok (.invokevirtual 91, 3) := by decide +kernel
theorem dX0_keepLettersOn_9 : decode cX0_keepLettersOn 9 = .ok (.istore 5, 2) := by decide +kernel
theorem dX0_keepLettersOn_11 : decode cX0_keepLettersOn 11 = .ok (.iconst 0, 1) := by decide +kernel
theorem dX0_keepLettersOn_12 : decode cX0_keepLettersOn 12 = .ok (.istore 6, 2) := by decide +kernel
theorem dX0_keepLettersOn_14 : decode cX0_keepLettersOn 14 = .ok (.iload 6, 2) := by decide +kernel
theorem dX0_keepLettersOn_16 : decode cX0_keepLettersOn 16 = .ok (.iload 5, 2) := by decide +kernel
theorem dX0_keepLettersOn_18 : decode cX0_keepLettersOn 18 = .ok (.if_icmp .ge 77, 3) := by decide +kernel
theorem dX0_keepLettersOn_21 : decode cX0_keepLettersOn 21 = .ok (.iload_n 1, 1) := by decide +kernel
theorem dX0_keepLettersOn_22 : decode cX0_keepLettersOn 22 = .ok (.iload_n 2, 1) := by decide +kernel
theorem dX0_keepLettersOn_23 : decode cX0_keepLettersOn 23 = .ok (.iload 6, 2) := by decide +kernel
theorem dX0_keepLettersOn_25 : decode cX0_keepLettersOn 25 = .ok (.invokestatic 100, 3) := by decide +kernel
theorem dX0_keepLettersOn_28 : decode cX0_keepLettersOn 28 = .ok (.istore 7, 2) := by decide +kernel
theorem dX0_keepLettersOn_30 : decode cX0_keepLettersOn 30 = .ok (.iload_n 3, 1) := by decide +kernel
theorem dX0_keepLettersOn_31 : decode cX0_keepLettersOn 31 = .ok (.aload_n 0, 1) := by decide +kernel
theorem dX0_keepLettersOn_32 : decode cX0_keepLettersOn 32 = .ok (.getfield 33, 3) := by decide +kernel
theorem dX0_keepLettersOn_35 : decode cX0_keepLettersOn 35 = .ok (.iload 7, 2) := by decide +kernel
theorem dX0_keepLettersOn_37 : decode cX0_keepLettersOn 37 = .ok (.iaload, 1) := by decide +kernel
theorem dX0_keepLettersOn_38 : decode cX0_keepLettersOn 38 = .ok (.iushr, 1) := by decide +kernel
theorem dX0_keepLettersOn_39 : decode cX0_keepLettersOn 39 = .ok (.iconst 1, 1) := by decide +kernel
theorem dX0_keepLettersOn_40 : decode cX0_keepLettersOn 40 = .ok (.iand, 1) := by decide +kernel
theorem dX0_keepLettersOn_41 : decode cX0_keepLettersOn 41 = .ok (.ifCond .eq 6, 3) := by decide +kernel
theorem dX0_keepLettersOn_44 : decode cX0_keepLettersOn 44 = .ok (.iinc 4 1, 3) := by decide +kernel
theorem dX0_keepLettersOn_47 : decode cX0_keepLettersOn 47 = .ok (.aload_n 0, 1) := by decide +kernel
theorem dX0_keepLettersOn_48 : decode cX0_keepLettersOn 48 = .ok (.getfield 36, 3) := by decide +kernel
theorem dX0_keepLettersOn_51 : decode cX0_keepLettersOn 51 = .ok (.iload 7, 2) := by decide +kernel
theorem dX0_keepLettersOn_53 : decode cX0_keepLettersOn 53 = .ok (.dup2, 1) := by decide +kernel
theorem dX0_keepLettersOn_54 : decode cX0_keepLettersOn 54 = .ok (.iaload, 1) := by decide +kernel
theorem dX0_keepLettersOn_55 : decode cX0_keepLettersOn 55 = .ok (.iload_n 3, 1) := by decide +kernel
theorem dX0_keepLettersOn_56 : decode cX0_keepLettersOn 56 = .ok (.iand, 1) := by decide +kernel
theorem dX0_keepLettersOn_57 : decode cX0_keepLettersOn 57 = .ok (.iastore, 1) := by decide +kernel
theorem dX0_keepLettersOn_58 : decode cX0_keepLettersOn 58 = .ok (.iconst 0, 1) := by decide +kernel
theorem dX0_keepLettersOn_59 : decode cX0_keepLettersOn 59 = .ok (.istore 8, 2) := by decide +kernel
theorem dX0_keepLettersOn_61 : decode cX0_keepLettersOn 61 = .ok (.iload 8, 2) := by decide +kernel
theorem dX0_keepLettersOn_63 : decode cX0_keepLettersOn 63 = .ok (.iconst 4, 1) := by decide +kernel
theorem dX0_keepLettersOn_64 : decode cX0_keepLettersOn 64 = .ok (.if_icmp .ge 25, 3) := by decide +kernel
theorem dX0_keepLettersOn_67 : decode cX0_keepLettersOn 67 = .ok (.aload_n 0, 1) := by decide +kernel
theorem dX0_keepLettersOn_68 : decode cX0_keepLettersOn 68 = .ok (.getfield 39, 3) := by decide +kernel
theorem dX0_keepLettersOn_71 : decode cX0_keepLettersOn 71 = .ok (.iload 7, 2) := by decide +kernel
theorem dX0_keepLettersOn_73 : decode cX0_keepLettersOn 73 = .ok (.iconst 4, 1) := by decide +kernel
theorem dX0_keepLettersOn_74 : decode cX0_keepLettersOn 74 = .ok (.imul, 1) := by decide +kernel
theorem dX0_keepLettersOn_75 : decode cX0_keepLettersOn 75 = .ok (.iload 8, 2) := by decide +kernel
theorem dX0_keepLettersOn_77 : decode cX0_keepLettersOn 77 = .ok (.iadd, 1) := by decide +kernel
theorem dX0_keepLettersOn_78 : decode cX0_keepLettersOn 78 = .ok (.dup2, 1) := by decide +kernel
theorem dX0_keepLettersOn_79 : decode cX0_keepLettersOn 79 = .ok (.iaload, 1) := by decide +kernel
theorem dX0_keepLettersOn_80 : decode cX0_keepLettersOn 80 = .ok (.iload_n 3, 1) := by decide +kernel
theorem dX0_keepLettersOn_81 : decode cX0_keepLettersOn 81 = .ok (.iand, 1) := by decide +kernel
theorem dX0_keepLettersOn_82 : decode cX0_keepLettersOn 82 = .ok (.iastore, 1) := by decide +kernel
theorem dX0_keepLettersOn_83 : decode cX0_keepLettersOn 83 = .ok (.iinc 8 1, 3) := by decide +kernel
theorem dX0_keepLettersOn_86 : decode cX0_keepLettersOn 86 = .ok (.goto (-25), 3) := by decide +kernel
theorem dX0_keepLettersOn_89 : decode cX0_keepLettersOn 89 = .ok (.iinc 6 1, 3) := by decide +kernel
theorem dX0_keepLettersOn_92 : decode cX0_keepLettersOn 92 = .ok (.goto (-78), 3) := by decide +kernel
theorem dX0_keepLettersOn_95 : decode cX0_keepLettersOn 95 = .ok (.aload_n 0, 1) := by decide +kernel
theorem dX0_keepLettersOn_96 : decode cX0_keepLettersOn 96 = .ok (.getfield 27, 3) := by decide +kernel
theorem dX0_keepLettersOn_99 : decode cX0_keepLettersOn 99 = .ok (.iload_n 1, 1) := by decide +kernel
theorem dX0_keepLettersOn_100 : decode cX0_keepLettersOn 100 = .ok (.iload_n 2, 1) := by decide +kernel
theorem dX0_keepLettersOn_101 : decode cX0_keepLettersOn 101 = .ok (.invokestatic 80, 3) := by decide +kernel
theorem dX0_keepLettersOn_104 : decode cX0_keepLettersOn 104 = .ok (.iload 4, 2) := by decide +kernel
theorem dX0_keepLettersOn_106 : decode cX0_keepLettersOn 106 = .ok (.iastore, 1) := by decide +kernel
theorem dX0_keepLettersOn_107 : decode cX0_keepLettersOn 107 = .ok (.return_, 1) := by decide +kernel
theorem dX0_learnAll_0 : decode cX0_learnAll 0 = .ok (.iconst 0, 1) := by decide +kernel
theorem dX0_learnAll_1 : decode cX0_learnAll 1 = .ok (.istore_n 3, 1) := by decide +kernel
theorem dX0_learnAll_2 : decode cX0_learnAll 2 = .ok (.iload_n 3, 1) := by decide +kernel
theorem dX0_learnAll_3 : decode cX0_learnAll 3 = .ok (.aload_n 0, 1) := by decide +kernel
theorem dX0_learnAll_4 : decode cX0_learnAll 4 = .ok (.getfield 49, 3) := by decide +kernel
theorem dX0_learnAll_7 : decode cX0_learnAll 7 = .ok (.if_icmp .ge 36, 3) := by decide +kernel
theorem dX0_learnAll_10 : decode cX0_learnAll 10 = .ok (.aload_n 0, 1) := by decide +kernel
theorem dX0_learnAll_11 : decode cX0_learnAll 11 = .ok (.getfield 42, 3) := by decide +kernel
theorem dX0_learnAll_14 : decode cX0_learnAll 14 = .ok (.iload_n 1, 1) := by decide +kernel
theorem dX0_learnAll_15 : decode cX0_learnAll 15 = .ok (.iconst 4, 1) := by decide +kernel
theorem dX0_learnAll_16 : decode cX0_learnAll 16 = .ok (.imul, 1) := by decide +kernel
theorem dX0_learnAll_17 : decode cX0_learnAll 17 = .ok (.iload_n 3, 1) := by decide +kernel
theorem dX0_learnAll_18 : decode cX0_learnAll 18 = .ok (.iadd, 1) := by decide +kernel
theorem dX0_learnAll_19 : decode cX0_learnAll 19 = .ok (.aload_n 0, 1) := by decide +kernel
theorem dX0_learnAll_20 : decode cX0_learnAll 20 = .ok (.iload_n 3, 1) := by decide +kernel
theorem dX0_learnAll_21 : decode cX0_learnAll 21 = .ok (.invokevirtual 161, 3) := by decide +kernel
theorem dX0_learnAll_24 : decode cX0_learnAll 24 = .ok (.ifCond .eq 7, 3) := by decide +kernel
theorem dX0_learnAll_27 : decode cX0_learnAll 27 = .ok (.iload_n 2, 1) := by decide +kernel
theorem dX0_learnAll_28 : decode cX0_learnAll 28 = .ok (.goto 8, 3) := by decide +kernel
theorem dX0_learnAll_31 : decode cX0_learnAll 31 = .ok (.aload_n 0, 1) := by decide +kernel
theorem dX0_learnAll_32 : decode cX0_learnAll 32 = .ok (.iload_n 3, 1) := by decide +kernel
theorem dX0_learnAll_33 : decode cX0_learnAll 33 = .ok (.invokevirtual 104, 3) := by decide +kernel
theorem dX0_learnAll_36 : decode cX0_learnAll 36 = .ok (.iastore, 1) := by decide +kernel
theorem dX0_learnAll_37 : decode cX0_learnAll 37 = .ok (.iinc 3 1, 3) := by decide +kernel
theorem dX0_learnAll_40 : decode cX0_learnAll 40 = .ok (.goto (-38), 3) := by decide +kernel
theorem dX0_learnAll_43 : decode cX0_learnAll 43 = .ok (.return_, 1) := by decide +kernel
theorem dX0_tellTheRaised_0 : decode cX0_tellTheRaised 0 = .ok (.iconst 0, 1) := by decide +kernel
theorem dX0_tellTheRaised_1 : decode cX0_tellTheRaised 1 = .ok (.istore_n 1, 1) := by decide +kernel
theorem dX0_tellTheRaised_2 : decode cX0_tellTheRaised 2 = .ok (.iconst 0, 1) := by decide +kernel
theorem dX0_tellTheRaised_3 : decode cX0_tellTheRaised 3 = .ok (.istore_n 2, 1) := by decide +kernel
theorem dX0_tellTheRaised_4 : decode cX0_tellTheRaised 4 = .ok (.iload_n 2, 1) := by decide +kernel
theorem dX0_tellTheRaised_5 : decode cX0_tellTheRaised 5 = .ok (.aload_n 0, 1) := by decide +kernel
theorem dX0_tellTheRaised_6 : decode cX0_tellTheRaised 6 = .ok (.getfield 49, 3) := by decide +kernel
theorem dX0_tellTheRaised_9 : decode cX0_tellTheRaised 9 = .ok (.if_icmp .ge 17, 3) := by decide +kernel
theorem dX0_tellTheRaised_12 : decode cX0_tellTheRaised 12 = .ok (.iload_n 1, 1) := by decide +kernel
theorem dX0_tellTheRaised_13 : decode cX0_tellTheRaised 13 = .ok (.aload_n 0, 1) := by decide +kernel
theorem dX0_tellTheRaised_14 : decode cX0_tellTheRaised 14 = .ok (.iload_n 2, 1) := by decide +kernel
theorem dX0_tellTheRaised_15 : decode cX0_tellTheRaised 15 = .ok (.invokevirtual 104, 3) := by decide +kernel
theorem dX0_tellTheRaised_18 : decode cX0_tellTheRaised 18 = .ok (.ior, 1) := by decide +kernel
theorem dX0_tellTheRaised_19 : decode cX0_tellTheRaised 19 = .ok (.istore_n 1, 1) := by decide +kernel
theorem dX0_tellTheRaised_20 : decode cX0_tellTheRaised 20 = .ok (.iinc 2 1, 3) := by decide +kernel
theorem dX0_tellTheRaised_23 : decode cX0_tellTheRaised 23 = .ok (.goto (-19), 3) := by decide +kernel
theorem dX0_tellTheRaised_26 : decode cX0_tellTheRaised 26 = .ok (.iconst 0, 1) := by decide +kernel
theorem dX0_tellTheRaised_27 : decode cX0_tellTheRaised 27 = .ok (.istore_n 2, 1) := by decide +kernel
theorem dX0_tellTheRaised_28 : decode cX0_tellTheRaised 28 = .ok (.iload_n 2, 1) := by decide +kernel
theorem dX0_tellTheRaised_29 : decode cX0_tellTheRaised 29 = .ok (.aload_n 0, 1) := by decide +kernel
theorem dX0_tellTheRaised_30 : decode cX0_tellTheRaised 30 = .ok (.getfield 49, 3) := by decide +kernel
theorem dX0_tellTheRaised_33 : decode cX0_tellTheRaised 33 = .ok (.if_icmp .ge 23, 3) := by decide +kernel
theorem dX0_tellTheRaised_36 : decode cX0_tellTheRaised 36 = .ok (.aload_n 0, 1) := by decide +kernel
theorem dX0_tellTheRaised_37 : decode cX0_tellTheRaised 37 = .ok (.iload_n 2, 1) := by decide +kernel
theorem dX0_tellTheRaised_38 : decode cX0_tellTheRaised 38 = .ok (.invokevirtual 161, 3) := by decide +kernel
theorem dX0_tellTheRaised_41 : decode cX0_tellTheRaised 41 = .ok (.ifCond .eq 9, 3) := by decide +kernel
theorem dX0_tellTheRaised_44 : decode cX0_tellTheRaised 44 = .ok (.aload_n 0, 1) := by decide +kernel
theorem dX0_tellTheRaised_45 : decode cX0_tellTheRaised 45 = .ok (.iload_n 2, 1) := by decide +kernel
theorem dX0_tellTheRaised_46 : decode cX0_tellTheRaised 46 = .ok (.iload_n 1, 1) := by decide +kernel
theorem dX0_tellTheRaised_47 : decode cX0_tellTheRaised 47 = .ok (.invokevirtual 164, 3) := by decide +kernel
theorem dX0_tellTheRaised_50 : decode cX0_tellTheRaised 50 = .ok (.iinc 2 1, 3) := by decide +kernel
theorem dX0_tellTheRaised_53 : decode cX0_tellTheRaised 53 = .ok (.goto (-25), 3) := by decide +kernel
theorem dX0_tellTheRaised_56 : decode cX0_tellTheRaised 56 = .ok (.return_, 1) := by decide +kernel
end
section
theorem dX1_init_0 : decode cX1_init 0 = .ok (.aload_n 0, 1) := by decide +kernel
theorem dX1_init_1 : decode cX1_init 1 = .ok (.invokespecial 3, 3) := by decide +kernel
theorem dX1_init_4 : decode cX1_init 4 = .ok (.aload_n 0, 1) := by decide +kernel
theorem dX1_init_5 : decode cX1_init 5 = .ok (.new 9, 3) := by decide +kernel
theorem dX1_init_8 : decode cX1_init 8 = .ok (.dup, 1) := by decide +kernel
theorem dX1_init_9 : decode cX1_init 9 = .ok (.invokespecial 11, 3) := by decide +kernel
theorem dX1_init_12 : decode cX1_init 12 = .ok (.putfield 12, 3) := by decide +kernel
theorem dX1_init_15 : decode cX1_init 15 = .ok (.aload_n 0, 1) := by decide +kernel
theorem dX1_init_16 : decode cX1_init 16 = .ok (.iconst 5, 1) := by decide +kernel
theorem dX1_init_17 : decode cX1_init 17 = .ok (.anewarray 9, 3) := by decide +kernel
theorem dX1_init_20 : decode cX1_init 20 = .ok (.putfield 16, 3) := by decide +kernel
theorem dX1_init_23 : decode cX1_init 23 = .ok (.iconst 0, 1) := by decide +kernel
theorem dX1_init_24 : decode cX1_init 24 = .ok (.istore_n 1, 1) := by decide +kernel
theorem dX1_init_25 : decode cX1_init 25 = .ok (.iload_n 1, 1) := by decide +kernel
theorem dX1_init_26 : decode cX1_init 26 = .ok (.iconst 5, 1) := by decide +kernel
theorem dX1_init_27 : decode cX1_init 27 = .ok (.if_icmp .ge 22, 3) := by decide +kernel
theorem dX1_init_30 : decode cX1_init 30 = .ok (.aload_n 0, 1) := by decide +kernel
theorem dX1_init_31 : decode cX1_init 31 = .ok (.getfield 16, 3) := by decide +kernel
theorem dX1_init_34 : decode cX1_init 34 = .ok (.iload_n 1, 1) := by decide +kernel
theorem dX1_init_35 : decode cX1_init 35 = .ok (.new 9, 3) := by decide +kernel
theorem dX1_init_38 : decode cX1_init 38 = .ok (.dup, 1) := by decide +kernel
theorem dX1_init_39 : decode cX1_init 39 = .ok (.invokespecial 11, 3) := by decide +kernel
theorem dX1_init_42 : decode cX1_init 42 = .ok (.aastore, 1) := by decide +kernel
theorem dX1_init_43 : decode cX1_init 43 = .ok (.iinc 1 1, 3) := by decide +kernel
theorem dX1_init_46 : decode cX1_init 46 = .ok (.goto (-21), 3) := by decide +kernel
theorem dX1_init_49 : decode cX1_init 49 = .ok (.aload_n 0, 1) := by decide +kernel
theorem dX1_init_50 : decode cX1_init 50 = .ok (.iconst 2, 1) := by decide +kernel
theorem dX1_init_51 : decode cX1_init 51 = .ok (.anewarray 9, 3) := by decide +kernel
theorem dX1_init_54 : decode cX1_init 54 = .ok (.putfield 20, 3) := by decide +kernel
theorem dX1_init_57 : decode cX1_init 57 = .ok (.iconst 0, 1) := by decide +kernel
theorem dX1_init_58 : decode cX1_init 58 = .ok (.istore_n 1, 1) := by decide +kernel
theorem dX1_init_59 : decode cX1_init 59 = .ok (.iload_n 1, 1) := by decide +kernel
theorem dX1_init_60 : decode cX1_init 60 = .ok (.iconst 2, 1) := by decide +kernel
theorem dX1_init_61 : decode cX1_init 61 = .ok (.if_icmp .ge 22, 3) := by decide +kernel
theorem dX1_init_64 : decode cX1_init 64 = .ok (.aload_n 0, 1) := by decide +kernel
theorem dX1_init_65 : decode cX1_init 65 = .ok (.getfield 20, 3) := by decide +kernel
theorem dX1_init_68 : decode cX1_init 68 = .ok (.iload_n 1, 1) := by decide +kernel
theorem dX1_init_69 : decode cX1_init 69 = .ok (.new 9, 3) := by decide +kernel
theorem dX1_init_72 : decode cX1_init 72 = .ok (.dup, 1) := by decide +kernel
theorem dX1_init_73 : decode cX1_init 73 = .ok (.invokespecial 11, 3) := by decide +kernel
theorem dX1_init_76 : decode cX1_init 76 = .ok (.aastore, 1) := by decide +kernel
theorem dX1_init_77 : decode cX1_init 77 = .ok (.iinc 1 1, 3) := by decide +kernel
theorem dX1_init_80 : decode cX1_init 80 = .ok (.goto (-21), 3) := by decide +kernel
theorem dX1_init_83 : decode cX1_init 83 = .ok (.aload_n 0, 1) := by decide +kernel
theorem dX1_init_84 : decode cX1_init 84 = .ok (.bipush 6, 2) := by decide +kernel
theorem dX1_init_86 : decode cX1_init 86 = .ok (.newarray .int, 2) := by decide +kernel
theorem dX1_init_88 : decode cX1_init 88 = .ok (.putfield 23, 3) := by decide +kernel
theorem dX1_init_91 : decode cX1_init 91 = .ok (.aload_n 0, 1) := by decide +kernel
theorem dX1_init_92 : decode cX1_init 92 = .ok (.bipush 6, 2) := by decide +kernel
theorem dX1_init_94 : decode cX1_init 94 = .ok (.newarray .int, 2) := by decide +kernel
theorem dX1_init_96 : decode cX1_init 96 = .ok (.putfield 27, 3) := by decide +kernel
theorem dX1_init_99 : decode cX1_init 99 = .ok (.aload_n 0, 1) := by decide +kernel
theorem dX1_init_100 : decode cX1_init 100 = .ok (.bipush 16, 2) := by decide +kernel
theorem dX1_init_102 : decode cX1_init 102 = .ok (.newarray .int, 2) := by decide +kernel
theorem dX1_init_104 : decode cX1_init 104 = .ok (.putfield 30, 3) := by decide +kernel
theorem dX1_init_107 : decode cX1_init 107 = .ok (.aload_n 0, 1) := by decide +kernel
theorem dX1_init_108 : decode cX1_init 108 = .ok (.bipush 9, 2) := by decide +kernel
theorem dX1_init_110 : decode cX1_init 110 = .ok (.newarray .int, 2) := by decide +kernel
theorem dX1_init_112 : decode cX1_init 112 = .ok (.putfield 33, 3) := by decide +kernel
theorem dX1_init_115 : decode cX1_init 115 = .ok (.return_, 1) := by decide +kernel
theorem dX1_begins_0 : decode cX1_begins 0 = .ok (.iload_n 1, 1) := by decide +kernel
theorem dX1_begins_1 : decode cX1_begins 1 = .ok (.iconst 2, 1) := by decide +kernel
theorem dX1_begins_2 : decode cX1_begins 2 = .ok (.if_icmp .lt 18, 3) := by decide +kernel
theorem dX1_begins_5 : decode cX1_begins 5 = .ok (.iload_n 1, 1) := by decide +kernel
theorem dX1_begins_6 : decode cX1_begins 6 = .ok (.iconst 4, 1) := by decide +kernel
theorem dX1_begins_7 : decode cX1_begins 7 = .ok (.if_icmp .gt 13, 3) := by decide +kernel
theorem dX1_begins_10 : decode cX1_begins 10 = .ok (.iload_n 2, 1) := by decide +kernel
theorem dX1_begins_11 : decode cX1_begins 11 = .ok (.iconst 1, 1) := by decide +kernel
theorem dX1_begins_12 : decode cX1_begins 12 = .ok (.if_icmp .lt 8, 3) := by decide +kernel
theorem dX1_begins_15 : decode cX1_begins 15 = .ok (.iload_n 2, 1) := by decide +kernel
theorem dX1_begins_16 : decode cX1_begins 16 = .ok (.iload_n 1, 1) := by decide +kernel
theorem dX1_begins_17 : decode cX1_begins 17 = .ok (.if_icmp .le 5, 3) := by decide +kernel
theorem dX1_begins_20 : decode cX1_begins 20 = .ok (.iconst (-1), 1) := by decide +kernel
theorem dX1_begins_21 : decode cX1_begins 21 = .ok (.ireturn, 1) := by decide +kernel
theorem dX1_begins_22 : decode cX1_begins 22 = .ok (.aload_n 0, 1) := by decide +kernel
theorem dX1_begins_23 : decode cX1_begins 23 = .ok (.invokevirtual 36, 3) := by decide +kernel
theorem dX1_begins_26 : decode cX1_begins 26 = .ok (.aload_n 0, 1) := by decide +kernel
theorem dX1_begins_27 : decode cX1_begins 27 = .ok (.getfield 12, 3) := by decide +kernel
theorem dX1_begins_30 : decode cX1_begins 30 = .ok (.iload_n 1, 1) := by decide +kernel
theorem dX1_begins_31 : decode cX1_begins 31 = .ok (.iload_n 2, 1) := by decide +kernel
theorem dX1_begins_32 : decode cX1_begins 32 = .ok (.invokevirtual 39, 3) := by decide +kernel
theorem dX1_begins_35 : decode cX1_begins 35 = .ok (.aload_n 0, 1) := by decide +kernel
theorem dX1_begins_36 : decode cX1_begins 36 = .ok (.iconst 0, 1) := by decide +kernel
theorem dX1_begins_37 : decode cX1_begins 37 = .ok (.putfield 43, 3) := by decide +kernel
theorem dX1_begins_40 : decode cX1_begins 40 = .ok (.aload_n 0, 1) := by decide +kernel
theorem dX1_begins_41 : decode cX1_begins 41 = .ok (.iconst 0, 1) := by decide +kernel
theorem dX1_begins_42 : decode cX1_begins 42 = .ok (.putfield 47, 3) := by decide +kernel
theorem dX1_begins_45 : decode cX1_begins 45 = .ok (.iload_n 1, 1) := by decide +kernel
theorem dX1_begins_46 : decode cX1_begins 46 = .ok (.ireturn, 1) := by decide +kernel
theorem dX1_puts_0 : decode cX1_puts 0 = .ok (.aload_n 0, 1) := by decide +kernel
theorem dX1_puts_1 : decode cX1_puts 1 = .ok (.getfield 12, 3) := by decide +kernel
theorem dX1_puts_4 : decode cX1_puts 4 = .ok (.iload_n 1, 1) := by decide +kernel
theorem dX1_puts_5 : decode cX1_puts 5 = .ok (.invokevirtual 50, 3) := by decide +kernel
theorem dX1_puts_8 : decode cX1_puts 8 = .ok (.ifCond .eq 13, 3) := by decide +kernel
theorem dX1_puts_11 : decode cX1_puts 11 = .ok (.iload_n 2, 1) := by decide +kernel
theorem dX1_puts_12 : decode cX1_puts 12 = .ok (.ifCond .lt 9, 3) := by decide +kernel
theorem dX1_puts_15 : decode cX1_puts 15 = .ok (.iload_n 2, 1) := by decide +kernel
theorem dX1_puts_16 : decode cX1_puts 16 = .ok (.bipush 99, 2) := by decide +kernel
theorem dX1_puts_18 : decode cX1_puts 18 = .ok (.if_icmp .le 5, 3) := by decide +kernel
theorem dX1_puts_21 : decode cX1_puts 21 = .ok (.iconst (-1), 1) := by decide +kernel
theorem dX1_puts_22 : decode cX1_puts 22 = .ok (.ireturn, 1) := by decide +kernel
theorem dX1_puts_23 : decode cX1_puts 23 = .ok (.aload_n 0, 1) := by decide +kernel
theorem dX1_puts_24 : decode cX1_puts 24 = .ok (.getfield 12, 3) := by decide +kernel
theorem dX1_puts_27 : decode cX1_puts 27 = .ok (.aload_n 0, 1) := by decide +kernel
theorem dX1_puts_28 : decode cX1_puts 28 = .ok (.getfield 12, 3) := by decide +kernel
theorem dX1_puts_31 : decode cX1_puts 31 = .ok (.getfield 54, 3) := by decide +kernel
theorem dX1_puts_34 : decode cX1_puts 34 = .ok (.iload_n 1, 1) := by decide +kernel
theorem dX1_puts_35 : decode cX1_puts 35 = .ok (.invokevirtual 57, 3) := by decide +kernel
theorem dX1_puts_38 : decode cX1_puts 38 = .ok (.istore_n 3, 1) := by decide +kernel
theorem dX1_puts_39 : decode cX1_puts 39 = .ok (.iload_n 3, 1) := by decide +kernel
theorem dX1_puts_40 : decode cX1_puts 40 = .ok (.bipush 8, 2) := by decide +kernel
theorem dX1_puts_42 : decode cX1_puts 42 = .ok (.if_icmp .lt 6, 3) := by decide +kernel
theorem dX1_puts_45 : decode cX1_puts 45 = .ok (.bipush (-3), 2) := by decide +kernel
theorem dX1_puts_47 : decode cX1_puts 47 = .ok (.ireturn, 1) := by decide +kernel
theorem dX1_puts_48 : decode cX1_puts 48 = .ok (.aload_n 0, 1) := by decide +kernel
theorem dX1_puts_49 : decode cX1_puts 49 = .ok (.invokevirtual 36, 3) := by decide +kernel
theorem dX1_puts_52 : decode cX1_puts 52 = .ok (.aload_n 0, 1) := by decide +kernel
theorem dX1_puts_53 : decode cX1_puts 53 = .ok (.getfield 12, 3) := by decide +kernel
theorem dX1_puts_56 : decode cX1_puts 56 = .ok (.aload_n 0, 1) := by decide +kernel
theorem dX1_puts_57 : decode cX1_puts 57 = .ok (.getfield 12, 3) := by decide +kernel
theorem dX1_puts_60 : decode cX1_puts 60 = .ok (.getfield 54, 3) := by decide +kernel
theorem dX1_puts_63 : decode cX1_puts 63 = .ok (.iload_n 1, 1) := by decide +kernel
theorem dX1_puts_64 : decode cX1_puts 64 = .ok (.iload_n 2, 1) := by decide +kernel
theorem dX1_puts_65 : decode cX1_puts 65 = .ok (.bipush (-9), 2) := by decide +kernel
theorem dX1_puts_67 : decode cX1_puts 67 = .ok (.iconst 0, 1) := by decide +kernel
theorem dX1_puts_68 : decode cX1_puts 68 = .ok (.invokevirtual 61, 3) := by decide +kernel
theorem dX1_puts_71 : decode cX1_puts 71 = .ok (.iload_n 3, 1) := by decide +kernel
theorem dX1_puts_72 : decode cX1_puts 72 = .ok (.ireturn, 1) := by decide +kernel
theorem dX1_receives_0 : decode cX1_receives 0 = .ok (.aload_n 0, 1) := by decide +kernel
theorem dX1_receives_1 : decode cX1_receives 1 = .ok (.getfield 12, 3) := by decide +kernel
theorem dX1_receives_4 : decode cX1_receives 4 = .ok (.iload_n 2, 1) := by decide +kernel
theorem dX1_receives_5 : decode cX1_receives 5 = .ok (.iload_n 1, 1) := by decide +kernel
theorem dX1_receives_6 : decode cX1_receives 6 = .ok (.invokevirtual 65, 3) := by decide +kernel
theorem dX1_receives_9 : decode cX1_receives 9 = .ok (.ifCond .ne 5, 3) := by decide +kernel
theorem dX1_receives_12 : decode cX1_receives 12 = .ok (.iconst (-1), 1) := by decide +kernel
theorem dX1_receives_13 : decode cX1_receives 13 = .ok (.ireturn, 1) := by decide +kernel
theorem dX1_receives_14 : decode cX1_receives 14 = .ok (.aload_n 0, 1) := by decide +kernel
theorem dX1_receives_15 : decode cX1_receives 15 = .ok (.getfield 12, 3) := by decide +kernel
theorem dX1_receives_18 : decode cX1_receives 18 = .ok (.iload_n 1, 1) := by decide +kernel
theorem dX1_receives_19 : decode cX1_receives 19 = .ok (.invokevirtual 69, 3) := by decide +kernel
theorem dX1_receives_22 : decode cX1_receives 22 = .ok (.ifCond .ne 24, 3) := by decide +kernel
theorem dX1_receives_25 : decode cX1_receives 25 = .ok (.aload_n 0, 1) := by decide +kernel
theorem dX1_receives_26 : decode cX1_receives 26 = .ok (.getfield 12, 3) := by decide +kernel
theorem dX1_receives_29 : decode cX1_receives 29 = .ok (.iload_n 2, 1) := by decide +kernel
theorem dX1_receives_30 : decode cX1_receives 30 = .ok (.iload_n 1, 1) := by decide +kernel
theorem dX1_receives_31 : decode cX1_receives 31 = .ok (.invokevirtual 72, 3) := by decide +kernel
theorem dX1_receives_34 : decode cX1_receives 34 = .ok (.aload_n 0, 1) := by decide +kernel
theorem dX1_receives_35 : decode cX1_receives 35 = .ok (.getfield 12, 3) := by decide +kernel
theorem dX1_receives_38 : decode cX1_receives 38 = .ok (.iload_n 2, 1) := by decide +kernel
theorem dX1_receives_39 : decode cX1_receives 39 = .ok (.iload_n 1, 1) := by decide +kernel
theorem dX1_receives_40 : decode cX1_receives 40 = .ok (.invokevirtual 57, 3) := by decide +kernel
theorem dX1_receives_43 : decode cX1_receives 43 = .ok (.if_icmp .lt 6, 3) := by decide +kernel
theorem dX1_receives_46 : decode cX1_receives 46 = .ok (.bipush (-2), 2) := by decide +kernel
theorem dX1_receives_48 : decode cX1_receives 48 = .ok (.ireturn, 1) := by decide +kernel
theorem dX1_receives_49 : decode cX1_receives 49 = .ok (.aload_n 0, 1) := by decide +kernel
theorem dX1_receives_50 : decode cX1_receives 50 = .ok (.getfield 12, 3) := by decide +kernel
theorem dX1_receives_53 : decode cX1_receives 53 = .ok (.getfield 75, 3) := by decide +kernel
theorem dX1_receives_56 : decode cX1_receives 56 = .ok (.iload_n 1, 1) := by decide +kernel
theorem dX1_receives_57 : decode cX1_receives 57 = .ok (.iaload, 1) := by decide +kernel
theorem dX1_receives_58 : decode cX1_receives 58 = .ok (.bipush 8, 2) := by decide +kernel
theorem dX1_receives_60 : decode cX1_receives 60 = .ok (.if_icmp .lt 6, 3) := by decide +kernel
theorem dX1_receives_63 : decode cX1_receives 63 = .ok (.bipush (-3), 2) := by decide +kernel
theorem dX1_receives_65 : decode cX1_receives 65 = .ok (.ireturn, 1) := by decide +kernel
theorem dX1_receives_66 : decode cX1_receives 66 = .ok (.aload_n 0, 1) := by decide +kernel
theorem dX1_receives_67 : decode cX1_receives 67 = .ok (.invokevirtual 36, 3) := by decide +kernel
theorem dX1_receives_70 : decode cX1_receives 70 = .ok (.aload_n 0, 1) := by decide +kernel
theorem dX1_receives_71 : decode cX1_receives 71 = .ok (.getfield 12, 3) := by decide +kernel
theorem dX1_receives_74 : decode cX1_receives 74 = .ok (.iload_n 2, 1) := by decide +kernel
theorem dX1_receives_75 : decode cX1_receives 75 = .ok (.iload_n 1, 1) := by decide +kernel
theorem dX1_receives_76 : decode cX1_receives 76 = .ok (.invokevirtual 78, 3) := by decide +kernel
theorem dX1_receives_79 : decode cX1_receives 79 = .ok (.aload_n 0, 1) := by decide +kernel
theorem dX1_receives_80 : decode cX1_receives 80 = .ok (.getfield 12, 3) := by decide +kernel
theorem dX1_receives_83 : decode cX1_receives 83 = .ok (.iload_n 1, 1) := by decide +kernel
theorem dX1_receives_84 : decode cX1_receives 84 = .ok (.invokevirtual 81, 3) := by decide +kernel
theorem dX1_receives_87 : decode cX1_receives 87 = .ok (.ireturn, 1) := by decide +kernel
theorem dX1_crashes_0 : decode cX1_crashes 0 = .ok (.aload_n 0, 1) := by decide +kernel
theorem dX1_crashes_1 : decode cX1_crashes 1 = .ok (.getfield 12, 3) := by decide +kernel
theorem dX1_crashes_4 : decode cX1_crashes 4 = .ok (.iload_n 1, 1) := by decide +kernel
theorem dX1_crashes_5 : decode cX1_crashes 5 = .ok (.invokevirtual 50, 3) := by decide +kernel
theorem dX1_crashes_8 : decode cX1_crashes 8 = .ok (.ifCond .ne 5, 3) := by decide +kernel
theorem dX1_crashes_11 : decode cX1_crashes 11 = .ok (.iconst (-1), 1) := by decide +kernel
theorem dX1_crashes_12 : decode cX1_crashes 12 = .ok (.ireturn, 1) := by decide +kernel
theorem dX1_crashes_13 : decode cX1_crashes 13 = .ok (.aload_n 0, 1) := by decide +kernel
theorem dX1_crashes_14 : decode cX1_crashes 14 = .ok (.getfield 12, 3) := by decide +kernel
theorem dX1_crashes_17 : decode cX1_crashes 17 = .ok (.iload_n 1, 1) := by decide +kernel
theorem dX1_crashes_18 : decode cX1_crashes 18 = .ok (.invokevirtual 69, 3) := by decide +kernel
theorem dX1_crashes_21 : decode cX1_crashes 21 = .ok (.ifCond .eq 6, 3) := by decide +kernel
theorem dX1_crashes_24 : decode cX1_crashes 24 = .ok (.bipush (-2), 2) := by decide +kernel
theorem dX1_crashes_26 : decode cX1_crashes 26 = .ok (.ireturn, 1) := by decide +kernel
theorem dX1_crashes_27 : decode cX1_crashes 27 = .ok (.aload_n 0, 1) := by decide +kernel
theorem dX1_crashes_28 : decode cX1_crashes 28 = .ok (.invokevirtual 36, 3) := by decide +kernel
theorem dX1_crashes_31 : decode cX1_crashes 31 = .ok (.aload_n 0, 1) := by decide +kernel
theorem dX1_crashes_32 : decode cX1_crashes 32 = .ok (.getfield 12, 3) := by decide +kernel
theorem dX1_crashes_35 : decode cX1_crashes 35 = .ok (.iload_n 1, 1) := by decide +kernel
theorem dX1_crashes_36 : decode cX1_crashes 36 = .ok (.invokevirtual 85, 3) := by decide +kernel
theorem dX1_crashes_39 : decode cX1_crashes 39 = .ok (.aload_n 0, 1) := by decide +kernel
theorem dX1_crashes_40 : decode cX1_crashes 40 = .ok (.getfield 12, 3) := by decide +kernel
theorem dX1_crashes_43 : decode cX1_crashes 43 = .ok (.getfield 89, 3) := by decide +kernel
theorem dX1_crashes_46 : decode cX1_crashes 46 = .ok (.invokestatic 92, 3) := by decide +kernel
theorem dX1_crashes_49 : decode cX1_crashes 49 = .ok (.ireturn, 1) := by decide +kernel
theorem dX1_raises_0 : decode cX1_raises 0 = .ok (.aload_n 0, 1) := by decide +kernel
theorem dX1_raises_1 : decode cX1_raises 1 = .ok (.getfield 12, 3) := by decide +kernel
theorem dX1_raises_4 : decode cX1_raises 4 = .ok (.getfield 89, 3) := by decide +kernel
theorem dX1_raises_7 : decode cX1_raises 7 = .ok (.ifCond .ne 6, 3) := by decide +kernel
theorem dX1_raises_10 : decode cX1_raises 10 = .ok (.bipush (-2), 2) := by decide +kernel
theorem dX1_raises_12 : decode cX1_raises 12 = .ok (.ireturn, 1) := by decide +kernel
theorem dX1_raises_13 : decode cX1_raises 13 = .ok (.aload_n 0, 1) := by decide +kernel
theorem dX1_raises_14 : decode cX1_raises 14 = .ok (.invokevirtual 36, 3) := by decide +kernel
theorem dX1_raises_17 : decode cX1_raises 17 = .ok (.aload_n 0, 1) := by decide +kernel
theorem dX1_raises_18 : decode cX1_raises 18 = .ok (.getfield 12, 3) := by decide +kernel
theorem dX1_raises_21 : decode cX1_raises 21 = .ok (.invokevirtual 97, 3) := by decide +kernel
theorem dX1_raises_24 : decode cX1_raises 24 = .ok (.ireturn, 1) := by decide +kernel
theorem dX1_undo_0 : decode cX1_undo 0 = .ok (.aload_n 0, 1) := by decide +kernel
theorem dX1_undo_1 : decode cX1_undo 1 = .ok (.getfield 101, 3) := by decide +kernel
theorem dX1_undo_4 : decode cX1_undo 4 = .ok (.ifCond .gt 6, 3) := by decide +kernel
theorem dX1_undo_7 : decode cX1_undo 7 = .ok (.bipush (-2), 2) := by decide +kernel
theorem dX1_undo_9 : decode cX1_undo 9 = .ok (.ireturn, 1) := by decide +kernel
theorem dX1_undo_10 : decode cX1_undo 10 = .ok (.aload_n 0, 1) := by decide +kernel
theorem dX1_undo_11 : decode cX1_undo 11 = .ok (.aload_n 0, 1) := by decide +kernel
theorem dX1_undo_12 : decode cX1_undo 12 = .ok (.getfield 104, 3) := by decide +kernel
theorem dX1_undo_15 : decode cX1_undo 15 = .ok (.iconst 5, 1) := by decide +kernel
theorem dX1_undo_16 : decode cX1_undo 16 = .ok (.iadd, 1) := by decide +kernel
theorem dX1_undo_17 : decode cX1_undo 17 = .ok (.iconst 1, 1) := by decide +kernel
theorem dX1_undo_18 : decode cX1_undo 18 = .ok (.isub, 1) := by decide +kernel
theorem dX1_undo_19 : decode cX1_undo 19 = .ok (.iconst 5, 1) := by decide +kernel
theorem dX1_undo_20 : decode cX1_undo 20 = .ok (.irem, 1) := by decide +kernel
theorem dX1_undo_21 : decode cX1_undo 21 = .ok (.putfield 104, 3) := by decide +kernel
theorem dX1_undo_24 : decode cX1_undo 24 = .ok (.aload_n 0, 1) := by decide +kernel
theorem dX1_undo_25 : decode cX1_undo 25 = .ok (.getfield 12, 3) := by decide +kernel
theorem dX1_undo_28 : decode cX1_undo 28 = .ok (.aload_n 0, 1) := by decide +kernel
theorem dX1_undo_29 : decode cX1_undo 29 = .ok (.getfield 16, 3) := by decide +kernel
theorem dX1_undo_32 : decode cX1_undo 32 = .ok (.aload_n 0, 1) := by decide +kernel
theorem dX1_undo_33 : decode cX1_undo 33 = .ok (.getfield 104, 3) := by decide +kernel
theorem dX1_undo_36 : decode cX1_undo 36 = .ok (.aaload, 1) := by decide +kernel
theorem dX1_undo_37 : decode cX1_undo 37 = .ok (.invokevirtual 107, 3) := by decide +kernel
theorem dX1_undo_40 : decode cX1_undo 40 = .ok (.aload_n 0, 1) := by decide +kernel
theorem dX1_undo_41 : decode cX1_undo 41 = .ok (.dup, 1) := by decide +kernel
theorem dX1_undo_42 : decode cX1_undo 42 = .ok (.getfield 101, 3) := by decide +kernel
theorem dX1_undo_45 : decode cX1_undo 45 = .ok (.iconst 1, 1) := by decide +kernel
theorem dX1_undo_46 : decode cX1_undo 46 = .ok (.isub, 1) := by decide +kernel
theorem dX1_undo_47 : decode cX1_undo 47 = .ok (.putfield 101, 3) := by decide +kernel
theorem dX1_undo_50 : decode cX1_undo 50 = .ok (.aload_n 0, 1) := by decide +kernel
theorem dX1_undo_51 : decode cX1_undo 51 = .ok (.getfield 101, 3) := by decide +kernel
theorem dX1_undo_54 : decode cX1_undo 54 = .ok (.ireturn, 1) := by decide +kernel
theorem dX1_site_0 : decode cX1_site 0 = .ok (.aload_n 0, 1) := by decide +kernel
theorem dX1_site_1 : decode cX1_site 1 = .ok (.getfield 12, 3) := by decide +kernel
theorem dX1_site_4 : decode cX1_site 4 = .ok (.iload_n 1, 1) := by decide +kernel
theorem dX1_site_5 : decode cX1_site 5 = .ok (.invokevirtual 50, 3) := by decide +kernel
theorem dX1_site_8 : decode cX1_site 8 = .ok (.ifCond .ne 5, 3) := by decide +kernel
theorem dX1_site_11 : decode cX1_site 11 = .ok (.iconst (-1), 1) := by decide +kernel
theorem dX1_site_12 : decode cX1_site 12 = .ok (.ireturn, 1) := by decide +kernel
theorem dX1_site_13 : decode cX1_site 13 = .ok (.iload_n 2, 1) := by decide +kernel
theorem dX1_site_14 : decode cX1_site 14 = .ok (.tableswitch 107 0 4 #[34, 59, 69, 81, 98], 34) := by decide +kernel
theorem dX1_site_48 : decode cX1_site 48 = .ok (.aload_n 0, 1) := by decide +kernel
theorem dX1_site_49 : decode cX1_site 49 = .ok (.getfield 12, 3) := by decide +kernel
theorem dX1_site_52 : decode cX1_site 52 = .ok (.iload_n 1, 1) := by decide +kernel
theorem dX1_site_53 : decode cX1_site 53 = .ok (.invokevirtual 69, 3) := by decide +kernel
theorem dX1_site_56 : decode cX1_site 56 = .ok (.ifCond .eq 8, 3) := by decide +kernel
theorem dX1_site_59 : decode cX1_site 59 = .ok (.bipush (-9), 2) := by decide +kernel
theorem dX1_site_61 : decode cX1_site 61 = .ok (.goto 11, 3) := by decide +kernel
theorem dX1_site_64 : decode cX1_site 64 = .ok (.aload_n 0, 1) := by decide +kernel
theorem dX1_site_65 : decode cX1_site 65 = .ok (.getfield 12, 3) := by decide +kernel
theorem dX1_site_68 : decode cX1_site 68 = .ok (.iload_n 1, 1) := by decide +kernel
theorem dX1_site_69 : decode cX1_site 69 = .ok (.invokevirtual 81, 3) := by decide +kernel
theorem dX1_site_72 : decode cX1_site 72 = .ok (.ireturn, 1) := by decide +kernel
theorem dX1_site_73 : decode cX1_site 73 = .ok (.aload_n 0, 1) := by decide +kernel
theorem dX1_site_74 : decode cX1_site 74 = .ok (.getfield 12, 3) := by decide +kernel
theorem dX1_site_77 : decode cX1_site 77 = .ok (.getfield 75, 3) := by decide +kernel
theorem dX1_site_80 : decode cX1_site 80 = .ok (.iload_n 1, 1) := by decide +kernel
theorem dX1_site_81 : decode cX1_site 81 = .ok (.iaload, 1) := by decide +kernel
theorem dX1_site_82 : decode cX1_site 82 = .ok (.ireturn, 1) := by decide +kernel
theorem dX1_site_83 : decode cX1_site 83 = .ok (.aload_n 0, 1) := by decide +kernel
theorem dX1_site_84 : decode cX1_site 84 = .ok (.getfield 12, 3) := by decide +kernel
theorem dX1_site_87 : decode cX1_site 87 = .ok (.iload_n 1, 1) := by decide +kernel
theorem dX1_site_88 : decode cX1_site 88 = .ok (.invokevirtual 111, 3) := by decide +kernel
theorem dX1_site_91 : decode cX1_site 91 = .ok (.invokestatic 92, 3) := by decide +kernel
theorem dX1_site_94 : decode cX1_site 94 = .ok (.ireturn, 1) := by decide +kernel
theorem dX1_site_95 : decode cX1_site 95 = .ok (.aload_n 0, 1) := by decide +kernel
theorem dX1_site_96 : decode cX1_site 96 = .ok (.getfield 12, 3) := by decide +kernel
theorem dX1_site_99 : decode cX1_site 99 = .ok (.iload_n 1, 1) := by decide +kernel
theorem dX1_site_100 : decode cX1_site 100 = .ok (.invokevirtual 69, 3) := by decide +kernel
theorem dX1_site_103 : decode cX1_site 103 = .ok (.ifCond .eq 7, 3) := by decide +kernel
theorem dX1_site_106 : decode cX1_site 106 = .ok (.iconst 1, 1) := by decide +kernel
theorem dX1_site_107 : decode cX1_site 107 = .ok (.goto 4, 3) := by decide +kernel
theorem dX1_site_110 : decode cX1_site 110 = .ok (.iconst 0, 1) := by decide +kernel
theorem dX1_site_111 : decode cX1_site 111 = .ok (.ireturn, 1) := by decide +kernel
theorem dX1_site_112 : decode cX1_site 112 = .ok (.aload_n 0, 1) := by decide +kernel
theorem dX1_site_113 : decode cX1_site 113 = .ok (.getfield 12, 3) := by decide +kernel
theorem dX1_site_116 : decode cX1_site 116 = .ok (.iload_n 1, 1) := by decide +kernel
theorem dX1_site_117 : decode cX1_site 117 = .ok (.invokevirtual 114, 3) := by decide +kernel
theorem dX1_site_120 : decode cX1_site 120 = .ok (.ireturn, 1) := by decide +kernel
theorem dX1_site_121 : decode cX1_site 121 = .ok (.iconst (-1), 1) := by decide +kernel
theorem dX1_site_122 : decode cX1_site 122 = .ok (.ireturn, 1) := by decide +kernel
theorem dX1_receipt_0 : decode cX1_receipt 0 = .ok (.aload_n 0, 1) := by decide +kernel
theorem dX1_receipt_1 : decode cX1_receipt 1 = .ok (.getfield 12, 3) := by decide +kernel
theorem dX1_receipt_4 : decode cX1_receipt 4 = .ok (.iload_n 1, 1) := by decide +kernel
theorem dX1_receipt_5 : decode cX1_receipt 5 = .ok (.iload_n 2, 1) := by decide +kernel
theorem dX1_receipt_6 : decode cX1_receipt 6 = .ok (.invokevirtual 117, 3) := by decide +kernel
theorem dX1_receipt_9 : decode cX1_receipt 9 = .ok (.ifCond .ne 5, 3) := by decide +kernel
theorem dX1_receipt_12 : decode cX1_receipt 12 = .ok (.iconst (-1), 1) := by decide +kernel
theorem dX1_receipt_13 : decode cX1_receipt 13 = .ok (.ireturn, 1) := by decide +kernel
theorem dX1_receipt_14 : decode cX1_receipt 14 = .ok (.iload_n 1, 1) := by decide +kernel
theorem dX1_receipt_15 : decode cX1_receipt 15 = .ok (.iload_n 2, 1) := by decide +kernel
theorem dX1_receipt_16 : decode cX1_receipt 16 = .ok (.invokestatic 120, 3) := by decide +kernel
theorem dX1_receipt_19 : decode cX1_receipt 19 = .ok (.istore 4, 2) := by decide +kernel
theorem dX1_receipt_21 : decode cX1_receipt 21 = .ok (.iload_n 3, 1) := by decide +kernel
theorem dX1_receipt_22 : decode cX1_receipt 22 = .ok (.tableswitch 113 0 5 #[38, 49, 60, 71, 81, 99], 38) := by decide +kernel
theorem dX1_receipt_60 : decode cX1_receipt 60 = .ok (.aload_n 0, 1) := by decide +kernel
theorem dX1_receipt_61 : decode cX1_receipt 61 = .ok (.getfield 12, 3) := by decide +kernel
theorem dX1_receipt_64 : decode cX1_receipt 64 = .ok (.getfield 123, 3) := by decide +kernel
theorem dX1_receipt_67 : decode cX1_receipt 67 = .ok (.iload 4, 2) := by decide +kernel
theorem dX1_receipt_69 : decode cX1_receipt 69 = .ok (.iaload, 1) := by decide +kernel
theorem dX1_receipt_70 : decode cX1_receipt 70 = .ok (.ireturn, 1) := by decide +kernel
theorem dX1_receipt_71 : decode cX1_receipt 71 = .ok (.aload_n 0, 1) := by decide +kernel
theorem dX1_receipt_72 : decode cX1_receipt 72 = .ok (.getfield 12, 3) := by decide +kernel
theorem dX1_receipt_75 : decode cX1_receipt 75 = .ok (.getfield 126, 3) := by decide +kernel
theorem dX1_receipt_78 : decode cX1_receipt 78 = .ok (.iload 4, 2) := by decide +kernel
theorem dX1_receipt_80 : decode cX1_receipt 80 = .ok (.iaload, 1) := by decide +kernel
theorem dX1_receipt_81 : decode cX1_receipt 81 = .ok (.ireturn, 1) := by decide +kernel
theorem dX1_receipt_82 : decode cX1_receipt 82 = .ok (.aload_n 0, 1) := by decide +kernel
theorem dX1_receipt_83 : decode cX1_receipt 83 = .ok (.getfield 12, 3) := by decide +kernel
theorem dX1_receipt_86 : decode cX1_receipt 86 = .ok (.getfield 129, 3) := by decide +kernel
theorem dX1_receipt_89 : decode cX1_receipt 89 = .ok (.iload 4, 2) := by decide +kernel
theorem dX1_receipt_91 : decode cX1_receipt 91 = .ok (.iaload, 1) := by decide +kernel
theorem dX1_receipt_92 : decode cX1_receipt 92 = .ok (.ireturn, 1) := by decide +kernel
theorem dX1_receipt_93 : decode cX1_receipt 93 = .ok (.aload_n 0, 1) := by decide +kernel
theorem dX1_receipt_94 : decode cX1_receipt 94 = .ok (.getfield 12, 3) := by decide +kernel
theorem dX1_receipt_97 : decode cX1_receipt 97 = .ok (.iload 4, 2) := by decide +kernel
theorem dX1_receipt_99 : decode cX1_receipt 99 = .ok (.invokevirtual 132, 3) := by decide +kernel
theorem dX1_receipt_102 : decode cX1_receipt 102 = .ok (.ireturn, 1) := by decide +kernel
theorem dX1_receipt_103 : decode cX1_receipt 103 = .ok (.aload_n 0, 1) := by decide +kernel
theorem dX1_receipt_104 : decode cX1_receipt 104 = .ok (.getfield 12, 3) := by decide +kernel
theorem dX1_receipt_107 : decode cX1_receipt 107 = .ok (.iload 4, 2) := by decide +kernel
theorem dX1_receipt_109 : decode cX1_receipt 109 = .ok (.invokevirtual 135, 3) := by decide +kernel
theorem dX1_receipt_112 : decode cX1_receipt 112 = .ok (.ifCond .eq 7, 3) := by decide +kernel
theorem dX1_receipt_115 : decode cX1_receipt 115 = .ok (.iconst 1, 1) := by decide +kernel
theorem dX1_receipt_116 : decode cX1_receipt 116 = .ok (.goto 4, 3) := by decide +kernel
theorem dX1_receipt_119 : decode cX1_receipt 119 = .ok (.iconst 0, 1) := by decide +kernel
theorem dX1_receipt_120 : decode cX1_receipt 120 = .ok (.ireturn, 1) := by decide +kernel
theorem dX1_receipt_121 : decode cX1_receipt 121 = .ok (.aload_n 0, 1) := by decide +kernel
theorem dX1_receipt_122 : decode cX1_receipt 122 = .ok (.getfield 12, 3) := by decide +kernel
theorem dX1_receipt_125 : decode cX1_receipt 125 = .ok (.getfield 138, 3) := by decide +kernel
theorem dX1_receipt_128 : decode cX1_receipt 128 = .ok (.iload 4, 2) := by decide +kernel
theorem dX1_receipt_130 : decode cX1_receipt 130 = .ok (.iaload, 1) := by decide +kernel
theorem dX1_receipt_131 : decode cX1_receipt 131 = .ok (.invokestatic 92, 3) := by decide +kernel
theorem dX1_receipt_134 : decode cX1_receipt 134 = .ok (.ireturn, 1) := by decide +kernel
theorem dX1_receipt_135 : decode cX1_receipt 135 = .ok (.iconst (-1), 1) := by decide +kernel
theorem dX1_receipt_136 : decode cX1_receipt 136 = .ok (.ireturn, 1) := by decide +kernel
theorem dX1_letter_0 : decode cX1_letter 0 = .ok (.aload_n 0, 1) := by decide +kernel
theorem dX1_letter_1 : decode cX1_letter 1 = .ok (.getfield 12, 3) := by decide +kernel
theorem dX1_letter_4 : decode cX1_letter 4 = .ok (.iload_n 1, 1) := by decide +kernel
theorem dX1_letter_5 : decode cX1_letter 5 = .ok (.iload_n 2, 1) := by decide +kernel
theorem dX1_letter_6 : decode cX1_letter 6 = .ok (.invokevirtual 65, 3) := by decide +kernel
theorem dX1_letter_9 : decode cX1_letter 9 = .ok (.ifCond .eq 18, 3) := by decide +kernel
theorem dX1_letter_12 : decode cX1_letter 12 = .ok (.iload_n 3, 1) := by decide +kernel
theorem dX1_letter_13 : decode cX1_letter 13 = .ok (.ifCond .lt 14, 3) := by decide +kernel
theorem dX1_letter_16 : decode cX1_letter 16 = .ok (.iload 4, 2) := by decide +kernel
theorem dX1_letter_18 : decode cX1_letter 18 = .ok (.ifCond .lt 9, 3) := by decide +kernel
theorem dX1_letter_21 : decode cX1_letter 21 = .ok (.iload 4, 2) := by decide +kernel
theorem dX1_letter_23 : decode cX1_letter 23 = .ok (.iconst 3, 1) := by decide +kernel
theorem dX1_letter_24 : decode cX1_letter 24 = .ok (.if_icmp .le 5, 3) := by decide +kernel
theorem dX1_letter_27 : decode cX1_letter 27 = .ok (.iconst (-1), 1) := by decide +kernel
theorem dX1_letter_28 : decode cX1_letter 28 = .ok (.ireturn, 1) := by decide +kernel
theorem dX1_letter_29 : decode cX1_letter 29 = .ok (.iload_n 3, 1) := by decide +kernel
theorem dX1_letter_30 : decode cX1_letter 30 = .ok (.aload_n 0, 1) := by decide +kernel
theorem dX1_letter_31 : decode cX1_letter 31 = .ok (.getfield 12, 3) := by decide +kernel
theorem dX1_letter_34 : decode cX1_letter 34 = .ok (.iload_n 1, 1) := by decide +kernel
theorem dX1_letter_35 : decode cX1_letter 35 = .ok (.iload_n 2, 1) := by decide +kernel
theorem dX1_letter_36 : decode cX1_letter 36 = .ok (.invokevirtual 57, 3) := by decide +kernel
theorem dX1_letter_39 : decode cX1_letter 39 = .ok (.if_icmp .lt 6, 3) := by decide +kernel
theorem dX1_letter_42 : decode cX1_letter 42 = .ok (.bipush (-9), 2) := by decide +kernel
theorem dX1_letter_44 : decode cX1_letter 44 = .ok (.ireturn, 1) := by decide +kernel
theorem dX1_letter_45 : decode cX1_letter 45 = .ok (.iload_n 1, 1) := by decide +kernel
theorem dX1_letter_46 : decode cX1_letter 46 = .ok (.iload_n 2, 1) := by decide +kernel
theorem dX1_letter_47 : decode cX1_letter 47 = .ok (.iload_n 3, 1) := by decide +kernel
theorem dX1_letter_48 : decode cX1_letter 48 = .ok (.invokestatic 141, 3) := by decide +kernel
theorem dX1_letter_51 : decode cX1_letter 51 = .ok (.istore 5, 2) := by decide +kernel
theorem dX1_letter_53 : decode cX1_letter 53 = .ok (.iload 4, 2) := by decide +kernel
theorem dX1_letter_55 : decode cX1_letter 55 = .ok (.tableswitch 61 0 2 #[25, 36, 47], 25) := by decide +kernel
theorem dX1_letter_80 : decode cX1_letter 80 = .ok (.aload_n 0, 1) := by decide +kernel
theorem dX1_letter_81 : decode cX1_letter 81 = .ok (.getfield 12, 3) := by decide +kernel
theorem dX1_letter_84 : decode cX1_letter 84 = .ok (.getfield 145, 3) := by decide +kernel
theorem dX1_letter_87 : decode cX1_letter 87 = .ok (.iload 5, 2) := by decide +kernel
theorem dX1_letter_89 : decode cX1_letter 89 = .ok (.iaload, 1) := by decide +kernel
theorem dX1_letter_90 : decode cX1_letter 90 = .ok (.ireturn, 1) := by decide +kernel
theorem dX1_letter_91 : decode cX1_letter 91 = .ok (.aload_n 0, 1) := by decide +kernel
theorem dX1_letter_92 : decode cX1_letter 92 = .ok (.getfield 12, 3) := by decide +kernel
theorem dX1_letter_95 : decode cX1_letter 95 = .ok (.getfield 148, 3) := by decide +kernel
theorem dX1_letter_98 : decode cX1_letter 98 = .ok (.iload 5, 2) := by decide +kernel
theorem dX1_letter_100 : decode cX1_letter 100 = .ok (.iaload, 1) := by decide +kernel
theorem dX1_letter_101 : decode cX1_letter 101 = .ok (.ireturn, 1) := by decide +kernel
theorem dX1_letter_102 : decode cX1_letter 102 = .ok (.aload_n 0, 1) := by decide +kernel
theorem dX1_letter_103 : decode cX1_letter 103 = .ok (.getfield 12, 3) := by decide +kernel
theorem dX1_letter_106 : decode cX1_letter 106 = .ok (.getfield 151, 3) := by decide +kernel
theorem dX1_letter_109 : decode cX1_letter 109 = .ok (.iload 5, 2) := by decide +kernel
theorem dX1_letter_111 : decode cX1_letter 111 = .ok (.iaload, 1) := by decide +kernel
theorem dX1_letter_112 : decode cX1_letter 112 = .ok (.invokestatic 92, 3) := by decide +kernel
theorem dX1_letter_115 : decode cX1_letter 115 = .ok (.ireturn, 1) := by decide +kernel
theorem dX1_letter_116 : decode cX1_letter 116 = .ok (.iload_n 3, 1) := by decide +kernel
theorem dX1_letter_117 : decode cX1_letter 117 = .ok (.aload_n 0, 1) := by decide +kernel
theorem dX1_letter_118 : decode cX1_letter 118 = .ok (.getfield 12, 3) := by decide +kernel
theorem dX1_letter_121 : decode cX1_letter 121 = .ok (.iload_n 1, 1) := by decide +kernel
theorem dX1_letter_122 : decode cX1_letter 122 = .ok (.iload_n 2, 1) := by decide +kernel
theorem dX1_letter_123 : decode cX1_letter 123 = .ok (.invokevirtual 72, 3) := by decide +kernel
theorem dX1_letter_126 : decode cX1_letter 126 = .ok (.if_icmp .ge 7, 3) := by decide +kernel
theorem dX1_letter_129 : decode cX1_letter 129 = .ok (.iconst 1, 1) := by decide +kernel
theorem dX1_letter_130 : decode cX1_letter 130 = .ok (.goto 4, 3) := by decide +kernel
theorem dX1_letter_133 : decode cX1_letter 133 = .ok (.iconst 0, 1) := by decide +kernel
theorem dX1_letter_134 : decode cX1_letter 134 = .ok (.ireturn, 1) := by decide +kernel
theorem dX1_carries_0 : decode cX1_carries 0 = .ok (.aload_n 0, 1) := by decide +kernel
theorem dX1_carries_1 : decode cX1_carries 1 = .ok (.getfield 12, 3) := by decide +kernel
theorem dX1_carries_4 : decode cX1_carries 4 = .ok (.iload_n 1, 1) := by decide +kernel
theorem dX1_carries_5 : decode cX1_carries 5 = .ok (.iload_n 2, 1) := by decide +kernel
theorem dX1_carries_6 : decode cX1_carries 6 = .ok (.invokevirtual 65, 3) := by decide +kernel
theorem dX1_carries_9 : decode cX1_carries 9 = .ok (.ifCond .eq 12, 3) := by decide +kernel
theorem dX1_carries_12 : decode cX1_carries 12 = .ok (.iload_n 3, 1) := by decide +kernel
theorem dX1_carries_13 : decode cX1_carries 13 = .ok (.ifCond .lt 8, 3) := by decide +kernel
theorem dX1_carries_16 : decode cX1_carries 16 = .ok (.iload 4, 2) := by decide +kernel
theorem dX1_carries_18 : decode cX1_carries 18 = .ok (.ifCond .ge 5, 3) := by decide +kernel
theorem dX1_carries_21 : decode cX1_carries 21 = .ok (.iconst (-1), 1) := by decide +kernel
theorem dX1_carries_22 : decode cX1_carries 22 = .ok (.ireturn, 1) := by decide +kernel
theorem dX1_carries_23 : decode cX1_carries 23 = .ok (.iload_n 3, 1) := by decide +kernel
theorem dX1_carries_24 : decode cX1_carries 24 = .ok (.aload_n 0, 1) := by decide +kernel
theorem dX1_carries_25 : decode cX1_carries 25 = .ok (.getfield 12, 3) := by decide +kernel
theorem dX1_carries_28 : decode cX1_carries 28 = .ok (.iload_n 1, 1) := by decide +kernel
theorem dX1_carries_29 : decode cX1_carries 29 = .ok (.iload_n 2, 1) := by decide +kernel
theorem dX1_carries_30 : decode cX1_carries 30 = .ok (.invokevirtual 57, 3) := by decide +kernel
theorem dX1_carries_33 : decode cX1_carries 33 = .ok (.if_icmp .lt 6, 3) := by decide +kernel
theorem dX1_carries_36 : decode cX1_carries 36 = .ok (.bipush (-9), 2) := by decide +kernel
theorem dX1_carries_38 : decode cX1_carries 38 = .ok (.ireturn, 1) := by decide +kernel
theorem dX1_carries_39 : decode cX1_carries 39 = .ok (.aload_n 0, 1) := by decide +kernel
theorem dX1_carries_40 : decode cX1_carries 40 = .ok (.getfield 12, 3) := by decide +kernel
theorem dX1_carries_43 : decode cX1_carries 43 = .ok (.getfield 151, 3) := by decide +kernel
theorem dX1_carries_46 : decode cX1_carries 46 = .ok (.iload_n 1, 1) := by decide +kernel
theorem dX1_carries_47 : decode cX1_carries 47 = .ok (.iload_n 2, 1) := by decide +kernel
theorem dX1_carries_48 : decode cX1_carries 48 = .ok (.iload_n 3, 1) := by decide +kernel
theorem dX1_carries_49 : decode cX1_carries 49 = .ok (.invokestatic 141, 3) := by decide +kernel
theorem dX1_carries_52 : decode cX1_carries 52 = .ok (.iaload, 1) := by decide +kernel
theorem dX1_carries_53 : decode cX1_carries 53 = .ok (.iload 4, 2) := by decide +kernel
theorem dX1_carries_55 : decode cX1_carries 55 = .ok (.invokestatic 154, 3) := by decide +kernel
theorem dX1_carries_58 : decode cX1_carries 58 = .ok (.ireturn, 1) := by decide +kernel
theorem dX1_knows_0 : decode cX1_knows 0 = .ok (.aload_n 0, 1) := by decide +kernel
theorem dX1_knows_1 : decode cX1_knows 1 = .ok (.getfield 12, 3) := by decide +kernel
theorem dX1_knows_4 : decode cX1_knows 4 = .ok (.iload_n 1, 1) := by decide +kernel
theorem dX1_knows_5 : decode cX1_knows 5 = .ok (.invokevirtual 50, 3) := by decide +kernel
theorem dX1_knows_8 : decode cX1_knows 8 = .ok (.ifCond .eq 13, 3) := by decide +kernel
theorem dX1_knows_11 : decode cX1_knows 11 = .ok (.iload_n 2, 1) := by decide +kernel
theorem dX1_knows_12 : decode cX1_knows 12 = .ok (.ifCond .lt 9, 3) := by decide +kernel
theorem dX1_knows_15 : decode cX1_knows 15 = .ok (.iload_n 2, 1) := by decide +kernel
theorem dX1_knows_16 : decode cX1_knows 16 = .ok (.bipush 32, 2) := by decide +kernel
theorem dX1_knows_18 : decode cX1_knows 18 = .ok (.if_icmp .lt 5, 3) := by decide +kernel
theorem dX1_knows_21 : decode cX1_knows 21 = .ok (.iconst (-1), 1) := by decide +kernel
theorem dX1_knows_22 : decode cX1_knows 22 = .ok (.ireturn, 1) := by decide +kernel
theorem dX1_knows_23 : decode cX1_knows 23 = .ok (.aload_n 0, 1) := by decide +kernel
theorem dX1_knows_24 : decode cX1_knows 24 = .ok (.getfield 12, 3) := by decide +kernel
theorem dX1_knows_27 : decode cX1_knows 27 = .ok (.iload_n 1, 1) := by decide +kernel
theorem dX1_knows_28 : decode cX1_knows 28 = .ok (.iload_n 2, 1) := by decide +kernel
theorem dX1_knows_29 : decode cX1_knows 29 = .ok (.invokevirtual 157, 3) := by decide +kernel
theorem dX1_knows_32 : decode cX1_knows 32 = .ok (.ireturn, 1) := by decide +kernel
theorem dX1_past_0 : decode cX1_past 0 = .ok (.aload_n 0, 1) := by decide +kernel
theorem dX1_past_1 : decode cX1_past 1 = .ok (.getfield 12, 3) := by decide +kernel
theorem dX1_past_4 : decode cX1_past 4 = .ok (.iload_n 1, 1) := by decide +kernel
theorem dX1_past_5 : decode cX1_past 5 = .ok (.iload_n 2, 1) := by decide +kernel
theorem dX1_past_6 : decode cX1_past 6 = .ok (.invokevirtual 117, 3) := by decide +kernel
theorem dX1_past_9 : decode cX1_past 9 = .ok (.ifCond .eq 7, 3) := by decide +kernel
theorem dX1_past_12 : decode cX1_past 12 = .ok (.iload_n 3, 1) := by decide +kernel
theorem dX1_past_13 : decode cX1_past 13 = .ok (.ifCond .ge 5, 3) := by decide +kernel
theorem dX1_past_16 : decode cX1_past 16 = .ok (.iconst (-1), 1) := by decide +kernel
theorem dX1_past_17 : decode cX1_past 17 = .ok (.ireturn, 1) := by decide +kernel
theorem dX1_past_18 : decode cX1_past 18 = .ok (.aload_n 0, 1) := by decide +kernel
theorem dX1_past_19 : decode cX1_past 19 = .ok (.getfield 12, 3) := by decide +kernel
theorem dX1_past_22 : decode cX1_past 22 = .ok (.getfield 138, 3) := by decide +kernel
theorem dX1_past_25 : decode cX1_past 25 = .ok (.iload_n 1, 1) := by decide +kernel
theorem dX1_past_26 : decode cX1_past 26 = .ok (.iload_n 2, 1) := by decide +kernel
theorem dX1_past_27 : decode cX1_past 27 = .ok (.invokestatic 120, 3) := by decide +kernel
theorem dX1_past_30 : decode cX1_past 30 = .ok (.iaload, 1) := by decide +kernel
theorem dX1_past_31 : decode cX1_past 31 = .ok (.iload_n 3, 1) := by decide +kernel
theorem dX1_past_32 : decode cX1_past 32 = .ok (.invokestatic 154, 3) := by decide +kernel
theorem dX1_past_35 : decode cX1_past 35 = .ok (.ireturn, 1) := by decide +kernel
theorem dX1_risk_0 : decode cX1_risk 0 = .ok (.iload_n 1, 1) := by decide +kernel
theorem dX1_risk_1 : decode cX1_risk 1 = .ok (.ifCond .lt 23, 3) := by decide +kernel
theorem dX1_risk_4 : decode cX1_risk 4 = .ok (.iload_n 1, 1) := by decide +kernel
theorem dX1_risk_5 : decode cX1_risk 5 = .ok (.aload_n 0, 1) := by decide +kernel
theorem dX1_risk_6 : decode cX1_risk 6 = .ok (.getfield 12, 3) := by decide +kernel
theorem dX1_risk_9 : decode cX1_risk 9 = .ok (.invokevirtual 160, 3) := by decide +kernel
theorem dX1_risk_12 : decode cX1_risk 12 = .ok (.if_icmp .gt 12, 3) := by decide +kernel
theorem dX1_risk_15 : decode cX1_risk 15 = .ok (.iload_n 2, 1) := by decide +kernel
theorem dX1_risk_16 : decode cX1_risk 16 = .ok (.ifCond .lt 8, 3) := by decide +kernel
theorem dX1_risk_19 : decode cX1_risk 19 = .ok (.iload_n 2, 1) := by decide +kernel
theorem dX1_risk_20 : decode cX1_risk 20 = .ok (.iconst 1, 1) := by decide +kernel
theorem dX1_risk_21 : decode cX1_risk 21 = .ok (.if_icmp .le 5, 3) := by decide +kernel
theorem dX1_risk_24 : decode cX1_risk 24 = .ok (.iconst (-1), 1) := by decide +kernel
theorem dX1_risk_25 : decode cX1_risk 25 = .ok (.ireturn, 1) := by decide +kernel
theorem dX1_risk_26 : decode cX1_risk 26 = .ok (.aload_n 0, 1) := by decide +kernel
theorem dX1_risk_27 : decode cX1_risk 27 = .ok (.getfield 12, 3) := by decide +kernel
theorem dX1_risk_30 : decode cX1_risk 30 = .ok (.getfield 89, 3) := by decide +kernel
theorem dX1_risk_33 : decode cX1_risk 33 = .ok (.iload_n 1, 1) := by decide +kernel
theorem dX1_risk_34 : decode cX1_risk 34 = .ok (.ior, 1) := by decide +kernel
theorem dX1_risk_35 : decode cX1_risk 35 = .ok (.istore_n 3, 1) := by decide +kernel
theorem dX1_risk_36 : decode cX1_risk 36 = .ok (.aload_n 0, 1) := by decide +kernel
theorem dX1_risk_37 : decode cX1_risk 37 = .ok (.getfield 12, 3) := by decide +kernel
theorem dX1_risk_40 : decode cX1_risk 40 = .ok (.iload_n 3, 1) := by decide +kernel
theorem dX1_risk_41 : decode cX1_risk 41 = .ok (.invokevirtual 163, 3) := by decide +kernel
theorem dX1_risk_44 : decode cX1_risk 44 = .ok (.istore 4, 2) := by decide +kernel
theorem dX1_risk_46 : decode cX1_risk 46 = .ok (.iload_n 2, 1) := by decide +kernel
theorem dX1_risk_47 : decode cX1_risk 47 = .ok (.ifCond .ne 15, 3) := by decide +kernel
theorem dX1_risk_50 : decode cX1_risk 50 = .ok (.aload_n 0, 1) := by decide +kernel
theorem dX1_risk_51 : decode cX1_risk 51 = .ok (.getfield 12, 3) := by decide +kernel
theorem dX1_risk_54 : decode cX1_risk 54 = .ok (.iload 4, 2) := by decide +kernel
theorem dX1_risk_56 : decode cX1_risk 56 = .ok (.invokevirtual 166, 3) := by decide +kernel
theorem dX1_risk_59 : decode cX1_risk 59 = .ok (.goto 13, 3) := by decide +kernel
theorem dX1_risk_62 : decode cX1_risk 62 = .ok (.aload_n 0, 1) := by decide +kernel
theorem dX1_risk_63 : decode cX1_risk 63 = .ok (.getfield 12, 3) := by decide +kernel
theorem dX1_risk_66 : decode cX1_risk 66 = .ok (.iload 4, 2) := by decide +kernel
theorem dX1_risk_68 : decode cX1_risk 68 = .ok (.iload_n 3, 1) := by decide +kernel
theorem dX1_risk_69 : decode cX1_risk 69 = .ok (.invokevirtual 169, 3) := by decide +kernel
theorem dX1_risk_72 : decode cX1_risk 72 = .ok (.ireturn, 1) := by decide +kernel
theorem dX1_worst_0 : decode cX1_worst 0 = .ok (.iload_n 1, 1) := by decide +kernel
theorem dX1_worst_1 : decode cX1_worst 1 = .ok (.ifCond .lt 8, 3) := by decide +kernel
theorem dX1_worst_4 : decode cX1_worst 4 = .ok (.iload_n 1, 1) := by decide +kernel
theorem dX1_worst_5 : decode cX1_worst 5 = .ok (.iconst 4, 1) := by decide +kernel
theorem dX1_worst_6 : decode cX1_worst 6 = .ok (.if_icmp .le 5, 3) := by decide +kernel
theorem dX1_worst_9 : decode cX1_worst 9 = .ok (.iconst (-1), 1) := by decide +kernel
theorem dX1_worst_10 : decode cX1_worst 10 = .ok (.ireturn, 1) := by decide +kernel
theorem dX1_worst_11 : decode cX1_worst 11 = .ok (.bipush (-9), 2) := by decide +kernel
theorem dX1_worst_13 : decode cX1_worst 13 = .ok (.istore_n 2, 1) := by decide +kernel
theorem dX1_worst_14 : decode cX1_worst 14 = .ok (.aload_n 0, 1) := by decide +kernel
theorem dX1_worst_15 : decode cX1_worst 15 = .ok (.getfield 12, 3) := by decide +kernel
theorem dX1_worst_18 : decode cX1_worst 18 = .ok (.invokevirtual 160, 3) := by decide +kernel
theorem dX1_worst_21 : decode cX1_worst 21 = .ok (.istore_n 3, 1) := by decide +kernel
theorem dX1_worst_22 : decode cX1_worst 22 = .ok (.iconst 0, 1) := by decide +kernel
theorem dX1_worst_23 : decode cX1_worst 23 = .ok (.istore 4, 2) := by decide +kernel
theorem dX1_worst_25 : decode cX1_worst 25 = .ok (.iload 4, 2) := by decide +kernel
theorem dX1_worst_27 : decode cX1_worst 27 = .ok (.iload_n 3, 1) := by decide +kernel
theorem dX1_worst_28 : decode cX1_worst 28 = .ok (.if_icmp .gt 60, 3) := by decide +kernel
theorem dX1_worst_31 : decode cX1_worst 31 = .ok (.iload 4, 2) := by decide +kernel
theorem dX1_worst_33 : decode cX1_worst 33 = .ok (.aload_n 0, 1) := by decide +kernel
theorem dX1_worst_34 : decode cX1_worst 34 = .ok (.getfield 12, 3) := by decide +kernel
theorem dX1_worst_37 : decode cX1_worst 37 = .ok (.getfield 89, 3) := by decide +kernel
theorem dX1_worst_40 : decode cX1_worst 40 = .ok (.iand, 1) := by decide +kernel
theorem dX1_worst_41 : decode cX1_worst 41 = .ok (.ifCond .ne 41, 3) := by decide +kernel
theorem dX1_worst_44 : decode cX1_worst 44 = .ok (.iload 4, 2) := by decide +kernel
theorem dX1_worst_46 : decode cX1_worst 46 = .ok (.invokestatic 92, 3) := by decide +kernel
theorem dX1_worst_49 : decode cX1_worst 49 = .ok (.iload_n 1, 1) := by decide +kernel
theorem dX1_worst_50 : decode cX1_worst 50 = .ok (.if_icmp .ne 32, 3) := by decide +kernel
theorem dX1_worst_53 : decode cX1_worst 53 = .ok (.iload_n 2, 1) := by decide +kernel
theorem dX1_worst_54 : decode cX1_worst 54 = .ok (.aload_n 0, 1) := by decide +kernel
theorem dX1_worst_55 : decode cX1_worst 55 = .ok (.getfield 12, 3) := by decide +kernel
theorem dX1_worst_58 : decode cX1_worst 58 = .ok (.aload_n 0, 1) := by decide +kernel
theorem dX1_worst_59 : decode cX1_worst 59 = .ok (.getfield 12, 3) := by decide +kernel
theorem dX1_worst_62 : decode cX1_worst 62 = .ok (.aload_n 0, 1) := by decide +kernel
theorem dX1_worst_63 : decode cX1_worst 63 = .ok (.getfield 12, 3) := by decide +kernel
theorem dX1_worst_66 : decode cX1_worst 66 = .ok (.getfield 89, 3) := by decide +kernel
theorem dX1_worst_69 : decode cX1_worst 69 = .ok (.iload 4, 2) := by decide +kernel
theorem dX1_worst_71 : decode cX1_worst 71 = .ok (.ior, 1) := by decide +kernel
theorem dX1_worst_72 : decode cX1_worst 72 = .ok (.invokevirtual 163, 3) := by decide +kernel
theorem dX1_worst_75 : decode cX1_worst 75 = .ok (.invokevirtual 166, 3) := by decide +kernel
theorem dX1_worst_78 : decode cX1_worst 78 = .ok (.invokestatic 172, 3) := by decide +kernel
theorem dX1_worst_81 : decode cX1_worst 81 = .ok (.istore_n 2, 1) := by decide +kernel
theorem dX1_worst_82 : decode cX1_worst 82 = .ok (.iinc 4 1, 3) := by decide +kernel
theorem dX1_worst_85 : decode cX1_worst 85 = .ok (.goto (-60), 3) := by decide +kernel
theorem dX1_worst_88 : decode cX1_worst 88 = .ok (.iload_n 2, 1) := by decide +kernel
theorem dX1_worst_89 : decode cX1_worst 89 = .ok (.ireturn, 1) := by decide +kernel
theorem dX1_sees_0 : decode cX1_sees 0 = .ok (.aload_n 0, 1) := by decide +kernel
theorem dX1_sees_1 : decode cX1_sees 1 = .ok (.getfield 12, 3) := by decide +kernel
theorem dX1_sees_4 : decode cX1_sees 4 = .ok (.iload_n 1, 1) := by decide +kernel
theorem dX1_sees_5 : decode cX1_sees 5 = .ok (.invokevirtual 50, 3) := by decide +kernel
theorem dX1_sees_8 : decode cX1_sees 8 = .ok (.ifCond .eq 13, 3) := by decide +kernel
theorem dX1_sees_11 : decode cX1_sees 11 = .ok (.iload_n 2, 1) := by decide +kernel
theorem dX1_sees_12 : decode cX1_sees 12 = .ok (.ifCond .lt 9, 3) := by decide +kernel
theorem dX1_sees_15 : decode cX1_sees 15 = .ok (.iload_n 2, 1) := by decide +kernel
theorem dX1_sees_16 : decode cX1_sees 16 = .ok (.bipush 8, 2) := by decide +kernel
theorem dX1_sees_18 : decode cX1_sees 18 = .ok (.if_icmp .le 5, 3) := by decide +kernel
theorem dX1_sees_21 : decode cX1_sees 21 = .ok (.iconst (-1), 1) := by decide +kernel
theorem dX1_sees_22 : decode cX1_sees 22 = .ok (.ireturn, 1) := by decide +kernel
theorem dX1_sees_23 : decode cX1_sees 23 = .ok (.aload_n 0, 1) := by decide +kernel
theorem dX1_sees_24 : decode cX1_sees 24 = .ok (.getfield 43, 3) := by decide +kernel
theorem dX1_sees_27 : decode cX1_sees 27 = .ok (.bipush 6, 2) := by decide +kernel
theorem dX1_sees_29 : decode cX1_sees 29 = .ok (.if_icmp .lt 6, 3) := by decide +kernel
theorem dX1_sees_32 : decode cX1_sees 32 = .ok (.bipush (-3), 2) := by decide +kernel
theorem dX1_sees_34 : decode cX1_sees 34 = .ok (.ireturn, 1) := by decide +kernel
theorem dX1_sees_35 : decode cX1_sees 35 = .ok (.aload_n 0, 1) := by decide +kernel
theorem dX1_sees_36 : decode cX1_sees 36 = .ok (.getfield 23, 3) := by decide +kernel
theorem dX1_sees_39 : decode cX1_sees 39 = .ok (.aload_n 0, 1) := by decide +kernel
theorem dX1_sees_40 : decode cX1_sees 40 = .ok (.getfield 43, 3) := by decide +kernel
theorem dX1_sees_43 : decode cX1_sees 43 = .ok (.iload_n 1, 1) := by decide +kernel
theorem dX1_sees_44 : decode cX1_sees 44 = .ok (.iastore, 1) := by decide +kernel
theorem dX1_sees_45 : decode cX1_sees 45 = .ok (.aload_n 0, 1) := by decide +kernel
theorem dX1_sees_46 : decode cX1_sees 46 = .ok (.getfield 27, 3) := by decide +kernel
theorem dX1_sees_49 : decode cX1_sees 49 = .ok (.aload_n 0, 1) := by decide +kernel
theorem dX1_sees_50 : decode cX1_sees 50 = .ok (.getfield 43, 3) := by decide +kernel
theorem dX1_sees_53 : decode cX1_sees 53 = .ok (.iload_n 2, 1) := by decide +kernel
theorem dX1_sees_54 : decode cX1_sees 54 = .ok (.iastore, 1) := by decide +kernel
theorem dX1_sees_55 : decode cX1_sees 55 = .ok (.aload_n 0, 1) := by decide +kernel
theorem dX1_sees_56 : decode cX1_sees 56 = .ok (.dup, 1) := by decide +kernel
theorem dX1_sees_57 : decode cX1_sees 57 = .ok (.getfield 43, 3) := by decide +kernel
theorem dX1_sees_60 : decode cX1_sees 60 = .ok (.iconst 1, 1) := by decide +kernel
theorem dX1_sees_61 : decode cX1_sees 61 = .ok (.iadd, 1) := by decide +kernel
theorem dX1_sees_62 : decode cX1_sees 62 = .ok (.putfield 43, 3) := by decide +kernel
theorem dX1_sees_65 : decode cX1_sees 65 = .ok (.aload_n 0, 1) := by decide +kernel
theorem dX1_sees_66 : decode cX1_sees 66 = .ok (.getfield 43, 3) := by decide +kernel
theorem dX1_sees_69 : decode cX1_sees 69 = .ok (.ireturn, 1) := by decide +kernel
theorem dX1_forget_0 : decode cX1_forget 0 = .ok (.aload_n 0, 1) := by decide +kernel
theorem dX1_forget_1 : decode cX1_forget 1 = .ok (.getfield 43, 3) := by decide +kernel
theorem dX1_forget_4 : decode cX1_forget 4 = .ok (.istore_n 1, 1) := by decide +kernel
theorem dX1_forget_5 : decode cX1_forget 5 = .ok (.aload_n 0, 1) := by decide +kernel
theorem dX1_forget_6 : decode cX1_forget 6 = .ok (.iconst 0, 1) := by decide +kernel
theorem dX1_forget_7 : decode cX1_forget 7 = .ok (.putfield 43, 3) := by decide +kernel
theorem dX1_forget_10 : decode cX1_forget 10 = .ok (.iload_n 1, 1) := by decide +kernel
theorem dX1_forget_11 : decode cX1_forget 11 = .ok (.ireturn, 1) := by decide +kernel
theorem dX1_which_0 : decode cX1_which 0 = .ok (.iload_n 1, 1) := by decide +kernel
theorem dX1_which_1 : decode cX1_which 1 = .ok (.ifCond .lt 8, 3) := by decide +kernel
theorem dX1_which_4 : decode cX1_which 4 = .ok (.iload_n 1, 1) := by decide +kernel
theorem dX1_which_5 : decode cX1_which 5 = .ok (.iconst 1, 1) := by decide +kernel
theorem dX1_which_6 : decode cX1_which 6 = .ok (.if_icmp .le 5, 3) := by decide +kernel
theorem dX1_which_9 : decode cX1_which 9 = .ok (.iconst (-1), 1) := by decide +kernel
theorem dX1_which_10 : decode cX1_which 10 = .ok (.ireturn, 1) := by decide +kernel
theorem dX1_which_11 : decode cX1_which 11 = .ok (.aload_n 0, 1) := by decide +kernel
theorem dX1_which_12 : decode cX1_which 12 = .ok (.invokevirtual 177, 3) := by decide +kernel
theorem dX1_which_15 : decode cX1_which 15 = .ok (.istore_n 2, 1) := by decide +kernel
theorem dX1_which_16 : decode cX1_which 16 = .ok (.iload_n 1, 1) := by decide +kernel
theorem dX1_which_17 : decode cX1_which 17 = .ok (.ifCond .ne 8, 3) := by decide +kernel
theorem dX1_which_20 : decode cX1_which 20 = .ok (.iload_n 2, 1) := by decide +kernel
theorem dX1_which_21 : decode cX1_which 21 = .ok (.invokestatic 92, 3) := by decide +kernel
theorem dX1_which_24 : decode cX1_which 24 = .ok (.ireturn, 1) := by decide +kernel
theorem dX1_which_25 : decode cX1_which 25 = .ok (.iload_n 2, 1) := by decide +kernel
theorem dX1_which_26 : decode cX1_which 26 = .ok (.iconst 0, 1) := by decide +kernel
theorem dX1_which_27 : decode cX1_which 27 = .ok (.invokestatic 154, 3) := by decide +kernel
theorem dX1_which_30 : decode cX1_which 30 = .ok (.ireturn, 1) := by decide +kernel
theorem dX1_ask_0 : decode cX1_ask 0 = .ok (.aload_n 0, 1) := by decide +kernel
theorem dX1_ask_1 : decode cX1_ask 1 = .ok (.invokevirtual 177, 3) := by decide +kernel
theorem dX1_ask_4 : decode cX1_ask 4 = .ok (.istore_n 1, 1) := by decide +kernel
theorem dX1_ask_5 : decode cX1_ask 5 = .ok (.iload_n 1, 1) := by decide +kernel
theorem dX1_ask_6 : decode cX1_ask 6 = .ok (.invokestatic 92, 3) := by decide +kernel
theorem dX1_ask_9 : decode cX1_ask 9 = .ok (.iconst 1, 1) := by decide +kernel
theorem dX1_ask_10 : decode cX1_ask 10 = .ok (.if_icmp .gt 6, 3) := by decide +kernel
theorem dX1_ask_13 : decode cX1_ask 13 = .ok (.bipush (-9), 2) := by decide +kernel
theorem dX1_ask_15 : decode cX1_ask 15 = .ok (.ireturn, 1) := by decide +kernel
theorem dX1_ask_16 : decode cX1_ask 16 = .ok (.bipush (-9), 2) := by decide +kernel
theorem dX1_ask_18 : decode cX1_ask 18 = .ok (.istore_n 2, 1) := by decide +kernel
theorem dX1_ask_19 : decode cX1_ask 19 = .ok (.iconst 0, 1) := by decide +kernel
theorem dX1_ask_20 : decode cX1_ask 20 = .ok (.istore_n 3, 1) := by decide +kernel
theorem dX1_ask_21 : decode cX1_ask 21 = .ok (.iconst 0, 1) := by decide +kernel
theorem dX1_ask_22 : decode cX1_ask 22 = .ok (.istore 4, 2) := by decide +kernel
theorem dX1_ask_24 : decode cX1_ask 24 = .ok (.iload 4, 2) := by decide +kernel
theorem dX1_ask_26 : decode cX1_ask 26 = .ok (.aload_n 0, 1) := by decide +kernel
theorem dX1_ask_27 : decode cX1_ask 27 = .ok (.getfield 12, 3) := by decide +kernel
theorem dX1_ask_30 : decode cX1_ask 30 = .ok (.getfield 54, 3) := by decide +kernel
theorem dX1_ask_33 : decode cX1_ask 33 = .ok (.if_icmp .ge 36, 3) := by decide +kernel
theorem dX1_ask_36 : decode cX1_ask 36 = .ok (.aload_n 0, 1) := by decide +kernel
theorem dX1_ask_37 : decode cX1_ask 37 = .ok (.iload_n 1, 1) := by decide +kernel
theorem dX1_ask_38 : decode cX1_ask 38 = .ok (.iload 4, 2) := by decide +kernel
theorem dX1_ask_40 : decode cX1_ask 40 = .ok (.invokevirtual 180, 3) := by decide +kernel
theorem dX1_ask_43 : decode cX1_ask 43 = .ok (.istore 5, 2) := by decide +kernel
theorem dX1_ask_45 : decode cX1_ask 45 = .ok (.iload_n 2, 1) := by decide +kernel
theorem dX1_ask_46 : decode cX1_ask 46 = .ok (.bipush (-9), 2) := by decide +kernel
theorem dX1_ask_48 : decode cX1_ask 48 = .ok (.if_icmp .eq 9, 3) := by decide +kernel
theorem dX1_ask_51 : decode cX1_ask 51 = .ok (.iload 5, 2) := by decide +kernel
theorem dX1_ask_53 : decode cX1_ask 53 = .ok (.iload_n 3, 1) := by decide +kernel
theorem dX1_ask_54 : decode cX1_ask 54 = .ok (.if_icmp .ge 9, 3) := by decide +kernel
theorem dX1_ask_57 : decode cX1_ask 57 = .ok (.iload 4, 2) := by decide +kernel
theorem dX1_ask_59 : decode cX1_ask 59 = .ok (.istore_n 2, 1) := by decide +kernel
theorem dX1_ask_60 : decode cX1_ask 60 = .ok (.iload 5, 2) := by decide +kernel
theorem dX1_ask_62 : decode cX1_ask 62 = .ok (.istore_n 3, 1) := by decide +kernel
theorem dX1_ask_63 : decode cX1_ask 63 = .ok (.iinc 4 1, 3) := by decide +kernel
theorem dX1_ask_66 : decode cX1_ask 66 = .ok (.goto (-42), 3) := by decide +kernel
theorem dX1_ask_69 : decode cX1_ask 69 = .ok (.iload_n 2, 1) := by decide +kernel
theorem dX1_ask_70 : decode cX1_ask 70 = .ok (.ireturn, 1) := by decide +kernel
theorem dX1_keep_0 : decode cX1_keep 0 = .ok (.iload_n 1, 1) := by decide +kernel
theorem dX1_keep_1 : decode cX1_keep 1 = .ok (.ifCond .lt 8, 3) := by decide +kernel
theorem dX1_keep_4 : decode cX1_keep 4 = .ok (.iload_n 1, 1) := by decide +kernel
theorem dX1_keep_5 : decode cX1_keep 5 = .ok (.iconst 2, 1) := by decide +kernel
theorem dX1_keep_6 : decode cX1_keep 6 = .ok (.if_icmp .lt 5, 3) := by decide +kernel
theorem dX1_keep_9 : decode cX1_keep 9 = .ok (.iconst (-1), 1) := by decide +kernel
theorem dX1_keep_10 : decode cX1_keep 10 = .ok (.ireturn, 1) := by decide +kernel
theorem dX1_keep_11 : decode cX1_keep 11 = .ok (.aload_n 0, 1) := by decide +kernel
theorem dX1_keep_12 : decode cX1_keep 12 = .ok (.getfield 20, 3) := by decide +kernel
theorem dX1_keep_15 : decode cX1_keep 15 = .ok (.iload_n 1, 1) := by decide +kernel
theorem dX1_keep_16 : decode cX1_keep 16 = .ok (.aaload, 1) := by decide +kernel
theorem dX1_keep_17 : decode cX1_keep 17 = .ok (.aload_n 0, 1) := by decide +kernel
theorem dX1_keep_18 : decode cX1_keep 18 = .ok (.getfield 12, 3) := by decide +kernel
theorem dX1_keep_21 : decode cX1_keep 21 = .ok (.invokevirtual 107, 3) := by decide +kernel
theorem dX1_keep_24 : decode cX1_keep 24 = .ok (.aload_n 0, 1) := by decide +kernel
theorem dX1_keep_25 : decode cX1_keep 25 = .ok (.dup, 1) := by decide +kernel
theorem dX1_keep_26 : decode cX1_keep 26 = .ok (.getfield 47, 3) := by decide +kernel
theorem dX1_keep_29 : decode cX1_keep 29 = .ok (.iconst 1, 1) := by decide +kernel
theorem dX1_keep_30 : decode cX1_keep 30 = .ok (.iload_n 1, 1) := by decide +kernel
theorem dX1_keep_31 : decode cX1_keep 31 = .ok (.ishl, 1) := by decide +kernel
theorem dX1_keep_32 : decode cX1_keep 32 = .ok (.ior, 1) := by decide +kernel
theorem dX1_keep_33 : decode cX1_keep 33 = .ok (.putfield 47, 3) := by decide +kernel
theorem dX1_keep_36 : decode cX1_keep 36 = .ok (.aload_n 0, 1) := by decide +kernel
theorem dX1_keep_37 : decode cX1_keep 37 = .ok (.getfield 12, 3) := by decide +kernel
theorem dX1_keep_40 : decode cX1_keep 40 = .ok (.invokevirtual 183, 3) := by decide +kernel
theorem dX1_keep_43 : decode cX1_keep 43 = .ok (.ireturn, 1) := by decide +kernel
theorem dX1_back_0 : decode cX1_back 0 = .ok (.iload_n 1, 1) := by decide +kernel
theorem dX1_back_1 : decode cX1_back 1 = .ok (.ifCond .lt 8, 3) := by decide +kernel
theorem dX1_back_4 : decode cX1_back 4 = .ok (.iload_n 1, 1) := by decide +kernel
theorem dX1_back_5 : decode cX1_back 5 = .ok (.iconst 2, 1) := by decide +kernel
theorem dX1_back_6 : decode cX1_back 6 = .ok (.if_icmp .lt 5, 3) := by decide +kernel
theorem dX1_back_9 : decode cX1_back 9 = .ok (.iconst (-1), 1) := by decide +kernel
theorem dX1_back_10 : decode cX1_back 10 = .ok (.ireturn, 1) := by decide +kernel
theorem dX1_back_11 : decode cX1_back 11 = .ok (.aload_n 0, 1) := by decide +kernel
theorem dX1_back_12 : decode cX1_back 12 = .ok (.getfield 47, 3) := by decide +kernel
theorem dX1_back_15 : decode cX1_back 15 = .ok (.iload_n 1, 1) := by decide +kernel
theorem dX1_back_16 : decode cX1_back 16 = .ok (.ishr, 1) := by decide +kernel
theorem dX1_back_17 : decode cX1_back 17 = .ok (.iconst 1, 1) := by decide +kernel
theorem dX1_back_18 : decode cX1_back 18 = .ok (.iand, 1) := by decide +kernel
theorem dX1_back_19 : decode cX1_back 19 = .ok (.ifCond .ne 6, 3) := by decide +kernel
theorem dX1_back_22 : decode cX1_back 22 = .ok (.bipush (-2), 2) := by decide +kernel
theorem dX1_back_24 : decode cX1_back 24 = .ok (.ireturn, 1) := by decide +kernel
theorem dX1_back_25 : decode cX1_back 25 = .ok (.aload_n 0, 1) := by decide +kernel
theorem dX1_back_26 : decode cX1_back 26 = .ok (.getfield 12, 3) := by decide +kernel
theorem dX1_back_29 : decode cX1_back 29 = .ok (.aload_n 0, 1) := by decide +kernel
theorem dX1_back_30 : decode cX1_back 30 = .ok (.getfield 20, 3) := by decide +kernel
theorem dX1_back_33 : decode cX1_back 33 = .ok (.iload_n 1, 1) := by decide +kernel
theorem dX1_back_34 : decode cX1_back 34 = .ok (.aaload, 1) := by decide +kernel
theorem dX1_back_35 : decode cX1_back 35 = .ok (.invokevirtual 107, 3) := by decide +kernel
theorem dX1_back_38 : decode cX1_back 38 = .ok (.aload_n 0, 1) := by decide +kernel
theorem dX1_back_39 : decode cX1_back 39 = .ok (.iconst 0, 1) := by decide +kernel
theorem dX1_back_40 : decode cX1_back 40 = .ok (.putfield 101, 3) := by decide +kernel
theorem dX1_back_43 : decode cX1_back 43 = .ok (.aload_n 0, 1) := by decide +kernel
theorem dX1_back_44 : decode cX1_back 44 = .ok (.getfield 12, 3) := by decide +kernel
theorem dX1_back_47 : decode cX1_back 47 = .ok (.invokevirtual 183, 3) := by decide +kernel
theorem dX1_back_50 : decode cX1_back 50 = .ok (.ireturn, 1) := by decide +kernel
theorem dX1_count_0 : decode cX1_count 0 = .ok (.iload_n 1, 1) := by decide +kernel
theorem dX1_count_1 : decode cX1_count 1 = .ok (.tableswitch 137 0 9 #[55, 63, 71, 79, 87, 103, 111, 119, 127, 132], 55) := by decide +kernel
theorem dX1_count_56 : decode cX1_count 56 = .ok (.aload_n 0, 1) := by decide +kernel
theorem dX1_count_57 : decode cX1_count 57 = .ok (.getfield 12, 3) := by decide +kernel
theorem dX1_count_60 : decode cX1_count 60 = .ok (.getfield 54, 3) := by decide +kernel
theorem dX1_count_63 : decode cX1_count 63 = .ok (.ireturn, 1) := by decide +kernel
theorem dX1_count_64 : decode cX1_count 64 = .ok (.aload_n 0, 1) := by decide +kernel
theorem dX1_count_65 : decode cX1_count 65 = .ok (.getfield 12, 3) := by decide +kernel
theorem dX1_count_68 : decode cX1_count 68 = .ok (.getfield 186, 3) := by decide +kernel
theorem dX1_count_71 : decode cX1_count 71 = .ok (.ireturn, 1) := by decide +kernel
theorem dX1_count_72 : decode cX1_count 72 = .ok (.aload_n 0, 1) := by decide +kernel
theorem dX1_count_73 : decode cX1_count 73 = .ok (.getfield 12, 3) := by decide +kernel
theorem dX1_count_76 : decode cX1_count 76 = .ok (.invokevirtual 183, 3) := by decide +kernel
theorem dX1_count_79 : decode cX1_count 79 = .ok (.ireturn, 1) := by decide +kernel
theorem dX1_count_80 : decode cX1_count 80 = .ok (.aload_n 0, 1) := by decide +kernel
theorem dX1_count_81 : decode cX1_count 81 = .ok (.getfield 12, 3) := by decide +kernel
theorem dX1_count_84 : decode cX1_count 84 = .ok (.invokevirtual 189, 3) := by decide +kernel
theorem dX1_count_87 : decode cX1_count 87 = .ok (.ireturn, 1) := by decide +kernel
theorem dX1_count_88 : decode cX1_count 88 = .ok (.aload_n 0, 1) := by decide +kernel
theorem dX1_count_89 : decode cX1_count 89 = .ok (.getfield 12, 3) := by decide +kernel
theorem dX1_count_92 : decode cX1_count 92 = .ok (.invokevirtual 189, 3) := by decide +kernel
theorem dX1_count_95 : decode cX1_count 95 = .ok (.aload_n 0, 1) := by decide +kernel
theorem dX1_count_96 : decode cX1_count 96 = .ok (.getfield 12, 3) := by decide +kernel
theorem dX1_count_99 : decode cX1_count 99 = .ok (.invokevirtual 183, 3) := by decide +kernel
theorem dX1_count_102 : decode cX1_count 102 = .ok (.isub, 1) := by decide +kernel
theorem dX1_count_103 : decode cX1_count 103 = .ok (.ireturn, 1) := by decide +kernel
theorem dX1_count_104 : decode cX1_count 104 = .ok (.aload_n 0, 1) := by decide +kernel
theorem dX1_count_105 : decode cX1_count 105 = .ok (.getfield 12, 3) := by decide +kernel
theorem dX1_count_108 : decode cX1_count 108 = .ok (.getfield 89, 3) := by decide +kernel
theorem dX1_count_111 : decode cX1_count 111 = .ok (.ireturn, 1) := by decide +kernel
theorem dX1_count_112 : decode cX1_count 112 = .ok (.aload_n 0, 1) := by decide +kernel
theorem dX1_count_113 : decode cX1_count 113 = .ok (.getfield 12, 3) := by decide +kernel
theorem dX1_count_116 : decode cX1_count 116 = .ok (.invokevirtual 192, 3) := by decide +kernel
theorem dX1_count_119 : decode cX1_count 119 = .ok (.ireturn, 1) := by decide +kernel
theorem dX1_count_120 : decode cX1_count 120 = .ok (.aload_n 0, 1) := by decide +kernel
theorem dX1_count_121 : decode cX1_count 121 = .ok (.getfield 12, 3) := by decide +kernel
theorem dX1_count_124 : decode cX1_count 124 = .ok (.invokevirtual 195, 3) := by decide +kernel
theorem dX1_count_127 : decode cX1_count 127 = .ok (.ireturn, 1) := by decide +kernel
theorem dX1_count_128 : decode cX1_count 128 = .ok (.aload_n 0, 1) := by decide +kernel
theorem dX1_count_129 : decode cX1_count 129 = .ok (.getfield 43, 3) := by decide +kernel
theorem dX1_count_132 : decode cX1_count 132 = .ok (.ireturn, 1) := by decide +kernel
theorem dX1_count_133 : decode cX1_count 133 = .ok (.aload_n 0, 1) := by decide +kernel
theorem dX1_count_134 : decode cX1_count 134 = .ok (.getfield 101, 3) := by decide +kernel
theorem dX1_count_137 : decode cX1_count 137 = .ok (.ireturn, 1) := by decide +kernel
theorem dX1_count_138 : decode cX1_count 138 = .ok (.iconst (-1), 1) := by decide +kernel
theorem dX1_count_139 : decode cX1_count 139 = .ok (.ireturn, 1) := by decide +kernel
theorem dX1_remember_0 : decode cX1_remember 0 = .ok (.aload_n 0, 1) := by decide +kernel
theorem dX1_remember_1 : decode cX1_remember 1 = .ok (.getfield 16, 3) := by decide +kernel
theorem dX1_remember_4 : decode cX1_remember 4 = .ok (.aload_n 0, 1) := by decide +kernel
theorem dX1_remember_5 : decode cX1_remember 5 = .ok (.getfield 104, 3) := by decide +kernel
theorem dX1_remember_8 : decode cX1_remember 8 = .ok (.aaload, 1) := by decide +kernel
theorem dX1_remember_9 : decode cX1_remember 9 = .ok (.aload_n 0, 1) := by decide +kernel
theorem dX1_remember_10 : decode cX1_remember 10 = .ok (.getfield 12, 3) := by decide +kernel
theorem dX1_remember_13 : decode cX1_remember 13 = .ok (.invokevirtual 107, 3) := by decide +kernel
theorem dX1_remember_16 : decode cX1_remember 16 = .ok (.aload_n 0, 1) := by decide +kernel
theorem dX1_remember_17 : decode cX1_remember 17 = .ok (.aload_n 0, 1) := by decide +kernel
theorem dX1_remember_18 : decode cX1_remember 18 = .ok (.getfield 104, 3) := by decide +kernel
theorem dX1_remember_21 : decode cX1_remember 21 = .ok (.iconst 1, 1) := by decide +kernel
theorem dX1_remember_22 : decode cX1_remember 22 = .ok (.iadd, 1) := by decide +kernel
theorem dX1_remember_23 : decode cX1_remember 23 = .ok (.iconst 5, 1) := by decide +kernel
theorem dX1_remember_24 : decode cX1_remember 24 = .ok (.irem, 1) := by decide +kernel
theorem dX1_remember_25 : decode cX1_remember 25 = .ok (.putfield 104, 3) := by decide +kernel
theorem dX1_remember_28 : decode cX1_remember 28 = .ok (.aload_n 0, 1) := by decide +kernel
theorem dX1_remember_29 : decode cX1_remember 29 = .ok (.aload_n 0, 1) := by decide +kernel
theorem dX1_remember_30 : decode cX1_remember 30 = .ok (.getfield 101, 3) := by decide +kernel
theorem dX1_remember_33 : decode cX1_remember 33 = .ok (.iconst 1, 1) := by decide +kernel
theorem dX1_remember_34 : decode cX1_remember 34 = .ok (.iadd, 1) := by decide +kernel
theorem dX1_remember_35 : decode cX1_remember 35 = .ok (.iconst 5, 1) := by decide +kernel
theorem dX1_remember_36 : decode cX1_remember 36 = .ok (.invokestatic 198, 3) := by decide +kernel
theorem dX1_remember_39 : decode cX1_remember 39 = .ok (.putfield 101, 3) := by decide +kernel
theorem dX1_remember_42 : decode cX1_remember 42 = .ok (.return_, 1) := by decide +kernel
theorem dX1_possibleSets_0 : decode cX1_possibleSets 0 = .ok (.iconst 0, 1) := by decide +kernel
theorem dX1_possibleSets_1 : decode cX1_possibleSets 1 = .ok (.istore_n 1, 1) := by decide +kernel
theorem dX1_possibleSets_2 : decode cX1_possibleSets 2 = .ok (.aload_n 0, 1) := by decide +kernel
theorem dX1_possibleSets_3 : decode cX1_possibleSets 3 = .ok (.getfield 12, 3) := by decide +kernel
theorem dX1_possibleSets_6 : decode cX1_possibleSets 6 = .ok (.invokevirtual 160, 3) := by decide +kernel
theorem dX1_possibleSets_9 : decode cX1_possibleSets 9 = .ok (.istore_n 2, 1) := by decide +kernel
theorem dX1_possibleSets_10 : decode cX1_possibleSets 10 = .ok (.iconst 1, 1) := by decide +kernel
theorem dX1_possibleSets_11 : decode cX1_possibleSets 11 = .ok (.istore_n 3, 1) := by decide +kernel
theorem dX1_possibleSets_12 : decode cX1_possibleSets 12 = .ok (.iload_n 3, 1) := by decide +kernel
theorem dX1_possibleSets_13 : decode cX1_possibleSets 13 = .ok (.iload_n 2, 1) := by decide +kernel
theorem dX1_possibleSets_14 : decode cX1_possibleSets 14 = .ok (.if_icmp .gt 66, 3) := by decide +kernel
theorem dX1_possibleSets_17 : decode cX1_possibleSets 17 = .ok (.iload_n 3, 1) := by decide +kernel
theorem dX1_possibleSets_18 : decode cX1_possibleSets 18 = .ok (.aload_n 0, 1) := by decide +kernel
theorem dX1_possibleSets_19 : decode cX1_possibleSets 19 = .ok (.getfield 12, 3) := by decide +kernel
theorem dX1_possibleSets_22 : decode cX1_possibleSets 22 = .ok (.getfield 89, 3) := by decide +kernel
theorem dX1_possibleSets_25 : decode cX1_possibleSets 25 = .ok (.iand, 1) := by decide +kernel
theorem dX1_possibleSets_26 : decode cX1_possibleSets 26 = .ok (.ifCond .ne 48, 3) := by decide +kernel
theorem dX1_possibleSets_29 : decode cX1_possibleSets 29 = .ok (.aload_n 0, 1) := by decide +kernel
theorem dX1_possibleSets_30 : decode cX1_possibleSets 30 = .ok (.getfield 30, 3) := by decide +kernel
theorem dX1_possibleSets_33 : decode cX1_possibleSets 33 = .ok (.iload_n 3, 1) := by decide +kernel
theorem dX1_possibleSets_34 : decode cX1_possibleSets 34 = .ok (.aload_n 0, 1) := by decide +kernel
theorem dX1_possibleSets_35 : decode cX1_possibleSets 35 = .ok (.getfield 12, 3) := by decide +kernel
theorem dX1_possibleSets_38 : decode cX1_possibleSets 38 = .ok (.aload_n 0, 1) := by decide +kernel
theorem dX1_possibleSets_39 : decode cX1_possibleSets 39 = .ok (.getfield 12, 3) := by decide +kernel
theorem dX1_possibleSets_42 : decode cX1_possibleSets 42 = .ok (.getfield 89, 3) := by decide +kernel
theorem dX1_possibleSets_45 : decode cX1_possibleSets 45 = .ok (.iload_n 3, 1) := by decide +kernel
theorem dX1_possibleSets_46 : decode cX1_possibleSets 46 = .ok (.ior, 1) := by decide +kernel
theorem dX1_possibleSets_47 : decode cX1_possibleSets 47 = .ok (.invokevirtual 163, 3) := by decide +kernel
theorem dX1_possibleSets_50 : decode cX1_possibleSets 50 = .ok (.iastore, 1) := by decide +kernel
theorem dX1_possibleSets_51 : decode cX1_possibleSets 51 = .ok (.iload_n 1, 1) := by decide +kernel
theorem dX1_possibleSets_52 : decode cX1_possibleSets 52 = .ok (.aload_n 0, 1) := by decide +kernel
theorem dX1_possibleSets_53 : decode cX1_possibleSets 53 = .ok (.aload_n 0, 1) := by decide +kernel
theorem dX1_possibleSets_54 : decode cX1_possibleSets 54 = .ok (.getfield 30, 3) := by decide +kernel
theorem dX1_possibleSets_57 : decode cX1_possibleSets 57 = .ok (.iload_n 3, 1) := by decide +kernel
theorem dX1_possibleSets_58 : decode cX1_possibleSets 58 = .ok (.iaload, 1) := by decide +kernel
theorem dX1_possibleSets_59 : decode cX1_possibleSets 59 = .ok (.invokevirtual 201, 3) := by decide +kernel
theorem dX1_possibleSets_62 : decode cX1_possibleSets 62 = .ok (.ifCond .eq 9, 3) := by decide +kernel
theorem dX1_possibleSets_65 : decode cX1_possibleSets 65 = .ok (.iconst 1, 1) := by decide +kernel
theorem dX1_possibleSets_66 : decode cX1_possibleSets 66 = .ok (.iload_n 3, 1) := by decide +kernel
theorem dX1_possibleSets_67 : decode cX1_possibleSets 67 = .ok (.ishl, 1) := by decide +kernel
theorem dX1_possibleSets_68 : decode cX1_possibleSets 68 = .ok (.goto 4, 3) := by decide +kernel
theorem dX1_possibleSets_71 : decode cX1_possibleSets 71 = .ok (.iconst 0, 1) := by decide +kernel
theorem dX1_possibleSets_72 : decode cX1_possibleSets 72 = .ok (.ior, 1) := by decide +kernel
theorem dX1_possibleSets_73 : decode cX1_possibleSets 73 = .ok (.istore_n 1, 1) := by decide +kernel
theorem dX1_possibleSets_74 : decode cX1_possibleSets 74 = .ok (.iinc 3 1, 3) := by decide +kernel
theorem dX1_possibleSets_77 : decode cX1_possibleSets 77 = .ok (.goto (-65), 3) := by decide +kernel
theorem dX1_possibleSets_80 : decode cX1_possibleSets 80 = .ok (.iload_n 1, 1) := by decide +kernel
theorem dX1_possibleSets_81 : decode cX1_possibleSets 81 = .ok (.ireturn, 1) := by decide +kernel
theorem dX1_agreesWithSeen_0 : decode cX1_agreesWithSeen 0 = .ok (.iconst 0, 1) := by decide +kernel
theorem dX1_agreesWithSeen_1 : decode cX1_agreesWithSeen 1 = .ok (.istore_n 2, 1) := by decide +kernel
theorem dX1_agreesWithSeen_2 : decode cX1_agreesWithSeen 2 = .ok (.iload_n 2, 1) := by decide +kernel
theorem dX1_agreesWithSeen_3 : decode cX1_agreesWithSeen 3 = .ok (.aload_n 0, 1) := by decide +kernel
theorem dX1_agreesWithSeen_4 : decode cX1_agreesWithSeen 4 = .ok (.getfield 43, 3) := by decide +kernel
theorem dX1_agreesWithSeen_7 : decode cX1_agreesWithSeen 7 = .ok (.if_icmp .ge 30, 3) := by decide +kernel
theorem dX1_agreesWithSeen_10 : decode cX1_agreesWithSeen 10 = .ok (.iload_n 1, 1) := by decide +kernel
theorem dX1_agreesWithSeen_11 : decode cX1_agreesWithSeen 11 = .ok (.aload_n 0, 1) := by decide +kernel
theorem dX1_agreesWithSeen_12 : decode cX1_agreesWithSeen 12 = .ok (.getfield 23, 3) := by decide +kernel
theorem dX1_agreesWithSeen_15 : decode cX1_agreesWithSeen 15 = .ok (.iload_n 2, 1) := by decide +kernel
theorem dX1_agreesWithSeen_16 : decode cX1_agreesWithSeen 16 = .ok (.iaload, 1) := by decide +kernel
theorem dX1_agreesWithSeen_17 : decode cX1_agreesWithSeen 17 = .ok (.invokestatic 204, 3) := by decide +kernel
theorem dX1_agreesWithSeen_20 : decode cX1_agreesWithSeen 20 = .ok (.aload_n 0, 1) := by decide +kernel
theorem dX1_agreesWithSeen_21 : decode cX1_agreesWithSeen 21 = .ok (.getfield 27, 3) := by decide +kernel
theorem dX1_agreesWithSeen_24 : decode cX1_agreesWithSeen 24 = .ok (.iload_n 2, 1) := by decide +kernel
theorem dX1_agreesWithSeen_25 : decode cX1_agreesWithSeen 25 = .ok (.iaload, 1) := by decide +kernel
theorem dX1_agreesWithSeen_26 : decode cX1_agreesWithSeen 26 = .ok (.if_icmp .eq 5, 3) := by decide +kernel
theorem dX1_agreesWithSeen_29 : decode cX1_agreesWithSeen 29 = .ok (.iconst 0, 1) := by decide +kernel
theorem dX1_agreesWithSeen_30 : decode cX1_agreesWithSeen 30 = .ok (.ireturn, 1) := by decide +kernel
theorem dX1_agreesWithSeen_31 : decode cX1_agreesWithSeen 31 = .ok (.iinc 2 1, 3) := by decide +kernel
theorem dX1_agreesWithSeen_34 : decode cX1_agreesWithSeen 34 = .ok (.goto (-32), 3) := by decide +kernel
theorem dX1_agreesWithSeen_37 : decode cX1_agreesWithSeen 37 = .ok (.iconst 1, 1) := by decide +kernel
theorem dX1_agreesWithSeen_38 : decode cX1_agreesWithSeen 38 = .ok (.ireturn, 1) := by decide +kernel
theorem dX1_mostAlike_0 : decode cX1_mostAlike 0 = .ok (.aload_n 0, 1) := by decide +kernel
theorem dX1_mostAlike_1 : decode cX1_mostAlike 1 = .ok (.getfield 33, 3) := by decide +kernel
theorem dX1_mostAlike_4 : decode cX1_mostAlike 4 = .ok (.iconst 0, 1) := by decide +kernel
theorem dX1_mostAlike_5 : decode cX1_mostAlike 5 = .ok (.invokestatic 207, 3) := by decide +kernel
theorem dX1_mostAlike_8 : decode cX1_mostAlike 8 = .ok (.iconst 0, 1) := by decide +kernel
theorem dX1_mostAlike_9 : decode cX1_mostAlike 9 = .ok (.istore_n 3, 1) := by decide +kernel
theorem dX1_mostAlike_10 : decode cX1_mostAlike 10 = .ok (.aload_n 0, 1) := by decide +kernel
theorem dX1_mostAlike_11 : decode cX1_mostAlike 11 = .ok (.getfield 12, 3) := by decide +kernel
theorem dX1_mostAlike_14 : decode cX1_mostAlike 14 = .ok (.invokevirtual 160, 3) := by decide +kernel
theorem dX1_mostAlike_17 : decode cX1_mostAlike 17 = .ok (.istore 4, 2) := by decide +kernel
theorem dX1_mostAlike_19 : decode cX1_mostAlike 19 = .ok (.iconst 1, 1) := by decide +kernel
theorem dX1_mostAlike_20 : decode cX1_mostAlike 20 = .ok (.istore 5, 2) := by decide +kernel
theorem dX1_mostAlike_22 : decode cX1_mostAlike 22 = .ok (.iload 5, 2) := by decide +kernel
theorem dX1_mostAlike_24 : decode cX1_mostAlike 24 = .ok (.iload 4, 2) := by decide +kernel
theorem dX1_mostAlike_26 : decode cX1_mostAlike 26 = .ok (.if_icmp .gt 54, 3) := by decide +kernel
theorem dX1_mostAlike_29 : decode cX1_mostAlike 29 = .ok (.iload_n 1, 1) := by decide +kernel
theorem dX1_mostAlike_30 : decode cX1_mostAlike 30 = .ok (.iload 5, 2) := by decide +kernel
theorem dX1_mostAlike_32 : decode cX1_mostAlike 32 = .ok (.ishr, 1) := by decide +kernel
theorem dX1_mostAlike_33 : decode cX1_mostAlike 33 = .ok (.iconst 1, 1) := by decide +kernel
theorem dX1_mostAlike_34 : decode cX1_mostAlike 34 = .ok (.iand, 1) := by decide +kernel
theorem dX1_mostAlike_35 : decode cX1_mostAlike 35 = .ok (.ifCond .eq 39, 3) := by decide +kernel
theorem dX1_mostAlike_38 : decode cX1_mostAlike 38 = .ok (.aload_n 0, 1) := by decide +kernel
theorem dX1_mostAlike_39 : decode cX1_mostAlike 39 = .ok (.getfield 30, 3) := by decide +kernel
theorem dX1_mostAlike_42 : decode cX1_mostAlike 42 = .ok (.iload 5, 2) := by decide +kernel
theorem dX1_mostAlike_44 : decode cX1_mostAlike 44 = .ok (.iaload, 1) := by decide +kernel
theorem dX1_mostAlike_45 : decode cX1_mostAlike 45 = .ok (.iload_n 2, 1) := by decide +kernel
theorem dX1_mostAlike_46 : decode cX1_mostAlike 46 = .ok (.invokestatic 204, 3) := by decide +kernel
theorem dX1_mostAlike_49 : decode cX1_mostAlike 49 = .ok (.istore 6, 2) := by decide +kernel
theorem dX1_mostAlike_51 : decode cX1_mostAlike 51 = .ok (.aload_n 0, 1) := by decide +kernel
theorem dX1_mostAlike_52 : decode cX1_mostAlike 52 = .ok (.getfield 33, 3) := by decide +kernel
theorem dX1_mostAlike_55 : decode cX1_mostAlike 55 = .ok (.iload 6, 2) := by decide +kernel
theorem dX1_mostAlike_57 : decode cX1_mostAlike 57 = .ok (.dup2, 1) := by decide +kernel
theorem dX1_mostAlike_58 : decode cX1_mostAlike 58 = .ok (.iaload, 1) := by decide +kernel
theorem dX1_mostAlike_59 : decode cX1_mostAlike 59 = .ok (.iconst 1, 1) := by decide +kernel
theorem dX1_mostAlike_60 : decode cX1_mostAlike 60 = .ok (.iadd, 1) := by decide +kernel
theorem dX1_mostAlike_61 : decode cX1_mostAlike 61 = .ok (.iastore, 1) := by decide +kernel
theorem dX1_mostAlike_62 : decode cX1_mostAlike 62 = .ok (.iload_n 3, 1) := by decide +kernel
theorem dX1_mostAlike_63 : decode cX1_mostAlike 63 = .ok (.aload_n 0, 1) := by decide +kernel
theorem dX1_mostAlike_64 : decode cX1_mostAlike 64 = .ok (.getfield 33, 3) := by decide +kernel
theorem dX1_mostAlike_67 : decode cX1_mostAlike 67 = .ok (.iload 6, 2) := by decide +kernel
theorem dX1_mostAlike_69 : decode cX1_mostAlike 69 = .ok (.iaload, 1) := by decide +kernel
theorem dX1_mostAlike_70 : decode cX1_mostAlike 70 = .ok (.invokestatic 172, 3) := by decide +kernel
theorem dX1_mostAlike_73 : decode cX1_mostAlike 73 = .ok (.istore_n 3, 1) := by decide +kernel
theorem dX1_mostAlike_74 : decode cX1_mostAlike 74 = .ok (.iinc 5 1, 3) := by decide +kernel
theorem dX1_mostAlike_77 : decode cX1_mostAlike 77 = .ok (.goto (-55), 3) := by decide +kernel
theorem dX1_mostAlike_80 : decode cX1_mostAlike 80 = .ok (.iload_n 3, 1) := by decide +kernel
theorem dX1_mostAlike_81 : decode cX1_mostAlike 81 = .ok (.ireturn, 1) := by decide +kernel
theorem dX1_numberAt_0 : decode cX1_numberAt 0 = .ok (.iconst 0, 1) := by decide +kernel
theorem dX1_numberAt_1 : decode cX1_numberAt 1 = .ok (.istore_n 2, 1) := by decide +kernel
theorem dX1_numberAt_2 : decode cX1_numberAt 2 = .ok (.iconst 0, 1) := by decide +kernel
theorem dX1_numberAt_3 : decode cX1_numberAt 3 = .ok (.istore_n 3, 1) := by decide +kernel
theorem dX1_numberAt_4 : decode cX1_numberAt 4 = .ok (.iload_n 3, 1) := by decide +kernel
theorem dX1_numberAt_5 : decode cX1_numberAt 5 = .ok (.bipush 32, 2) := by decide +kernel
theorem dX1_numberAt_7 : decode cX1_numberAt 7 = .ok (.if_icmp .ge 27, 3) := by decide +kernel
theorem dX1_numberAt_10 : decode cX1_numberAt 10 = .ok (.iload_n 0, 1) := by decide +kernel
theorem dX1_numberAt_11 : decode cX1_numberAt 11 = .ok (.iload_n 3, 1) := by decide +kernel
theorem dX1_numberAt_12 : decode cX1_numberAt 12 = .ok (.iushr, 1) := by decide +kernel
theorem dX1_numberAt_13 : decode cX1_numberAt 13 = .ok (.iconst 1, 1) := by decide +kernel
theorem dX1_numberAt_14 : decode cX1_numberAt 14 = .ok (.iand, 1) := by decide +kernel
theorem dX1_numberAt_15 : decode cX1_numberAt 15 = .ok (.ifCond .eq 13, 3) := by decide +kernel
theorem dX1_numberAt_18 : decode cX1_numberAt 18 = .ok (.iload_n 2, 1) := by decide +kernel
theorem dX1_numberAt_19 : decode cX1_numberAt 19 = .ok (.iload_n 1, 1) := by decide +kernel
theorem dX1_numberAt_20 : decode cX1_numberAt 20 = .ok (.if_icmp .ne 5, 3) := by decide +kernel
theorem dX1_numberAt_23 : decode cX1_numberAt 23 = .ok (.iload_n 3, 1) := by decide +kernel
theorem dX1_numberAt_24 : decode cX1_numberAt 24 = .ok (.ireturn, 1) := by decide +kernel
theorem dX1_numberAt_25 : decode cX1_numberAt 25 = .ok (.iinc 2 1, 3) := by decide +kernel
theorem dX1_numberAt_28 : decode cX1_numberAt 28 = .ok (.iinc 3 1, 3) := by decide +kernel
theorem dX1_numberAt_31 : decode cX1_numberAt 31 = .ok (.goto (-27), 3) := by decide +kernel
theorem dX1_numberAt_34 : decode cX1_numberAt 34 = .ok (.bipush (-9), 2) := by decide +kernel
theorem dX1_numberAt_36 : decode cX1_numberAt 36 = .ok (.ireturn, 1) := by decide +kernel
end
section
theorem dX2_init_0 : decode cX2_init 0 = .ok (.aload_n 0, 1) := by decide +kernel
theorem dX2_init_1 : decode cX2_init 1 = .ok (.invokespecial 1, 3) := by decide +kernel
theorem dX2_init_4 : decode cX2_init 4 = .ok (.aload_n 0, 1) := by decide +kernel
theorem dX2_init_5 : decode cX2_init 5 = .ok (.sipush 1263, 3) := by decide +kernel
theorem dX2_init_8 : decode cX2_init 8 = .ok (.newarray .int, 2) := by decide +kernel
theorem dX2_init_10 : decode cX2_init 10 = .ok (.putfield 7, 3) := by decide +kernel
theorem dX2_init_13 : decode cX2_init 13 = .ok (.aload_n 0, 1) := by decide +kernel
theorem dX2_init_14 : decode cX2_init 14 = .ok (.sipush 6315, 3) := by decide +kernel
theorem dX2_init_17 : decode cX2_init 17 = .ok (.newarray .int, 2) := by decide +kernel
theorem dX2_init_19 : decode cX2_init 19 = .ok (.putfield 13, 3) := by decide +kernel
theorem dX2_init_22 : decode cX2_init 22 = .ok (.aload_n 0, 1) := by decide +kernel
theorem dX2_init_23 : decode cX2_init 23 = .ok (.sipush 2526, 3) := by decide +kernel
theorem dX2_init_26 : decode cX2_init 26 = .ok (.newarray .int, 2) := by decide +kernel
theorem dX2_init_28 : decode cX2_init 28 = .ok (.putfield 16, 3) := by decide +kernel
theorem dX2_init_31 : decode cX2_init 31 = .ok (.aload_n 0, 1) := by decide +kernel
theorem dX2_init_32 : decode cX2_init 32 = .ok (.iconst 2, 1) := by decide +kernel
theorem dX2_init_33 : decode cX2_init 33 = .ok (.newarray .boolean, 2) := by decide +kernel
theorem dX2_init_35 : decode cX2_init 35 = .ok (.putfield 19, 3) := by decide +kernel
theorem dX2_init_38 : decode cX2_init 38 = .ok (.aload_n 0, 1) := by decide +kernel
theorem dX2_init_39 : decode cX2_init 39 = .ok (.bipush 6, 2) := by decide +kernel
theorem dX2_init_41 : decode cX2_init 41 = .ok (.newarray .int, 2) := by decide +kernel
theorem dX2_init_43 : decode cX2_init 43 = .ok (.putfield 23, 3) := by decide +kernel
theorem dX2_init_46 : decode cX2_init 46 = .ok (.aload_n 0, 1) := by decide +kernel
theorem dX2_init_47 : decode cX2_init 47 = .ok (.bipush 6, 2) := by decide +kernel
theorem dX2_init_49 : decode cX2_init 49 = .ok (.newarray .int, 2) := by decide +kernel
theorem dX2_init_51 : decode cX2_init 51 = .ok (.putfield 26, 3) := by decide +kernel
theorem dX2_init_54 : decode cX2_init 54 = .ok (.aload_n 0, 1) := by decide +kernel
theorem dX2_init_55 : decode cX2_init 55 = .ok (.iconst 4, 1) := by decide +kernel
theorem dX2_init_56 : decode cX2_init 56 = .ok (.newarray .int, 2) := by decide +kernel
theorem dX2_init_58 : decode cX2_init 58 = .ok (.putfield 29, 3) := by decide +kernel
theorem dX2_init_61 : decode cX2_init 61 = .ok (.aload_n 0, 1) := by decide +kernel
theorem dX2_init_62 : decode cX2_init 62 = .ok (.bipush 9, 2) := by decide +kernel
theorem dX2_init_64 : decode cX2_init 64 = .ok (.newarray .int, 2) := by decide +kernel
theorem dX2_init_66 : decode cX2_init 66 = .ok (.putfield 32, 3) := by decide +kernel
theorem dX2_init_69 : decode cX2_init 69 = .ok (.aload_n 0, 1) := by decide +kernel
theorem dX2_init_70 : decode cX2_init 70 = .ok (.iconst 3, 1) := by decide +kernel
theorem dX2_init_71 : decode cX2_init 71 = .ok (.iconst 2, 1) := by decide +kernel
theorem dX2_init_72 : decode cX2_init 72 = .ok (.invokevirtual 35, 3) := by decide +kernel
theorem dX2_init_75 : decode cX2_init 75 = .ok (.return_, 1) := by decide +kernel
theorem dX2_in_0 : decode cX2_in 0 = .ok (.iload_n 0, 1) := by decide +kernel
theorem dX2_in_1 : decode cX2_in 1 = .ok (.iload_n 1, 1) := by decide +kernel
theorem dX2_in_2 : decode cX2_in 2 = .ok (.if_icmp .lt 12, 3) := by decide +kernel
theorem dX2_in_5 : decode cX2_in 5 = .ok (.iload_n 0, 1) := by decide +kernel
theorem dX2_in_6 : decode cX2_in 6 = .ok (.iload_n 2, 1) := by decide +kernel
theorem dX2_in_7 : decode cX2_in 7 = .ok (.if_icmp .gt 7, 3) := by decide +kernel
theorem dX2_in_10 : decode cX2_in 10 = .ok (.iconst 1, 1) := by decide +kernel
theorem dX2_in_11 : decode cX2_in 11 = .ok (.goto 4, 3) := by decide +kernel
theorem dX2_in_14 : decode cX2_in 14 = .ok (.iconst 0, 1) := by decide +kernel
theorem dX2_in_15 : decode cX2_in 15 = .ok (.ireturn, 1) := by decide +kernel
theorem dX2_has_0 : decode cX2_has 0 = .ok (.iload_n 0, 1) := by decide +kernel
theorem dX2_has_1 : decode cX2_has 1 = .ok (.iload_n 1, 1) := by decide +kernel
theorem dX2_has_2 : decode cX2_has 2 = .ok (.ishr, 1) := by decide +kernel
theorem dX2_has_3 : decode cX2_has 3 = .ok (.iconst 1, 1) := by decide +kernel
theorem dX2_has_4 : decode cX2_has 4 = .ok (.iand, 1) := by decide +kernel
theorem dX2_has_5 : decode cX2_has 5 = .ok (.iconst 1, 1) := by decide +kernel
theorem dX2_has_6 : decode cX2_has 6 = .ok (.if_icmp .ne 7, 3) := by decide +kernel
theorem dX2_has_9 : decode cX2_has 9 = .ok (.iconst 1, 1) := by decide +kernel
theorem dX2_has_10 : decode cX2_has 10 = .ok (.goto 4, 3) := by decide +kernel
theorem dX2_has_13 : decode cX2_has 13 = .ok (.iconst 0, 1) := by decide +kernel
theorem dX2_has_14 : decode cX2_has 14 = .ok (.ireturn, 1) := by decide +kernel
theorem dX2_bits_0 : decode cX2_bits 0 = .ok (.iconst 0, 1) := by decide +kernel
theorem dX2_bits_1 : decode cX2_bits 1 = .ok (.istore_n 1, 1) := by decide +kernel
theorem dX2_bits_2 : decode cX2_bits 2 = .ok (.iconst 0, 1) := by decide +kernel
theorem dX2_bits_3 : decode cX2_bits 3 = .ok (.istore_n 2, 1) := by decide +kernel
theorem dX2_bits_4 : decode cX2_bits 4 = .ok (.iload_n 2, 1) := by decide +kernel
theorem dX2_bits_5 : decode cX2_bits 5 = .ok (.bipush 32, 2) := by decide +kernel
theorem dX2_bits_7 : decode cX2_bits 7 = .ok (.if_icmp .ge 25, 3) := by decide +kernel
theorem dX2_bits_10 : decode cX2_bits 10 = .ok (.iload_n 1, 1) := by decide +kernel
theorem dX2_bits_11 : decode cX2_bits 11 = .ok (.iload_n 0, 1) := by decide +kernel
theorem dX2_bits_12 : decode cX2_bits 12 = .ok (.iload_n 2, 1) := by decide +kernel
theorem dX2_bits_13 : decode cX2_bits 13 = .ok (.invokestatic 39, 3) := by decide +kernel
theorem dX2_bits_16 : decode cX2_bits 16 = .ok (.ifCond .eq 7, 3) := by decide +kernel
theorem dX2_bits_19 : decode cX2_bits 19 = .ok (.iconst 1, 1) := by decide +kernel
theorem dX2_bits_20 : decode cX2_bits 20 = .ok (.goto 4, 3) := by decide +kernel
theorem dX2_bits_23 : decode cX2_bits 23 = .ok (.iconst 0, 1) := by decide +kernel
theorem dX2_bits_24 : decode cX2_bits 24 = .ok (.iadd, 1) := by decide +kernel
theorem dX2_bits_25 : decode cX2_bits 25 = .ok (.istore_n 1, 1) := by decide +kernel
theorem dX2_bits_26 : decode cX2_bits 26 = .ok (.iinc 2 1, 3) := by decide +kernel
theorem dX2_bits_29 : decode cX2_bits 29 = .ok (.goto (-25), 3) := by decide +kernel
theorem dX2_bits_32 : decode cX2_bits 32 = .ok (.iload_n 1, 1) := by decide +kernel
theorem dX2_bits_33 : decode cX2_bits 33 = .ok (.ireturn, 1) := by decide +kernel
theorem dX2_start_0 : decode cX2_start 0 = .ok (.iconst 0, 1) := by decide +kernel
theorem dX2_start_1 : decode cX2_start 1 = .ok (.istore_n 3, 1) := by decide +kernel
theorem dX2_start_2 : decode cX2_start 2 = .ok (.iload_n 3, 1) := by decide +kernel
theorem dX2_start_3 : decode cX2_start 3 = .ok (.sipush 1263, 3) := by decide +kernel
theorem dX2_start_6 : decode cX2_start 6 = .ok (.if_icmp .ge 16, 3) := by decide +kernel
theorem dX2_start_9 : decode cX2_start 9 = .ok (.aload_n 0, 1) := by decide +kernel
theorem dX2_start_10 : decode cX2_start 10 = .ok (.getfield 7, 3) := by decide +kernel
theorem dX2_start_13 : decode cX2_start 13 = .ok (.iload_n 3, 1) := by decide +kernel
theorem dX2_start_14 : decode cX2_start 14 = .ok (.iconst 0, 1) := by decide +kernel
theorem dX2_start_15 : decode cX2_start 15 = .ok (.iastore, 1) := by decide +kernel
theorem dX2_start_16 : decode cX2_start 16 = .ok (.iinc 3 1, 3) := by decide +kernel
theorem dX2_start_19 : decode cX2_start 19 = .ok (.goto (-17), 3) := by decide +kernel
theorem dX2_start_22 : decode cX2_start 22 = .ok (.aload_n 0, 1) := by decide +kernel
theorem dX2_start_23 : decode cX2_start 23 = .ok (.getfield 7, 3) := by decide +kernel
theorem dX2_start_26 : decode cX2_start 26 = .ok (.iconst 0, 1) := by decide +kernel
theorem dX2_start_27 : decode cX2_start 27 = .ok (.iload_n 1, 1) := by decide +kernel
theorem dX2_start_28 : decode cX2_start 28 = .ok (.iastore, 1) := by decide +kernel
theorem dX2_start_29 : decode cX2_start 29 = .ok (.aload_n 0, 1) := by decide +kernel
theorem dX2_start_30 : decode cX2_start 30 = .ok (.getfield 7, 3) := by decide +kernel
theorem dX2_start_33 : decode cX2_start 33 = .ok (.iconst 1, 1) := by decide +kernel
theorem dX2_start_34 : decode cX2_start 34 = .ok (.iload_n 2, 1) := by decide +kernel
theorem dX2_start_35 : decode cX2_start 35 = .ok (.iastore, 1) := by decide +kernel
theorem dX2_start_36 : decode cX2_start 36 = .ok (.return_, 1) := by decide +kernel
theorem dX2_many_0 : decode cX2_many 0 = .ok (.aload_n 0, 1) := by decide +kernel
theorem dX2_many_1 : decode cX2_many 1 = .ok (.getfield 7, 3) := by decide +kernel
theorem dX2_many_4 : decode cX2_many 4 = .ok (.iconst 0, 1) := by decide +kernel
theorem dX2_many_5 : decode cX2_many 5 = .ok (.iaload, 1) := by decide +kernel
theorem dX2_many_6 : decode cX2_many 6 = .ok (.ireturn, 1) := by decide +kernel
theorem dX2_isSite_0 : decode cX2_isSite 0 = .ok (.iload_n 1, 1) := by decide +kernel
theorem dX2_isSite_1 : decode cX2_isSite 1 = .ok (.iconst 0, 1) := by decide +kernel
theorem dX2_isSite_2 : decode cX2_isSite 2 = .ok (.aload_n 0, 1) := by decide +kernel
theorem dX2_isSite_3 : decode cX2_isSite 3 = .ok (.getfield 7, 3) := by decide +kernel
theorem dX2_isSite_6 : decode cX2_isSite 6 = .ok (.iconst 0, 1) := by decide +kernel
theorem dX2_isSite_7 : decode cX2_isSite 7 = .ok (.iaload, 1) := by decide +kernel
theorem dX2_isSite_8 : decode cX2_isSite 8 = .ok (.iconst 1, 1) := by decide +kernel
theorem dX2_isSite_9 : decode cX2_isSite 9 = .ok (.isub, 1) := by decide +kernel
theorem dX2_isSite_10 : decode cX2_isSite 10 = .ok (.invokestatic 43, 3) := by decide +kernel
theorem dX2_isSite_13 : decode cX2_isSite 13 = .ok (.ireturn, 1) := by decide +kernel
theorem dX2_isDown_0 : decode cX2_isDown 0 = .ok (.aload_n 0, 1) := by decide +kernel
theorem dX2_isDown_1 : decode cX2_isDown 1 = .ok (.getfield 7, 3) := by decide +kernel
theorem dX2_isDown_4 : decode cX2_isDown 4 = .ok (.iconst 2, 1) := by decide +kernel
theorem dX2_isDown_5 : decode cX2_isDown 5 = .ok (.iaload, 1) := by decide +kernel
theorem dX2_isDown_6 : decode cX2_isDown 6 = .ok (.iload_n 1, 1) := by decide +kernel
theorem dX2_isDown_7 : decode cX2_isDown 7 = .ok (.invokestatic 39, 3) := by decide +kernel
theorem dX2_isDown_10 : decode cX2_isDown 10 = .ok (.ireturn, 1) := by decide +kernel
theorem dX2_receipts_0 : decode cX2_receipts 0 = .ok (.aload_n 0, 1) := by decide +kernel
theorem dX2_receipts_1 : decode cX2_receipts 1 = .ok (.getfield 7, 3) := by decide +kernel
theorem dX2_receipts_4 : decode cX2_receipts 4 = .ok (.iconst 3, 1) := by decide +kernel
theorem dX2_receipts_5 : decode cX2_receipts 5 = .ok (.iload_n 1, 1) := by decide +kernel
theorem dX2_receipts_6 : decode cX2_receipts 6 = .ok (.iadd, 1) := by decide +kernel
theorem dX2_receipts_7 : decode cX2_receipts 7 = .ok (.iaload, 1) := by decide +kernel
theorem dX2_receipts_8 : decode cX2_receipts 8 = .ok (.ireturn, 1) := by decide +kernel
theorem dX2_ofReceipt_0 : decode cX2_ofReceipt 0 = .ok (.aload_n 0, 1) := by decide +kernel
theorem dX2_ofReceipt_1 : decode cX2_ofReceipt 1 = .ok (.getfield 7, 3) := by decide +kernel
theorem dX2_ofReceipt_4 : decode cX2_ofReceipt 4 = .ok (.bipush 7, 2) := by decide +kernel
theorem dX2_ofReceipt_6 : decode cX2_ofReceipt 6 = .ok (.bipush 24, 2) := by decide +kernel
theorem dX2_ofReceipt_8 : decode cX2_ofReceipt 8 = .ok (.iload_n 1, 1) := by decide +kernel
theorem dX2_ofReceipt_9 : decode cX2_ofReceipt 9 = .ok (.imul, 1) := by decide +kernel
theorem dX2_ofReceipt_10 : decode cX2_ofReceipt 10 = .ok (.iadd, 1) := by decide +kernel
theorem dX2_ofReceipt_11 : decode cX2_ofReceipt 11 = .ok (.iconst 3, 1) := by decide +kernel
theorem dX2_ofReceipt_12 : decode cX2_ofReceipt 12 = .ok (.iload_n 2, 1) := by decide +kernel
theorem dX2_ofReceipt_13 : decode cX2_ofReceipt 13 = .ok (.imul, 1) := by decide +kernel
theorem dX2_ofReceipt_14 : decode cX2_ofReceipt 14 = .ok (.iadd, 1) := by decide +kernel
theorem dX2_ofReceipt_15 : decode cX2_ofReceipt 15 = .ok (.iload_n 3, 1) := by decide +kernel
theorem dX2_ofReceipt_16 : decode cX2_ofReceipt 16 = .ok (.iadd, 1) := by decide +kernel
theorem dX2_ofReceipt_17 : decode cX2_ofReceipt 17 = .ok (.iaload, 1) := by decide +kernel
theorem dX2_ofReceipt_18 : decode cX2_ofReceipt 18 = .ok (.ireturn, 1) := by decide +kernel
theorem dX2_stateOf_0 : decode cX2_stateOf 0 = .ok (.aload_n 0, 1) := by decide +kernel
theorem dX2_stateOf_1 : decode cX2_stateOf 1 = .ok (.iload_n 1, 1) := by decide +kernel
theorem dX2_stateOf_2 : decode cX2_stateOf 2 = .ok (.invokevirtual 47, 3) := by decide +kernel
theorem dX2_stateOf_5 : decode cX2_stateOf 5 = .ok (.ifCond .ne 9, 3) := by decide +kernel
theorem dX2_stateOf_8 : decode cX2_stateOf 8 = .ok (.iload_n 1, 1) := by decide +kernel
theorem dX2_stateOf_9 : decode cX2_stateOf 9 = .ok (.iconst 1, 1) := by decide +kernel
theorem dX2_stateOf_10 : decode cX2_stateOf 10 = .ok (.iadd, 1) := by decide +kernel
theorem dX2_stateOf_11 : decode cX2_stateOf 11 = .ok (.goto 16, 3) := by decide +kernel
theorem dX2_stateOf_14 : decode cX2_stateOf 14 = .ok (.aload_n 0, 1) := by decide +kernel
theorem dX2_stateOf_15 : decode cX2_stateOf 15 = .ok (.iload_n 1, 1) := by decide +kernel
theorem dX2_stateOf_16 : decode cX2_stateOf 16 = .ok (.aload_n 0, 1) := by decide +kernel
theorem dX2_stateOf_17 : decode cX2_stateOf 17 = .ok (.iload_n 1, 1) := by decide +kernel
theorem dX2_stateOf_18 : decode cX2_stateOf 18 = .ok (.invokevirtual 47, 3) := by decide +kernel
theorem dX2_stateOf_21 : decode cX2_stateOf 21 = .ok (.iconst 1, 1) := by decide +kernel
theorem dX2_stateOf_22 : decode cX2_stateOf 22 = .ok (.isub, 1) := by decide +kernel
theorem dX2_stateOf_23 : decode cX2_stateOf 23 = .ok (.iconst 2, 1) := by decide +kernel
theorem dX2_stateOf_24 : decode cX2_stateOf 24 = .ok (.invokevirtual 51, 3) := by decide +kernel
theorem dX2_stateOf_27 : decode cX2_stateOf 27 = .ok (.ireturn, 1) := by decide +kernel
theorem dX2_way_0 : decode cX2_way 0 = .ok (.iconst 4, 1) := by decide +kernel
theorem dX2_way_1 : decode cX2_way 1 = .ok (.iload_n 0, 1) := by decide +kernel
theorem dX2_way_2 : decode cX2_way 2 = .ok (.imul, 1) := by decide +kernel
theorem dX2_way_3 : decode cX2_way 3 = .ok (.iload_n 1, 1) := by decide +kernel
theorem dX2_way_4 : decode cX2_way 4 = .ok (.iadd, 1) := by decide +kernel
theorem dX2_way_5 : decode cX2_way 5 = .ok (.ireturn, 1) := by decide +kernel
theorem dX2_letters_0 : decode cX2_letters 0 = .ok (.aload_n 0, 1) := by decide +kernel
theorem dX2_letters_1 : decode cX2_letters 1 = .ok (.getfield 7, 3) := by decide +kernel
theorem dX2_letters_4 : decode cX2_letters 4 = .ok (.bipush 123, 2) := by decide +kernel
theorem dX2_letters_6 : decode cX2_letters 6 = .ok (.iload_n 1, 1) := by decide +kernel
theorem dX2_letters_7 : decode cX2_letters 7 = .ok (.iload_n 2, 1) := by decide +kernel
theorem dX2_letters_8 : decode cX2_letters 8 = .ok (.invokestatic 55, 3) := by decide +kernel
theorem dX2_letters_11 : decode cX2_letters 11 = .ok (.iadd, 1) := by decide +kernel
theorem dX2_letters_12 : decode cX2_letters 12 = .ok (.iaload, 1) := by decide +kernel
theorem dX2_letters_13 : decode cX2_letters 13 = .ok (.ireturn, 1) := by decide +kernel
theorem dX2_letterAt_0 : decode cX2_letterAt 0 = .ok (.sipush 143, 3) := by decide +kernel
theorem dX2_letterAt_3 : decode cX2_letterAt 3 = .ok (.bipush 7, 2) := by decide +kernel
theorem dX2_letterAt_5 : decode cX2_letterAt 5 = .ok (.bipush 8, 2) := by decide +kernel
theorem dX2_letterAt_7 : decode cX2_letterAt 7 = .ok (.iload_n 0, 1) := by decide +kernel
theorem dX2_letterAt_8 : decode cX2_letterAt 8 = .ok (.iload_n 1, 1) := by decide +kernel
theorem dX2_letterAt_9 : decode cX2_letterAt 9 = .ok (.invokestatic 55, 3) := by decide +kernel
theorem dX2_letterAt_12 : decode cX2_letterAt 12 = .ok (.imul, 1) := by decide +kernel
theorem dX2_letterAt_13 : decode cX2_letterAt 13 = .ok (.iload_n 2, 1) := by decide +kernel
theorem dX2_letterAt_14 : decode cX2_letterAt 14 = .ok (.iadd, 1) := by decide +kernel
theorem dX2_letterAt_15 : decode cX2_letterAt 15 = .ok (.imul, 1) := by decide +kernel
theorem dX2_letterAt_16 : decode cX2_letterAt 16 = .ok (.iadd, 1) := by decide +kernel
theorem dX2_letterAt_17 : decode cX2_letterAt 17 = .ok (.ireturn, 1) := by decide +kernel
theorem dX2_knownIn_0 : decode cX2_knownIn 0 = .ok (.iload_n 0, 1) := by decide +kernel
theorem dX2_knownIn_1 : decode cX2_knownIn 1 = .ok (.iconst 4, 1) := by decide +kernel
theorem dX2_knownIn_2 : decode cX2_knownIn 2 = .ok (.iload_n 1, 1) := by decide +kernel
theorem dX2_knownIn_3 : decode cX2_knownIn 3 = .ok (.bipush 8, 2) := by decide +kernel
theorem dX2_knownIn_5 : decode cX2_knownIn 5 = .ok (.irem, 1) := by decide +kernel
theorem dX2_knownIn_6 : decode cX2_knownIn 6 = .ok (.imul, 1) := by decide +kernel
theorem dX2_knownIn_7 : decode cX2_knownIn 7 = .ok (.ishr, 1) := by decide +kernel
theorem dX2_knownIn_8 : decode cX2_knownIn 8 = .ok (.bipush 15, 2) := by decide +kernel
theorem dX2_knownIn_10 : decode cX2_knownIn 10 = .ok (.iand, 1) := by decide +kernel
theorem dX2_knownIn_11 : decode cX2_knownIn 11 = .ok (.ireturn, 1) := by decide +kernel
theorem dX2_knownBy_0 : decode cX2_knownBy 0 = .ok (.aload_n 0, 1) := by decide +kernel
theorem dX2_knownBy_1 : decode cX2_knownBy 1 = .ok (.getfield 7, 3) := by decide +kernel
theorem dX2_knownBy_4 : decode cX2_knownBy 4 = .ok (.bipush 107, 2) := by decide +kernel
theorem dX2_knownBy_6 : decode cX2_knownBy 6 = .ok (.iconst 4, 1) := by decide +kernel
theorem dX2_knownBy_7 : decode cX2_knownBy 7 = .ok (.iload_n 1, 1) := by decide +kernel
theorem dX2_knownBy_8 : decode cX2_knownBy 8 = .ok (.imul, 1) := by decide +kernel
theorem dX2_knownBy_9 : decode cX2_knownBy 9 = .ok (.iadd, 1) := by decide +kernel
theorem dX2_knownBy_10 : decode cX2_knownBy 10 = .ok (.iload_n 2, 1) := by decide +kernel
theorem dX2_knownBy_11 : decode cX2_knownBy 11 = .ok (.bipush 8, 2) := by decide +kernel
theorem dX2_knownBy_13 : decode cX2_knownBy 13 = .ok (.idiv, 1) := by decide +kernel
theorem dX2_knownBy_14 : decode cX2_knownBy 14 = .ok (.iadd, 1) := by decide +kernel
theorem dX2_knownBy_15 : decode cX2_knownBy 15 = .ok (.iaload, 1) := by decide +kernel
theorem dX2_knownBy_16 : decode cX2_knownBy 16 = .ok (.iload_n 2, 1) := by decide +kernel
theorem dX2_knownBy_17 : decode cX2_knownBy 17 = .ok (.invokestatic 59, 3) := by decide +kernel
theorem dX2_knownBy_20 : decode cX2_knownBy 20 = .ok (.ireturn, 1) := by decide +kernel
theorem dX2_know_0 : decode cX2_know 0 = .ok (.bipush 107, 2) := by decide +kernel
theorem dX2_know_2 : decode cX2_know 2 = .ok (.iconst 4, 1) := by decide +kernel
theorem dX2_know_3 : decode cX2_know 3 = .ok (.iload_n 1, 1) := by decide +kernel
theorem dX2_know_4 : decode cX2_know 4 = .ok (.imul, 1) := by decide +kernel
theorem dX2_know_5 : decode cX2_know 5 = .ok (.iadd, 1) := by decide +kernel
theorem dX2_know_6 : decode cX2_know 6 = .ok (.iload_n 2, 1) := by decide +kernel
theorem dX2_know_7 : decode cX2_know 7 = .ok (.bipush 8, 2) := by decide +kernel
theorem dX2_know_9 : decode cX2_know 9 = .ok (.idiv, 1) := by decide +kernel
theorem dX2_know_10 : decode cX2_know 10 = .ok (.iadd, 1) := by decide +kernel
theorem dX2_know_11 : decode cX2_know 11 = .ok (.istore 4, 2) := by decide +kernel
theorem dX2_know_13 : decode cX2_know 13 = .ok (.iconst 4, 1) := by decide +kernel
theorem dX2_know_14 : decode cX2_know 14 = .ok (.iload_n 2, 1) := by decide +kernel
theorem dX2_know_15 : decode cX2_know 15 = .ok (.bipush 8, 2) := by decide +kernel
theorem dX2_know_17 : decode cX2_know 17 = .ok (.irem, 1) := by decide +kernel
theorem dX2_know_18 : decode cX2_know 18 = .ok (.imul, 1) := by decide +kernel
theorem dX2_know_19 : decode cX2_know 19 = .ok (.istore 5, 2) := by decide +kernel
theorem dX2_know_21 : decode cX2_know 21 = .ok (.aload_n 0, 1) := by decide +kernel
theorem dX2_know_22 : decode cX2_know 22 = .ok (.getfield 7, 3) := by decide +kernel
theorem dX2_know_25 : decode cX2_know 25 = .ok (.iload 4, 2) := by decide +kernel
theorem dX2_know_27 : decode cX2_know 27 = .ok (.aload_n 0, 1) := by decide +kernel
theorem dX2_know_28 : decode cX2_know 28 = .ok (.getfield 7, 3) := by decide +kernel
theorem dX2_know_31 : decode cX2_know 31 = .ok (.iload 4, 2) := by decide +kernel
theorem dX2_know_33 : decode cX2_know 33 = .ok (.iaload, 1) := by decide +kernel
theorem dX2_know_34 : decode cX2_know 34 = .ok (.bipush 15, 2) := by decide +kernel
theorem dX2_know_36 : decode cX2_know 36 = .ok (.iload 5, 2) := by decide +kernel
theorem dX2_know_38 : decode cX2_know 38 = .ok (.ishl, 1) := by decide +kernel
theorem dX2_know_39 : decode cX2_know 39 = .ok (.iconst (-1), 1) := by decide +kernel
theorem dX2_know_40 : decode cX2_know 40 = .ok (.ixor, 1) := by decide +kernel
theorem dX2_know_41 : decode cX2_know 41 = .ok (.iand, 1) := by decide +kernel
theorem dX2_know_42 : decode cX2_know 42 = .ok (.iload_n 3, 1) := by decide +kernel
theorem dX2_know_43 : decode cX2_know 43 = .ok (.iload 5, 2) := by decide +kernel
theorem dX2_know_45 : decode cX2_know 45 = .ok (.ishl, 1) := by decide +kernel
theorem dX2_know_46 : decode cX2_know 46 = .ok (.ior, 1) := by decide +kernel
theorem dX2_know_47 : decode cX2_know 47 = .ok (.iastore, 1) := by decide +kernel
theorem dX2_know_48 : decode cX2_know 48 = .ok (.aload_n 0, 1) := by decide +kernel
theorem dX2_know_49 : decode cX2_know 49 = .ok (.getfield 7, 3) := by decide +kernel
theorem dX2_know_52 : decode cX2_know 52 = .ok (.bipush 103, 2) := by decide +kernel
theorem dX2_know_54 : decode cX2_know 54 = .ok (.iload_n 1, 1) := by decide +kernel
theorem dX2_know_55 : decode cX2_know 55 = .ok (.iadd, 1) := by decide +kernel
theorem dX2_know_56 : decode cX2_know 56 = .ok (.iload_n 3, 1) := by decide +kernel
theorem dX2_know_57 : decode cX2_know 57 = .ok (.ifCond .ne 21, 3) := by decide +kernel
theorem dX2_know_60 : decode cX2_know 60 = .ok (.aload_n 0, 1) := by decide +kernel
theorem dX2_know_61 : decode cX2_know 61 = .ok (.getfield 7, 3) := by decide +kernel
theorem dX2_know_64 : decode cX2_know 64 = .ok (.bipush 103, 2) := by decide +kernel
theorem dX2_know_66 : decode cX2_know 66 = .ok (.iload_n 1, 1) := by decide +kernel
theorem dX2_know_67 : decode cX2_know 67 = .ok (.iadd, 1) := by decide +kernel
theorem dX2_know_68 : decode cX2_know 68 = .ok (.iaload, 1) := by decide +kernel
theorem dX2_know_69 : decode cX2_know 69 = .ok (.iconst 1, 1) := by decide +kernel
theorem dX2_know_70 : decode cX2_know 70 = .ok (.iload_n 2, 1) := by decide +kernel
theorem dX2_know_71 : decode cX2_know 71 = .ok (.ishl, 1) := by decide +kernel
theorem dX2_know_72 : decode cX2_know 72 = .ok (.iconst (-1), 1) := by decide +kernel
theorem dX2_know_73 : decode cX2_know 73 = .ok (.ixor, 1) := by decide +kernel
theorem dX2_know_74 : decode cX2_know 74 = .ok (.iand, 1) := by decide +kernel
theorem dX2_know_75 : decode cX2_know 75 = .ok (.goto 16, 3) := by decide +kernel
theorem dX2_know_78 : decode cX2_know 78 = .ok (.aload_n 0, 1) := by decide +kernel
theorem dX2_know_79 : decode cX2_know 79 = .ok (.getfield 7, 3) := by decide +kernel
theorem dX2_know_82 : decode cX2_know 82 = .ok (.bipush 103, 2) := by decide +kernel
theorem dX2_know_84 : decode cX2_know 84 = .ok (.iload_n 1, 1) := by decide +kernel
theorem dX2_know_85 : decode cX2_know 85 = .ok (.iadd, 1) := by decide +kernel
theorem dX2_know_86 : decode cX2_know 86 = .ok (.iaload, 1) := by decide +kernel
theorem dX2_know_87 : decode cX2_know 87 = .ok (.iconst 1, 1) := by decide +kernel
theorem dX2_know_88 : decode cX2_know 88 = .ok (.iload_n 2, 1) := by decide +kernel
theorem dX2_know_89 : decode cX2_know 89 = .ok (.ishl, 1) := by decide +kernel
theorem dX2_know_90 : decode cX2_know 90 = .ok (.ior, 1) := by decide +kernel
theorem dX2_know_91 : decode cX2_know 91 = .ok (.iastore, 1) := by decide +kernel
theorem dX2_know_92 : decode cX2_know 92 = .ok (.return_, 1) := by decide +kernel
theorem dX2_write_0 : decode cX2_write 0 = .ok (.iload_n 1, 1) := by decide +kernel
theorem dX2_write_1 : decode cX2_write 1 = .ok (.iload_n 2, 1) := by decide +kernel
theorem dX2_write_2 : decode cX2_write 2 = .ok (.aload_n 0, 1) := by decide +kernel
theorem dX2_write_3 : decode cX2_write 3 = .ok (.iload_n 1, 1) := by decide +kernel
theorem dX2_write_4 : decode cX2_write 4 = .ok (.iload_n 2, 1) := by decide +kernel
theorem dX2_write_5 : decode cX2_write 5 = .ok (.invokevirtual 62, 3) := by decide +kernel
theorem dX2_write_8 : decode cX2_write 8 = .ok (.invokestatic 65, 3) := by decide +kernel
theorem dX2_write_11 : decode cX2_write 11 = .ok (.istore 6, 2) := by decide +kernel
theorem dX2_write_13 : decode cX2_write 13 = .ok (.aload_n 0, 1) := by decide +kernel
theorem dX2_write_14 : decode cX2_write 14 = .ok (.getfield 7, 3) := by decide +kernel
theorem dX2_write_17 : decode cX2_write 17 = .ok (.iload 6, 2) := by decide +kernel
theorem dX2_write_19 : decode cX2_write 19 = .ok (.iload_n 3, 1) := by decide +kernel
theorem dX2_write_20 : decode cX2_write 20 = .ok (.iastore, 1) := by decide +kernel
theorem dX2_write_21 : decode cX2_write 21 = .ok (.aload_n 0, 1) := by decide +kernel
theorem dX2_write_22 : decode cX2_write 22 = .ok (.getfield 7, 3) := by decide +kernel
theorem dX2_write_25 : decode cX2_write 25 = .ok (.iload 6, 2) := by decide +kernel
theorem dX2_write_27 : decode cX2_write 27 = .ok (.iconst 1, 1) := by decide +kernel
theorem dX2_write_28 : decode cX2_write 28 = .ok (.iadd, 1) := by decide +kernel
theorem dX2_write_29 : decode cX2_write 29 = .ok (.iload 4, 2) := by decide +kernel
theorem dX2_write_31 : decode cX2_write 31 = .ok (.iastore, 1) := by decide +kernel
theorem dX2_write_32 : decode cX2_write 32 = .ok (.aload_n 0, 1) := by decide +kernel
theorem dX2_write_33 : decode cX2_write 33 = .ok (.getfield 7, 3) := by decide +kernel
theorem dX2_write_36 : decode cX2_write 36 = .ok (.iload 6, 2) := by decide +kernel
theorem dX2_write_38 : decode cX2_write 38 = .ok (.iconst 2, 1) := by decide +kernel
theorem dX2_write_39 : decode cX2_write 39 = .ok (.iadd, 1) := by decide +kernel
theorem dX2_write_40 : decode cX2_write 40 = .ok (.iload 5, 2) := by decide +kernel
theorem dX2_write_42 : decode cX2_write 42 = .ok (.iastore, 1) := by decide +kernel
theorem dX2_write_43 : decode cX2_write 43 = .ok (.iconst 0, 1) := by decide +kernel
theorem dX2_write_44 : decode cX2_write 44 = .ok (.istore 7, 2) := by decide +kernel
theorem dX2_write_46 : decode cX2_write 46 = .ok (.iload 7, 2) := by decide +kernel
theorem dX2_write_48 : decode cX2_write 48 = .ok (.iconst 4, 1) := by decide +kernel
theorem dX2_write_49 : decode cX2_write 49 = .ok (.if_icmp .ge 46, 3) := by decide +kernel
theorem dX2_write_52 : decode cX2_write 52 = .ok (.aload_n 0, 1) := by decide +kernel
theorem dX2_write_53 : decode cX2_write 53 = .ok (.getfield 7, 3) := by decide +kernel
theorem dX2_write_56 : decode cX2_write 56 = .ok (.iload 6, 2) := by decide +kernel
theorem dX2_write_58 : decode cX2_write 58 = .ok (.iconst 3, 1) := by decide +kernel
theorem dX2_write_59 : decode cX2_write 59 = .ok (.iadd, 1) := by decide +kernel
theorem dX2_write_60 : decode cX2_write 60 = .ok (.iload 7, 2) := by decide +kernel
theorem dX2_write_62 : decode cX2_write 62 = .ok (.iadd, 1) := by decide +kernel
theorem dX2_write_63 : decode cX2_write 63 = .ok (.iload 4, 2) := by decide +kernel
theorem dX2_write_65 : decode cX2_write 65 = .ok (.bipush (-9), 2) := by decide +kernel
theorem dX2_write_67 : decode cX2_write 67 = .ok (.if_icmp .ne 7, 3) := by decide +kernel
theorem dX2_write_70 : decode cX2_write 70 = .ok (.iconst 0, 1) := by decide +kernel
theorem dX2_write_71 : decode cX2_write 71 = .ok (.goto 17, 3) := by decide +kernel
theorem dX2_write_74 : decode cX2_write 74 = .ok (.aload_n 0, 1) := by decide +kernel
theorem dX2_write_75 : decode cX2_write 75 = .ok (.getfield 7, 3) := by decide +kernel
theorem dX2_write_78 : decode cX2_write 78 = .ok (.bipush 107, 2) := by decide +kernel
theorem dX2_write_80 : decode cX2_write 80 = .ok (.iconst 4, 1) := by decide +kernel
theorem dX2_write_81 : decode cX2_write 81 = .ok (.iload_n 1, 1) := by decide +kernel
theorem dX2_write_82 : decode cX2_write 82 = .ok (.imul, 1) := by decide +kernel
theorem dX2_write_83 : decode cX2_write 83 = .ok (.iadd, 1) := by decide +kernel
theorem dX2_write_84 : decode cX2_write 84 = .ok (.iload 7, 2) := by decide +kernel
theorem dX2_write_86 : decode cX2_write 86 = .ok (.iadd, 1) := by decide +kernel
theorem dX2_write_87 : decode cX2_write 87 = .ok (.iaload, 1) := by decide +kernel
theorem dX2_write_88 : decode cX2_write 88 = .ok (.iastore, 1) := by decide +kernel
theorem dX2_write_89 : decode cX2_write 89 = .ok (.iinc 7 1, 3) := by decide +kernel
theorem dX2_write_92 : decode cX2_write 92 = .ok (.goto (-46), 3) := by decide +kernel
theorem dX2_write_95 : decode cX2_write 95 = .ok (.aload_n 0, 1) := by decide +kernel
theorem dX2_write_96 : decode cX2_write 96 = .ok (.getfield 7, 3) := by decide +kernel
theorem dX2_write_99 : decode cX2_write 99 = .ok (.bipush 123, 2) := by decide +kernel
theorem dX2_write_101 : decode cX2_write 101 = .ok (.iload_n 1, 1) := by decide +kernel
theorem dX2_write_102 : decode cX2_write 102 = .ok (.iload_n 2, 1) := by decide +kernel
theorem dX2_write_103 : decode cX2_write 103 = .ok (.invokestatic 55, 3) := by decide +kernel
theorem dX2_write_106 : decode cX2_write 106 = .ok (.iadd, 1) := by decide +kernel
theorem dX2_write_107 : decode cX2_write 107 = .ok (.dup2, 1) := by decide +kernel
theorem dX2_write_108 : decode cX2_write 108 = .ok (.iaload, 1) := by decide +kernel
theorem dX2_write_109 : decode cX2_write 109 = .ok (.iconst 1, 1) := by decide +kernel
theorem dX2_write_110 : decode cX2_write 110 = .ok (.iadd, 1) := by decide +kernel
theorem dX2_write_111 : decode cX2_write 111 = .ok (.iastore, 1) := by decide +kernel
theorem dX2_write_112 : decode cX2_write 112 = .ok (.return_, 1) := by decide +kernel
theorem dX2_had_0 : decode cX2_had 0 = .ok (.iconst 0, 1) := by decide +kernel
theorem dX2_had_1 : decode cX2_had 1 = .ok (.istore_n 3, 1) := by decide +kernel
theorem dX2_had_2 : decode cX2_had 2 = .ok (.iconst 0, 1) := by decide +kernel
theorem dX2_had_3 : decode cX2_had 3 = .ok (.istore 4, 2) := by decide +kernel
theorem dX2_had_5 : decode cX2_had 5 = .ok (.iload 4, 2) := by decide +kernel
theorem dX2_had_7 : decode cX2_had 7 = .ok (.aload_n 0, 1) := by decide +kernel
theorem dX2_had_8 : decode cX2_had 8 = .ok (.iload_n 1, 1) := by decide +kernel
theorem dX2_had_9 : decode cX2_had 9 = .ok (.invokevirtual 47, 3) := by decide +kernel
theorem dX2_had_12 : decode cX2_had 12 = .ok (.if_icmp .ge 29, 3) := by decide +kernel
theorem dX2_had_15 : decode cX2_had 15 = .ok (.iload_n 3, 1) := by decide +kernel
theorem dX2_had_16 : decode cX2_had 16 = .ok (.aload_n 0, 1) := by decide +kernel
theorem dX2_had_17 : decode cX2_had 17 = .ok (.iload_n 1, 1) := by decide +kernel
theorem dX2_had_18 : decode cX2_had 18 = .ok (.iload 4, 2) := by decide +kernel
theorem dX2_had_20 : decode cX2_had 20 = .ok (.iconst 0, 1) := by decide +kernel
theorem dX2_had_21 : decode cX2_had 21 = .ok (.invokevirtual 51, 3) := by decide +kernel
theorem dX2_had_24 : decode cX2_had 24 = .ok (.iload_n 2, 1) := by decide +kernel
theorem dX2_had_25 : decode cX2_had 25 = .ok (.if_icmp .ne 7, 3) := by decide +kernel
theorem dX2_had_28 : decode cX2_had 28 = .ok (.iconst 1, 1) := by decide +kernel
theorem dX2_had_29 : decode cX2_had 29 = .ok (.goto 4, 3) := by decide +kernel
theorem dX2_had_32 : decode cX2_had 32 = .ok (.iconst 0, 1) := by decide +kernel
theorem dX2_had_33 : decode cX2_had 33 = .ok (.iadd, 1) := by decide +kernel
theorem dX2_had_34 : decode cX2_had 34 = .ok (.istore_n 3, 1) := by decide +kernel
theorem dX2_had_35 : decode cX2_had 35 = .ok (.iinc 4 1, 3) := by decide +kernel
theorem dX2_had_38 : decode cX2_had 38 = .ok (.goto (-33), 3) := by decide +kernel
theorem dX2_had_41 : decode cX2_had 41 = .ok (.iload_n 3, 1) := by decide +kernel
theorem dX2_had_42 : decode cX2_had 42 = .ok (.ireturn, 1) := by decide +kernel
theorem dX2_note_0 : decode cX2_note 0 = .ok (.aload_n 0, 1) := by decide +kernel
theorem dX2_note_1 : decode cX2_note 1 = .ok (.getfield 68, 3) := by decide +kernel
theorem dX2_note_4 : decode cX2_note 4 = .ok (.iconst 5, 1) := by decide +kernel
theorem dX2_note_5 : decode cX2_note 5 = .ok (.if_icmp .ne 44, 3) := by decide +kernel
theorem dX2_note_8 : decode cX2_note 8 = .ok (.iconst 0, 1) := by decide +kernel
theorem dX2_note_9 : decode cX2_note 9 = .ok (.istore_n 1, 1) := by decide +kernel
theorem dX2_note_10 : decode cX2_note 10 = .ok (.iload_n 1, 1) := by decide +kernel
theorem dX2_note_11 : decode cX2_note 11 = .ok (.sipush 5052, 3) := by decide +kernel
theorem dX2_note_14 : decode cX2_note 14 = .ok (.if_icmp .ge 25, 3) := by decide +kernel
theorem dX2_note_17 : decode cX2_note 17 = .ok (.aload_n 0, 1) := by decide +kernel
theorem dX2_note_18 : decode cX2_note 18 = .ok (.getfield 13, 3) := by decide +kernel
theorem dX2_note_21 : decode cX2_note 21 = .ok (.iload_n 1, 1) := by decide +kernel
theorem dX2_note_22 : decode cX2_note 22 = .ok (.aload_n 0, 1) := by decide +kernel
theorem dX2_note_23 : decode cX2_note 23 = .ok (.getfield 13, 3) := by decide +kernel
theorem dX2_note_26 : decode cX2_note 26 = .ok (.iload_n 1, 1) := by decide +kernel
theorem dX2_note_27 : decode cX2_note 27 = .ok (.sipush 1263, 3) := by decide +kernel
theorem dX2_note_30 : decode cX2_note 30 = .ok (.iadd, 1) := by decide +kernel
theorem dX2_note_31 : decode cX2_note 31 = .ok (.iaload, 1) := by decide +kernel
theorem dX2_note_32 : decode cX2_note 32 = .ok (.iastore, 1) := by decide +kernel
theorem dX2_note_33 : decode cX2_note 33 = .ok (.iinc 1 1, 3) := by decide +kernel
theorem dX2_note_36 : decode cX2_note 36 = .ok (.goto (-26), 3) := by decide +kernel
theorem dX2_note_39 : decode cX2_note 39 = .ok (.aload_n 0, 1) := by decide +kernel
theorem dX2_note_40 : decode cX2_note 40 = .ok (.dup, 1) := by decide +kernel
theorem dX2_note_41 : decode cX2_note 41 = .ok (.getfield 68, 3) := by decide +kernel
theorem dX2_note_44 : decode cX2_note 44 = .ok (.iconst 1, 1) := by decide +kernel
theorem dX2_note_45 : decode cX2_note 45 = .ok (.isub, 1) := by decide +kernel
theorem dX2_note_46 : decode cX2_note 46 = .ok (.putfield 68, 3) := by decide +kernel
theorem dX2_note_49 : decode cX2_note 49 = .ok (.iconst 0, 1) := by decide +kernel
theorem dX2_note_50 : decode cX2_note 50 = .ok (.istore_n 1, 1) := by decide +kernel
theorem dX2_note_51 : decode cX2_note 51 = .ok (.iload_n 1, 1) := by decide +kernel
theorem dX2_note_52 : decode cX2_note 52 = .ok (.sipush 1263, 3) := by decide +kernel
theorem dX2_note_55 : decode cX2_note 55 = .ok (.if_icmp .ge 30, 3) := by decide +kernel
theorem dX2_note_58 : decode cX2_note 58 = .ok (.aload_n 0, 1) := by decide +kernel
theorem dX2_note_59 : decode cX2_note 59 = .ok (.getfield 13, 3) := by decide +kernel
theorem dX2_note_62 : decode cX2_note 62 = .ok (.sipush 1263, 3) := by decide +kernel
theorem dX2_note_65 : decode cX2_note 65 = .ok (.aload_n 0, 1) := by decide +kernel
theorem dX2_note_66 : decode cX2_note 66 = .ok (.getfield 68, 3) := by decide +kernel
theorem dX2_note_69 : decode cX2_note 69 = .ok (.imul, 1) := by decide +kernel
theorem dX2_note_70 : decode cX2_note 70 = .ok (.iload_n 1, 1) := by decide +kernel
theorem dX2_note_71 : decode cX2_note 71 = .ok (.iadd, 1) := by decide +kernel
theorem dX2_note_72 : decode cX2_note 72 = .ok (.aload_n 0, 1) := by decide +kernel
theorem dX2_note_73 : decode cX2_note 73 = .ok (.getfield 7, 3) := by decide +kernel
theorem dX2_note_76 : decode cX2_note 76 = .ok (.iload_n 1, 1) := by decide +kernel
theorem dX2_note_77 : decode cX2_note 77 = .ok (.iaload, 1) := by decide +kernel
theorem dX2_note_78 : decode cX2_note 78 = .ok (.iastore, 1) := by decide +kernel
theorem dX2_note_79 : decode cX2_note 79 = .ok (.iinc 1 1, 3) := by decide +kernel
theorem dX2_note_82 : decode cX2_note 82 = .ok (.goto (-31), 3) := by decide +kernel
theorem dX2_note_85 : decode cX2_note 85 = .ok (.aload_n 0, 1) := by decide +kernel
theorem dX2_note_86 : decode cX2_note 86 = .ok (.dup, 1) := by decide +kernel
theorem dX2_note_87 : decode cX2_note 87 = .ok (.getfield 68, 3) := by decide +kernel
theorem dX2_note_90 : decode cX2_note 90 = .ok (.iconst 1, 1) := by decide +kernel
theorem dX2_note_91 : decode cX2_note 91 = .ok (.iadd, 1) := by decide +kernel
theorem dX2_note_92 : decode cX2_note 92 = .ok (.putfield 68, 3) := by decide +kernel
theorem dX2_note_95 : decode cX2_note 95 = .ok (.return_, 1) := by decide +kernel
theorem dX2_begins_0 : decode cX2_begins 0 = .ok (.iload_n 1, 1) := by decide +kernel
theorem dX2_begins_1 : decode cX2_begins 1 = .ok (.iconst 2, 1) := by decide +kernel
theorem dX2_begins_2 : decode cX2_begins 2 = .ok (.iconst 4, 1) := by decide +kernel
theorem dX2_begins_3 : decode cX2_begins 3 = .ok (.invokestatic 43, 3) := by decide +kernel
theorem dX2_begins_6 : decode cX2_begins 6 = .ok (.ifCond .eq 12, 3) := by decide +kernel
theorem dX2_begins_9 : decode cX2_begins 9 = .ok (.iload_n 2, 1) := by decide +kernel
theorem dX2_begins_10 : decode cX2_begins 10 = .ok (.iconst 1, 1) := by decide +kernel
theorem dX2_begins_11 : decode cX2_begins 11 = .ok (.iload_n 1, 1) := by decide +kernel
theorem dX2_begins_12 : decode cX2_begins 12 = .ok (.invokestatic 43, 3) := by decide +kernel
theorem dX2_begins_15 : decode cX2_begins 15 = .ok (.ifCond .ne 5, 3) := by decide +kernel
theorem dX2_begins_18 : decode cX2_begins 18 = .ok (.iconst (-1), 1) := by decide +kernel
theorem dX2_begins_19 : decode cX2_begins 19 = .ok (.ireturn, 1) := by decide +kernel
theorem dX2_begins_20 : decode cX2_begins 20 = .ok (.aload_n 0, 1) := by decide +kernel
theorem dX2_begins_21 : decode cX2_begins 21 = .ok (.invokevirtual 72, 3) := by decide +kernel
theorem dX2_begins_24 : decode cX2_begins 24 = .ok (.aload_n 0, 1) := by decide +kernel
theorem dX2_begins_25 : decode cX2_begins 25 = .ok (.iload_n 1, 1) := by decide +kernel
theorem dX2_begins_26 : decode cX2_begins 26 = .ok (.iload_n 2, 1) := by decide +kernel
theorem dX2_begins_27 : decode cX2_begins 27 = .ok (.invokevirtual 35, 3) := by decide +kernel
theorem dX2_begins_30 : decode cX2_begins 30 = .ok (.aload_n 0, 1) := by decide +kernel
theorem dX2_begins_31 : decode cX2_begins 31 = .ok (.iconst 0, 1) := by decide +kernel
theorem dX2_begins_32 : decode cX2_begins 32 = .ok (.putfield 75, 3) := by decide +kernel
theorem dX2_begins_35 : decode cX2_begins 35 = .ok (.aload_n 0, 1) := by decide +kernel
theorem dX2_begins_36 : decode cX2_begins 36 = .ok (.getfield 19, 3) := by decide +kernel
theorem dX2_begins_39 : decode cX2_begins 39 = .ok (.iconst 0, 1) := by decide +kernel
theorem dX2_begins_40 : decode cX2_begins 40 = .ok (.iconst 0, 1) := by decide +kernel
theorem dX2_begins_41 : decode cX2_begins 41 = .ok (.bastore, 1) := by decide +kernel
theorem dX2_begins_42 : decode cX2_begins 42 = .ok (.aload_n 0, 1) := by decide +kernel
theorem dX2_begins_43 : decode cX2_begins 43 = .ok (.getfield 19, 3) := by decide +kernel
theorem dX2_begins_46 : decode cX2_begins 46 = .ok (.iconst 1, 1) := by decide +kernel
theorem dX2_begins_47 : decode cX2_begins 47 = .ok (.iconst 0, 1) := by decide +kernel
theorem dX2_begins_48 : decode cX2_begins 48 = .ok (.bastore, 1) := by decide +kernel
theorem dX2_begins_49 : decode cX2_begins 49 = .ok (.iload_n 1, 1) := by decide +kernel
theorem dX2_begins_50 : decode cX2_begins 50 = .ok (.ireturn, 1) := by decide +kernel
theorem dX2_puts_0 : decode cX2_puts 0 = .ok (.aload_n 0, 1) := by decide +kernel
theorem dX2_puts_1 : decode cX2_puts 1 = .ok (.iload_n 1, 1) := by decide +kernel
theorem dX2_puts_2 : decode cX2_puts 2 = .ok (.invokevirtual 78, 3) := by decide +kernel
theorem dX2_puts_5 : decode cX2_puts 5 = .ok (.ifCond .eq 13, 3) := by decide +kernel
theorem dX2_puts_8 : decode cX2_puts 8 = .ok (.iload_n 2, 1) := by decide +kernel
theorem dX2_puts_9 : decode cX2_puts 9 = .ok (.iconst 0, 1) := by decide +kernel
theorem dX2_puts_10 : decode cX2_puts 10 = .ok (.bipush 99, 2) := by decide +kernel
theorem dX2_puts_12 : decode cX2_puts 12 = .ok (.invokestatic 43, 3) := by decide +kernel
theorem dX2_puts_15 : decode cX2_puts 15 = .ok (.ifCond .ne 5, 3) := by decide +kernel
theorem dX2_puts_18 : decode cX2_puts 18 = .ok (.iconst (-1), 1) := by decide +kernel
theorem dX2_puts_19 : decode cX2_puts 19 = .ok (.ireturn, 1) := by decide +kernel
theorem dX2_puts_20 : decode cX2_puts 20 = .ok (.aload_n 0, 1) := by decide +kernel
theorem dX2_puts_21 : decode cX2_puts 21 = .ok (.invokevirtual 82, 3) := by decide +kernel
theorem dX2_puts_24 : decode cX2_puts 24 = .ok (.istore_n 3, 1) := by decide +kernel
theorem dX2_puts_25 : decode cX2_puts 25 = .ok (.aload_n 0, 1) := by decide +kernel
theorem dX2_puts_26 : decode cX2_puts 26 = .ok (.iload_n 3, 1) := by decide +kernel
theorem dX2_puts_27 : decode cX2_puts 27 = .ok (.iload_n 1, 1) := by decide +kernel
theorem dX2_puts_28 : decode cX2_puts 28 = .ok (.invokevirtual 62, 3) := by decide +kernel
theorem dX2_puts_31 : decode cX2_puts 31 = .ok (.bipush 8, 2) := by decide +kernel
theorem dX2_puts_33 : decode cX2_puts 33 = .ok (.if_icmp .ne 6, 3) := by decide +kernel
theorem dX2_puts_36 : decode cX2_puts 36 = .ok (.bipush (-3), 2) := by decide +kernel
theorem dX2_puts_38 : decode cX2_puts 38 = .ok (.ireturn, 1) := by decide +kernel
theorem dX2_puts_39 : decode cX2_puts 39 = .ok (.aload_n 0, 1) := by decide +kernel
theorem dX2_puts_40 : decode cX2_puts 40 = .ok (.invokevirtual 72, 3) := by decide +kernel
theorem dX2_puts_43 : decode cX2_puts 43 = .ok (.aload_n 0, 1) := by decide +kernel
theorem dX2_puts_44 : decode cX2_puts 44 = .ok (.iload_n 3, 1) := by decide +kernel
theorem dX2_puts_45 : decode cX2_puts 45 = .ok (.iload_n 1, 1) := by decide +kernel
theorem dX2_puts_46 : decode cX2_puts 46 = .ok (.iload_n 2, 1) := by decide +kernel
theorem dX2_puts_47 : decode cX2_puts 47 = .ok (.bipush (-9), 2) := by decide +kernel
theorem dX2_puts_49 : decode cX2_puts 49 = .ok (.iconst 0, 1) := by decide +kernel
theorem dX2_puts_50 : decode cX2_puts 50 = .ok (.invokevirtual 86, 3) := by decide +kernel
theorem dX2_puts_53 : decode cX2_puts 53 = .ok (.aload_n 0, 1) := by decide +kernel
theorem dX2_puts_54 : decode cX2_puts 54 = .ok (.iload_n 3, 1) := by decide +kernel
theorem dX2_puts_55 : decode cX2_puts 55 = .ok (.iload_n 1, 1) := by decide +kernel
theorem dX2_puts_56 : decode cX2_puts 56 = .ok (.invokevirtual 62, 3) := by decide +kernel
theorem dX2_puts_59 : decode cX2_puts 59 = .ok (.iconst 1, 1) := by decide +kernel
theorem dX2_puts_60 : decode cX2_puts 60 = .ok (.isub, 1) := by decide +kernel
theorem dX2_puts_61 : decode cX2_puts 61 = .ok (.ireturn, 1) := by decide +kernel
theorem dX2_isWay_0 : decode cX2_isWay 0 = .ok (.aload_n 0, 1) := by decide +kernel
theorem dX2_isWay_1 : decode cX2_isWay 1 = .ok (.iload_n 2, 1) := by decide +kernel
theorem dX2_isWay_2 : decode cX2_isWay 2 = .ok (.invokevirtual 78, 3) := by decide +kernel
theorem dX2_isWay_5 : decode cX2_isWay 5 = .ok (.ifCond .eq 24, 3) := by decide +kernel
theorem dX2_isWay_8 : decode cX2_isWay 8 = .ok (.iload_n 1, 1) := by decide +kernel
theorem dX2_isWay_9 : decode cX2_isWay 9 = .ok (.iconst 0, 1) := by decide +kernel
theorem dX2_isWay_10 : decode cX2_isWay 10 = .ok (.aload_n 0, 1) := by decide +kernel
theorem dX2_isWay_11 : decode cX2_isWay 11 = .ok (.invokevirtual 82, 3) := by decide +kernel
theorem dX2_isWay_14 : decode cX2_isWay 14 = .ok (.invokestatic 43, 3) := by decide +kernel
theorem dX2_isWay_17 : decode cX2_isWay 17 = .ok (.ifCond .eq 12, 3) := by decide +kernel
theorem dX2_isWay_20 : decode cX2_isWay 20 = .ok (.iload_n 1, 1) := by decide +kernel
theorem dX2_isWay_21 : decode cX2_isWay 21 = .ok (.iload_n 2, 1) := by decide +kernel
theorem dX2_isWay_22 : decode cX2_isWay 22 = .ok (.if_icmp .eq 7, 3) := by decide +kernel
theorem dX2_isWay_25 : decode cX2_isWay 25 = .ok (.iconst 1, 1) := by decide +kernel
theorem dX2_isWay_26 : decode cX2_isWay 26 = .ok (.goto 4, 3) := by decide +kernel
theorem dX2_isWay_29 : decode cX2_isWay 29 = .ok (.iconst 0, 1) := by decide +kernel
theorem dX2_isWay_30 : decode cX2_isWay 30 = .ok (.ireturn, 1) := by decide +kernel
theorem dX2_receives_0 : decode cX2_receives 0 = .ok (.aload_n 0, 1) := by decide +kernel
theorem dX2_receives_1 : decode cX2_receives 1 = .ok (.iload_n 2, 1) := by decide +kernel
theorem dX2_receives_2 : decode cX2_receives 2 = .ok (.iload_n 1, 1) := by decide +kernel
theorem dX2_receives_3 : decode cX2_receives 3 = .ok (.invokevirtual 90, 3) := by decide +kernel
theorem dX2_receives_6 : decode cX2_receives 6 = .ok (.ifCond .ne 5, 3) := by decide +kernel
theorem dX2_receives_9 : decode cX2_receives 9 = .ok (.iconst (-1), 1) := by decide +kernel
theorem dX2_receives_10 : decode cX2_receives 10 = .ok (.ireturn, 1) := by decide +kernel
theorem dX2_receives_11 : decode cX2_receives 11 = .ok (.aload_n 0, 1) := by decide +kernel
theorem dX2_receives_12 : decode cX2_receives 12 = .ok (.iload_n 1, 1) := by decide +kernel
theorem dX2_receives_13 : decode cX2_receives 13 = .ok (.iload_n 2, 1) := by decide +kernel
theorem dX2_receives_14 : decode cX2_receives 14 = .ok (.invokevirtual 93, 3) := by decide +kernel
theorem dX2_receives_17 : decode cX2_receives 17 = .ok (.istore_n 3, 1) := by decide +kernel
theorem dX2_receives_18 : decode cX2_receives 18 = .ok (.aload_n 0, 1) := by decide +kernel
theorem dX2_receives_19 : decode cX2_receives 19 = .ok (.iload_n 1, 1) := by decide +kernel
theorem dX2_receives_20 : decode cX2_receives 20 = .ok (.invokevirtual 96, 3) := by decide +kernel
theorem dX2_receives_23 : decode cX2_receives 23 = .ok (.ifCond .ne 13, 3) := by decide +kernel
theorem dX2_receives_26 : decode cX2_receives 26 = .ok (.iload_n 3, 1) := by decide +kernel
theorem dX2_receives_27 : decode cX2_receives 27 = .ok (.aload_n 0, 1) := by decide +kernel
theorem dX2_receives_28 : decode cX2_receives 28 = .ok (.iload_n 2, 1) := by decide +kernel
theorem dX2_receives_29 : decode cX2_receives 29 = .ok (.iload_n 1, 1) := by decide +kernel
theorem dX2_receives_30 : decode cX2_receives 30 = .ok (.invokevirtual 62, 3) := by decide +kernel
theorem dX2_receives_33 : decode cX2_receives 33 = .ok (.if_icmp .ne 6, 3) := by decide +kernel
theorem dX2_receives_36 : decode cX2_receives 36 = .ok (.bipush (-2), 2) := by decide +kernel
theorem dX2_receives_38 : decode cX2_receives 38 = .ok (.ireturn, 1) := by decide +kernel
theorem dX2_receives_39 : decode cX2_receives 39 = .ok (.aload_n 0, 1) := by decide +kernel
theorem dX2_receives_40 : decode cX2_receives 40 = .ok (.iload_n 1, 1) := by decide +kernel
theorem dX2_receives_41 : decode cX2_receives 41 = .ok (.invokevirtual 47, 3) := by decide +kernel
theorem dX2_receives_44 : decode cX2_receives 44 = .ok (.bipush 8, 2) := by decide +kernel
theorem dX2_receives_46 : decode cX2_receives 46 = .ok (.if_icmp .ne 6, 3) := by decide +kernel
theorem dX2_receives_49 : decode cX2_receives 49 = .ok (.bipush (-3), 2) := by decide +kernel
theorem dX2_receives_51 : decode cX2_receives 51 = .ok (.ireturn, 1) := by decide +kernel
theorem dX2_receives_52 : decode cX2_receives 52 = .ok (.aload_n 0, 1) := by decide +kernel
theorem dX2_receives_53 : decode cX2_receives 53 = .ok (.invokevirtual 72, 3) := by decide +kernel
theorem dX2_receives_56 : decode cX2_receives 56 = .ok (.iload_n 2, 1) := by decide +kernel
theorem dX2_receives_57 : decode cX2_receives 57 = .ok (.iload_n 1, 1) := by decide +kernel
theorem dX2_receives_58 : decode cX2_receives 58 = .ok (.iload_n 3, 1) := by decide +kernel
theorem dX2_receives_59 : decode cX2_receives 59 = .ok (.invokestatic 65, 3) := by decide +kernel
theorem dX2_receives_62 : decode cX2_receives 62 = .ok (.istore 4, 2) := by decide +kernel
theorem dX2_receives_64 : decode cX2_receives 64 = .ok (.aload_n 0, 1) := by decide +kernel
theorem dX2_receives_65 : decode cX2_receives 65 = .ok (.iload_n 1, 1) := by decide +kernel
theorem dX2_receives_66 : decode cX2_receives 66 = .ok (.invokevirtual 47, 3) := by decide +kernel
theorem dX2_receives_69 : decode cX2_receives 69 = .ok (.istore 5, 2) := by decide +kernel
theorem dX2_receives_71 : decode cX2_receives 71 = .ok (.bipush 8, 2) := by decide +kernel
theorem dX2_receives_73 : decode cX2_receives 73 = .ok (.iload_n 1, 1) := by decide +kernel
theorem dX2_receives_74 : decode cX2_receives 74 = .ok (.imul, 1) := by decide +kernel
theorem dX2_receives_75 : decode cX2_receives 75 = .ok (.iload 5, 2) := by decide +kernel
theorem dX2_receives_77 : decode cX2_receives 77 = .ok (.iadd, 1) := by decide +kernel
theorem dX2_receives_78 : decode cX2_receives 78 = .ok (.istore 6, 2) := by decide +kernel
theorem dX2_receives_80 : decode cX2_receives 80 = .ok (.bipush 31, 2) := by decide +kernel
theorem dX2_receives_82 : decode cX2_receives 82 = .ok (.aload_n 0, 1) := by decide +kernel
theorem dX2_receives_83 : decode cX2_receives 83 = .ok (.iload_n 1, 1) := by decide +kernel
theorem dX2_receives_84 : decode cX2_receives 84 = .ok (.invokevirtual 99, 3) := by decide +kernel
theorem dX2_receives_87 : decode cX2_receives 87 = .ok (.imul, 1) := by decide +kernel
theorem dX2_receives_88 : decode cX2_receives 88 = .ok (.aload_n 0, 1) := by decide +kernel
theorem dX2_receives_89 : decode cX2_receives 89 = .ok (.getfield 7, 3) := by decide +kernel
theorem dX2_receives_92 : decode cX2_receives 92 = .ok (.iload 4, 2) := by decide +kernel
theorem dX2_receives_94 : decode cX2_receives 94 = .ok (.iaload, 1) := by decide +kernel
theorem dX2_receives_95 : decode cX2_receives 95 = .ok (.iadd, 1) := by decide +kernel
theorem dX2_receives_96 : decode cX2_receives 96 = .ok (.iload_n 2, 1) := by decide +kernel
theorem dX2_receives_97 : decode cX2_receives 97 = .ok (.iadd, 1) := by decide +kernel
theorem dX2_receives_98 : decode cX2_receives 98 = .ok (.iconst 1, 1) := by decide +kernel
theorem dX2_receives_99 : decode cX2_receives 99 = .ok (.iadd, 1) := by decide +kernel
theorem dX2_receives_100 : decode cX2_receives 100 = .ok (.sipush 997, 3) := by decide +kernel
theorem dX2_receives_103 : decode cX2_receives 103 = .ok (.irem, 1) := by decide +kernel
theorem dX2_receives_104 : decode cX2_receives 104 = .ok (.istore 7, 2) := by decide +kernel
theorem dX2_receives_106 : decode cX2_receives 106 = .ok (.bipush 7, 2) := by decide +kernel
theorem dX2_receives_108 : decode cX2_receives 108 = .ok (.bipush 24, 2) := by decide +kernel
theorem dX2_receives_110 : decode cX2_receives 110 = .ok (.iload_n 1, 1) := by decide +kernel
theorem dX2_receives_111 : decode cX2_receives 111 = .ok (.imul, 1) := by decide +kernel
theorem dX2_receives_112 : decode cX2_receives 112 = .ok (.iadd, 1) := by decide +kernel
theorem dX2_receives_113 : decode cX2_receives 113 = .ok (.iconst 3, 1) := by decide +kernel
theorem dX2_receives_114 : decode cX2_receives 114 = .ok (.iload 5, 2) := by decide +kernel
theorem dX2_receives_116 : decode cX2_receives 116 = .ok (.imul, 1) := by decide +kernel
theorem dX2_receives_117 : decode cX2_receives 117 = .ok (.iadd, 1) := by decide +kernel
theorem dX2_receives_118 : decode cX2_receives 118 = .ok (.istore 8, 2) := by decide +kernel
theorem dX2_receives_120 : decode cX2_receives 120 = .ok (.aload_n 0, 1) := by decide +kernel
theorem dX2_receives_121 : decode cX2_receives 121 = .ok (.getfield 7, 3) := by decide +kernel
theorem dX2_receives_124 : decode cX2_receives 124 = .ok (.iload 8, 2) := by decide +kernel
theorem dX2_receives_126 : decode cX2_receives 126 = .ok (.iload_n 2, 1) := by decide +kernel
theorem dX2_receives_127 : decode cX2_receives 127 = .ok (.iastore, 1) := by decide +kernel
theorem dX2_receives_128 : decode cX2_receives 128 = .ok (.aload_n 0, 1) := by decide +kernel
theorem dX2_receives_129 : decode cX2_receives 129 = .ok (.getfield 7, 3) := by decide +kernel
theorem dX2_receives_132 : decode cX2_receives 132 = .ok (.iload 8, 2) := by decide +kernel
theorem dX2_receives_134 : decode cX2_receives 134 = .ok (.iconst 1, 1) := by decide +kernel
theorem dX2_receives_135 : decode cX2_receives 135 = .ok (.iadd, 1) := by decide +kernel
theorem dX2_receives_136 : decode cX2_receives 136 = .ok (.iload_n 3, 1) := by decide +kernel
theorem dX2_receives_137 : decode cX2_receives 137 = .ok (.iastore, 1) := by decide +kernel
theorem dX2_receives_138 : decode cX2_receives 138 = .ok (.aload_n 0, 1) := by decide +kernel
theorem dX2_receives_139 : decode cX2_receives 139 = .ok (.getfield 7, 3) := by decide +kernel
theorem dX2_receives_142 : decode cX2_receives 142 = .ok (.iload 8, 2) := by decide +kernel
theorem dX2_receives_144 : decode cX2_receives 144 = .ok (.iconst 2, 1) := by decide +kernel
theorem dX2_receives_145 : decode cX2_receives 145 = .ok (.iadd, 1) := by decide +kernel
theorem dX2_receives_146 : decode cX2_receives 146 = .ok (.iload 7, 2) := by decide +kernel
theorem dX2_receives_148 : decode cX2_receives 148 = .ok (.iastore, 1) := by decide +kernel
theorem dX2_receives_149 : decode cX2_receives 149 = .ok (.aload_n 0, 1) := by decide +kernel
theorem dX2_receives_150 : decode cX2_receives 150 = .ok (.getfield 7, 3) := by decide +kernel
theorem dX2_receives_153 : decode cX2_receives 153 = .ok (.iconst 3, 1) := by decide +kernel
theorem dX2_receives_154 : decode cX2_receives 154 = .ok (.iload_n 1, 1) := by decide +kernel
theorem dX2_receives_155 : decode cX2_receives 155 = .ok (.iadd, 1) := by decide +kernel
theorem dX2_receives_156 : decode cX2_receives 156 = .ok (.dup2, 1) := by decide +kernel
theorem dX2_receives_157 : decode cX2_receives 157 = .ok (.iaload, 1) := by decide +kernel
theorem dX2_receives_158 : decode cX2_receives 158 = .ok (.iconst 1, 1) := by decide +kernel
theorem dX2_receives_159 : decode cX2_receives 159 = .ok (.iadd, 1) := by decide +kernel
theorem dX2_receives_160 : decode cX2_receives 160 = .ok (.iastore, 1) := by decide +kernel
theorem dX2_receives_161 : decode cX2_receives 161 = .ok (.aload_n 0, 1) := by decide +kernel
theorem dX2_receives_162 : decode cX2_receives 162 = .ok (.iload_n 1, 1) := by decide +kernel
theorem dX2_receives_163 : decode cX2_receives 163 = .ok (.iload 6, 2) := by decide +kernel
theorem dX2_receives_165 : decode cX2_receives 165 = .ok (.iconst 1, 1) := by decide +kernel
theorem dX2_receives_166 : decode cX2_receives 166 = .ok (.iload_n 1, 1) := by decide +kernel
theorem dX2_receives_167 : decode cX2_receives 167 = .ok (.ishl, 1) := by decide +kernel
theorem dX2_receives_168 : decode cX2_receives 168 = .ok (.invokevirtual 102, 3) := by decide +kernel
theorem dX2_receives_171 : decode cX2_receives 171 = .ok (.iconst 0, 1) := by decide +kernel
theorem dX2_receives_172 : decode cX2_receives 172 = .ok (.istore 9, 2) := by decide +kernel
theorem dX2_receives_174 : decode cX2_receives 174 = .ok (.iload 9, 2) := by decide +kernel
theorem dX2_receives_176 : decode cX2_receives 176 = .ok (.bipush 32, 2) := by decide +kernel
theorem dX2_receives_178 : decode cX2_receives 178 = .ok (.if_icmp .ge 65, 3) := by decide +kernel
theorem dX2_receives_181 : decode cX2_receives 181 = .ok (.aload_n 0, 1) := by decide +kernel
theorem dX2_receives_182 : decode cX2_receives 182 = .ok (.getfield 7, 3) := by decide +kernel
theorem dX2_receives_185 : decode cX2_receives 185 = .ok (.iload 4, 2) := by decide +kernel
theorem dX2_receives_187 : decode cX2_receives 187 = .ok (.iconst 2, 1) := by decide +kernel
theorem dX2_receives_188 : decode cX2_receives 188 = .ok (.iadd, 1) := by decide +kernel
theorem dX2_receives_189 : decode cX2_receives 189 = .ok (.iaload, 1) := by decide +kernel
theorem dX2_receives_190 : decode cX2_receives 190 = .ok (.iload 9, 2) := by decide +kernel
theorem dX2_receives_192 : decode cX2_receives 192 = .ok (.invokestatic 39, 3) := by decide +kernel
theorem dX2_receives_195 : decode cX2_receives 195 = .ok (.ifCond .eq 42, 3) := by decide +kernel
theorem dX2_receives_198 : decode cX2_receives 198 = .ok (.aload_n 0, 1) := by decide +kernel
theorem dX2_receives_199 : decode cX2_receives 199 = .ok (.iload_n 1, 1) := by decide +kernel
theorem dX2_receives_200 : decode cX2_receives 200 = .ok (.iload 9, 2) := by decide +kernel
theorem dX2_receives_202 : decode cX2_receives 202 = .ok (.aload_n 0, 1) := by decide +kernel
theorem dX2_receives_203 : decode cX2_receives 203 = .ok (.iload_n 1, 1) := by decide +kernel
theorem dX2_receives_204 : decode cX2_receives 204 = .ok (.iload 9, 2) := by decide +kernel
theorem dX2_receives_206 : decode cX2_receives 206 = .ok (.invokevirtual 106, 3) := by decide +kernel
theorem dX2_receives_209 : decode cX2_receives 209 = .ok (.aload_n 0, 1) := by decide +kernel
theorem dX2_receives_210 : decode cX2_receives 210 = .ok (.getfield 7, 3) := by decide +kernel
theorem dX2_receives_213 : decode cX2_receives 213 = .ok (.iload 4, 2) := by decide +kernel
theorem dX2_receives_215 : decode cX2_receives 215 = .ok (.iconst 3, 1) := by decide +kernel
theorem dX2_receives_216 : decode cX2_receives 216 = .ok (.iadd, 1) := by decide +kernel
theorem dX2_receives_217 : decode cX2_receives 217 = .ok (.iload 9, 2) := by decide +kernel
theorem dX2_receives_219 : decode cX2_receives 219 = .ok (.bipush 8, 2) := by decide +kernel
theorem dX2_receives_221 : decode cX2_receives 221 = .ok (.idiv, 1) := by decide +kernel
theorem dX2_receives_222 : decode cX2_receives 222 = .ok (.iadd, 1) := by decide +kernel
theorem dX2_receives_223 : decode cX2_receives 223 = .ok (.iaload, 1) := by decide +kernel
theorem dX2_receives_224 : decode cX2_receives 224 = .ok (.iload 9, 2) := by decide +kernel
theorem dX2_receives_226 : decode cX2_receives 226 = .ok (.invokestatic 59, 3) := by decide +kernel
theorem dX2_receives_229 : decode cX2_receives 229 = .ok (.ior, 1) := by decide +kernel
theorem dX2_receives_230 : decode cX2_receives 230 = .ok (.iconst 1, 1) := by decide +kernel
theorem dX2_receives_231 : decode cX2_receives 231 = .ok (.iload_n 1, 1) := by decide +kernel
theorem dX2_receives_232 : decode cX2_receives 232 = .ok (.ishl, 1) := by decide +kernel
theorem dX2_receives_233 : decode cX2_receives 233 = .ok (.ior, 1) := by decide +kernel
theorem dX2_receives_234 : decode cX2_receives 234 = .ok (.invokevirtual 102, 3) := by decide +kernel
theorem dX2_receives_237 : decode cX2_receives 237 = .ok (.iinc 9 1, 3) := by decide +kernel
theorem dX2_receives_240 : decode cX2_receives 240 = .ok (.goto (-66), 3) := by decide +kernel
theorem dX2_receives_243 : decode cX2_receives 243 = .ok (.aload_n 0, 1) := by decide +kernel
theorem dX2_receives_244 : decode cX2_receives 244 = .ok (.iload_n 1, 1) := by decide +kernel
theorem dX2_receives_245 : decode cX2_receives 245 = .ok (.iload 7, 2) := by decide +kernel
theorem dX2_receives_247 : decode cX2_receives 247 = .ok (.iload 6, 2) := by decide +kernel
theorem dX2_receives_249 : decode cX2_receives 249 = .ok (.invokevirtual 109, 3) := by decide +kernel
theorem dX2_receives_252 : decode cX2_receives 252 = .ok (.iload 7, 2) := by decide +kernel
theorem dX2_receives_254 : decode cX2_receives 254 = .ok (.ireturn, 1) := by decide +kernel
theorem dX2_answer_0 : decode cX2_answer 0 = .ok (.iload_n 2, 1) := by decide +kernel
theorem dX2_answer_1 : decode cX2_answer 1 = .ok (.aload_n 0, 1) := by decide +kernel
theorem dX2_answer_2 : decode cX2_answer 2 = .ok (.invokevirtual 82, 3) := by decide +kernel
theorem dX2_answer_5 : decode cX2_answer 5 = .ok (.irem, 1) := by decide +kernel
theorem dX2_answer_6 : decode cX2_answer 6 = .ok (.istore 4, 2) := by decide +kernel
theorem dX2_answer_8 : decode cX2_answer 8 = .ok (.iload_n 2, 1) := by decide +kernel
theorem dX2_answer_9 : decode cX2_answer 9 = .ok (.iconst 3, 1) := by decide +kernel
theorem dX2_answer_10 : decode cX2_answer 10 = .ok (.irem, 1) := by decide +kernel
theorem dX2_answer_11 : decode cX2_answer 11 = .ok (.ifCond .eq 21, 3) := by decide +kernel
theorem dX2_answer_14 : decode cX2_answer 14 = .ok (.iload 4, 2) := by decide +kernel
theorem dX2_answer_16 : decode cX2_answer 16 = .ok (.iload_n 1, 1) := by decide +kernel
theorem dX2_answer_17 : decode cX2_answer 17 = .ok (.if_icmp .eq 15, 3) := by decide +kernel
theorem dX2_answer_20 : decode cX2_answer 20 = .ok (.aload_n 0, 1) := by decide +kernel
theorem dX2_answer_21 : decode cX2_answer 21 = .ok (.iload_n 1, 1) := by decide +kernel
theorem dX2_answer_22 : decode cX2_answer 22 = .ok (.iload 4, 2) := by decide +kernel
theorem dX2_answer_24 : decode cX2_answer 24 = .ok (.invokevirtual 62, 3) := by decide +kernel
theorem dX2_answer_27 : decode cX2_answer 27 = .ok (.bipush 8, 2) := by decide +kernel
theorem dX2_answer_29 : decode cX2_answer 29 = .ok (.if_icmp .ne 4, 3) := by decide +kernel
theorem dX2_answer_32 : decode cX2_answer 32 = .ok (.return_, 1) := by decide +kernel
theorem dX2_answer_33 : decode cX2_answer 33 = .ok (.iconst 0, 1) := by decide +kernel
theorem dX2_answer_34 : decode cX2_answer 34 = .ok (.istore 5, 2) := by decide +kernel
theorem dX2_answer_36 : decode cX2_answer 36 = .ok (.iconst 0, 1) := by decide +kernel
theorem dX2_answer_37 : decode cX2_answer 37 = .ok (.istore 6, 2) := by decide +kernel
theorem dX2_answer_39 : decode cX2_answer 39 = .ok (.iload 6, 2) := by decide +kernel
theorem dX2_answer_41 : decode cX2_answer 41 = .ok (.bipush 32, 2) := by decide +kernel
theorem dX2_answer_43 : decode cX2_answer 43 = .ok (.if_icmp .ge 58, 3) := by decide +kernel
theorem dX2_answer_46 : decode cX2_answer 46 = .ok (.iload 5, 2) := by decide +kernel
theorem dX2_answer_48 : decode cX2_answer 48 = .ok (.aload_n 0, 1) := by decide +kernel
theorem dX2_answer_49 : decode cX2_answer 49 = .ok (.getfield 7, 3) := by decide +kernel
theorem dX2_answer_52 : decode cX2_answer 52 = .ok (.bipush 103, 2) := by decide +kernel
theorem dX2_answer_54 : decode cX2_answer 54 = .ok (.iload_n 1, 1) := by decide +kernel
theorem dX2_answer_55 : decode cX2_answer 55 = .ok (.iadd, 1) := by decide +kernel
theorem dX2_answer_56 : decode cX2_answer 56 = .ok (.iaload, 1) := by decide +kernel
theorem dX2_answer_57 : decode cX2_answer 57 = .ok (.iload 6, 2) := by decide +kernel
theorem dX2_answer_59 : decode cX2_answer 59 = .ok (.invokestatic 39, 3) := by decide +kernel
theorem dX2_answer_62 : decode cX2_answer 62 = .ok (.ifCond .eq 29, 3) := by decide +kernel
theorem dX2_answer_65 : decode cX2_answer 65 = .ok (.aload_n 0, 1) := by decide +kernel
theorem dX2_answer_66 : decode cX2_answer 66 = .ok (.iload_n 1, 1) := by decide +kernel
theorem dX2_answer_67 : decode cX2_answer 67 = .ok (.iload 6, 2) := by decide +kernel
theorem dX2_answer_69 : decode cX2_answer 69 = .ok (.invokevirtual 106, 3) := by decide +kernel
theorem dX2_answer_72 : decode cX2_answer 72 = .ok (.invokestatic 112, 3) := by decide +kernel
theorem dX2_answer_75 : decode cX2_answer 75 = .ok (.aload_n 0, 1) := by decide +kernel
theorem dX2_answer_76 : decode cX2_answer 76 = .ok (.getfield 7, 3) := by decide +kernel
theorem dX2_answer_79 : decode cX2_answer 79 = .ok (.iconst 1, 1) := by decide +kernel
theorem dX2_answer_80 : decode cX2_answer 80 = .ok (.iaload, 1) := by decide +kernel
theorem dX2_answer_81 : decode cX2_answer 81 = .ok (.if_icmp .ge 10, 3) := by decide +kernel
theorem dX2_answer_84 : decode cX2_answer 84 = .ok (.iconst 1, 1) := by decide +kernel
theorem dX2_answer_85 : decode cX2_answer 85 = .ok (.iload 6, 2) := by decide +kernel
theorem dX2_answer_87 : decode cX2_answer 87 = .ok (.ishl, 1) := by decide +kernel
theorem dX2_answer_88 : decode cX2_answer 88 = .ok (.goto 4, 3) := by decide +kernel
theorem dX2_answer_91 : decode cX2_answer 91 = .ok (.iconst 0, 1) := by decide +kernel
theorem dX2_answer_92 : decode cX2_answer 92 = .ok (.ior, 1) := by decide +kernel
theorem dX2_answer_93 : decode cX2_answer 93 = .ok (.istore 5, 2) := by decide +kernel
theorem dX2_answer_95 : decode cX2_answer 95 = .ok (.iinc 6 1, 3) := by decide +kernel
theorem dX2_answer_98 : decode cX2_answer 98 = .ok (.goto (-59), 3) := by decide +kernel
theorem dX2_answer_101 : decode cX2_answer 101 = .ok (.aload_n 0, 1) := by decide +kernel
theorem dX2_answer_102 : decode cX2_answer 102 = .ok (.iload_n 1, 1) := by decide +kernel
theorem dX2_answer_103 : decode cX2_answer 103 = .ok (.iload 4, 2) := by decide +kernel
theorem dX2_answer_105 : decode cX2_answer 105 = .ok (.iload_n 2, 1) := by decide +kernel
theorem dX2_answer_106 : decode cX2_answer 106 = .ok (.bipush 100, 2) := by decide +kernel
theorem dX2_answer_108 : decode cX2_answer 108 = .ok (.irem, 1) := by decide +kernel
theorem dX2_answer_109 : decode cX2_answer 109 = .ok (.iload_n 3, 1) := by decide +kernel
theorem dX2_answer_110 : decode cX2_answer 110 = .ok (.iload 5, 2) := by decide +kernel
theorem dX2_answer_112 : decode cX2_answer 112 = .ok (.invokevirtual 86, 3) := by decide +kernel
theorem dX2_answer_115 : decode cX2_answer 115 = .ok (.return_, 1) := by decide +kernel
theorem dX2_crashes_0 : decode cX2_crashes 0 = .ok (.aload_n 0, 1) := by decide +kernel
theorem dX2_crashes_1 : decode cX2_crashes 1 = .ok (.iload_n 1, 1) := by decide +kernel
theorem dX2_crashes_2 : decode cX2_crashes 2 = .ok (.invokevirtual 78, 3) := by decide +kernel
theorem dX2_crashes_5 : decode cX2_crashes 5 = .ok (.ifCond .ne 5, 3) := by decide +kernel
theorem dX2_crashes_8 : decode cX2_crashes 8 = .ok (.iconst (-1), 1) := by decide +kernel
theorem dX2_crashes_9 : decode cX2_crashes 9 = .ok (.ireturn, 1) := by decide +kernel
theorem dX2_crashes_10 : decode cX2_crashes 10 = .ok (.aload_n 0, 1) := by decide +kernel
theorem dX2_crashes_11 : decode cX2_crashes 11 = .ok (.iload_n 1, 1) := by decide +kernel
theorem dX2_crashes_12 : decode cX2_crashes 12 = .ok (.invokevirtual 96, 3) := by decide +kernel
theorem dX2_crashes_15 : decode cX2_crashes 15 = .ok (.ifCond .eq 6, 3) := by decide +kernel
theorem dX2_crashes_18 : decode cX2_crashes 18 = .ok (.bipush (-2), 2) := by decide +kernel
theorem dX2_crashes_20 : decode cX2_crashes 20 = .ok (.ireturn, 1) := by decide +kernel
theorem dX2_crashes_21 : decode cX2_crashes 21 = .ok (.aload_n 0, 1) := by decide +kernel
theorem dX2_crashes_22 : decode cX2_crashes 22 = .ok (.invokevirtual 72, 3) := by decide +kernel
theorem dX2_crashes_25 : decode cX2_crashes 25 = .ok (.aload_n 0, 1) := by decide +kernel
theorem dX2_crashes_26 : decode cX2_crashes 26 = .ok (.getfield 7, 3) := by decide +kernel
theorem dX2_crashes_29 : decode cX2_crashes 29 = .ok (.iconst 2, 1) := by decide +kernel
theorem dX2_crashes_30 : decode cX2_crashes 30 = .ok (.dup2, 1) := by decide +kernel
theorem dX2_crashes_31 : decode cX2_crashes 31 = .ok (.iaload, 1) := by decide +kernel
theorem dX2_crashes_32 : decode cX2_crashes 32 = .ok (.iconst 1, 1) := by decide +kernel
theorem dX2_crashes_33 : decode cX2_crashes 33 = .ok (.iload_n 1, 1) := by decide +kernel
theorem dX2_crashes_34 : decode cX2_crashes 34 = .ok (.ishl, 1) := by decide +kernel
theorem dX2_crashes_35 : decode cX2_crashes 35 = .ok (.ior, 1) := by decide +kernel
theorem dX2_crashes_36 : decode cX2_crashes 36 = .ok (.iastore, 1) := by decide +kernel
theorem dX2_crashes_37 : decode cX2_crashes 37 = .ok (.aload_n 0, 1) := by decide +kernel
theorem dX2_crashes_38 : decode cX2_crashes 38 = .ok (.getfield 7, 3) := by decide +kernel
theorem dX2_crashes_41 : decode cX2_crashes 41 = .ok (.bipush 103, 2) := by decide +kernel
theorem dX2_crashes_43 : decode cX2_crashes 43 = .ok (.iload_n 1, 1) := by decide +kernel
theorem dX2_crashes_44 : decode cX2_crashes 44 = .ok (.iadd, 1) := by decide +kernel
theorem dX2_crashes_45 : decode cX2_crashes 45 = .ok (.iconst 0, 1) := by decide +kernel
theorem dX2_crashes_46 : decode cX2_crashes 46 = .ok (.iastore, 1) := by decide +kernel
theorem dX2_crashes_47 : decode cX2_crashes 47 = .ok (.iconst 0, 1) := by decide +kernel
theorem dX2_crashes_48 : decode cX2_crashes 48 = .ok (.istore_n 2, 1) := by decide +kernel
theorem dX2_crashes_49 : decode cX2_crashes 49 = .ok (.iload_n 2, 1) := by decide +kernel
theorem dX2_crashes_50 : decode cX2_crashes 50 = .ok (.iconst 4, 1) := by decide +kernel
theorem dX2_crashes_51 : decode cX2_crashes 51 = .ok (.if_icmp .ge 23, 3) := by decide +kernel
theorem dX2_crashes_54 : decode cX2_crashes 54 = .ok (.aload_n 0, 1) := by decide +kernel
theorem dX2_crashes_55 : decode cX2_crashes 55 = .ok (.getfield 7, 3) := by decide +kernel
theorem dX2_crashes_58 : decode cX2_crashes 58 = .ok (.bipush 107, 2) := by decide +kernel
theorem dX2_crashes_60 : decode cX2_crashes 60 = .ok (.iconst 4, 1) := by decide +kernel
theorem dX2_crashes_61 : decode cX2_crashes 61 = .ok (.iload_n 1, 1) := by decide +kernel
theorem dX2_crashes_62 : decode cX2_crashes 62 = .ok (.imul, 1) := by decide +kernel
theorem dX2_crashes_63 : decode cX2_crashes 63 = .ok (.iadd, 1) := by decide +kernel
theorem dX2_crashes_64 : decode cX2_crashes 64 = .ok (.iload_n 2, 1) := by decide +kernel
theorem dX2_crashes_65 : decode cX2_crashes 65 = .ok (.iadd, 1) := by decide +kernel
theorem dX2_crashes_66 : decode cX2_crashes 66 = .ok (.iconst 0, 1) := by decide +kernel
theorem dX2_crashes_67 : decode cX2_crashes 67 = .ok (.iastore, 1) := by decide +kernel
theorem dX2_crashes_68 : decode cX2_crashes 68 = .ok (.iinc 2 1, 3) := by decide +kernel
theorem dX2_crashes_71 : decode cX2_crashes 71 = .ok (.goto (-22), 3) := by decide +kernel
theorem dX2_crashes_74 : decode cX2_crashes 74 = .ok (.aload_n 0, 1) := by decide +kernel
theorem dX2_crashes_75 : decode cX2_crashes 75 = .ok (.getfield 7, 3) := by decide +kernel
theorem dX2_crashes_78 : decode cX2_crashes 78 = .ok (.iconst 2, 1) := by decide +kernel
theorem dX2_crashes_79 : decode cX2_crashes 79 = .ok (.iaload, 1) := by decide +kernel
theorem dX2_crashes_80 : decode cX2_crashes 80 = .ok (.invokestatic 112, 3) := by decide +kernel
theorem dX2_crashes_83 : decode cX2_crashes 83 = .ok (.ireturn, 1) := by decide +kernel
theorem dX2_heldBut_0 : decode cX2_heldBut 0 = .ok (.iconst 0, 1) := by decide +kernel
theorem dX2_heldBut_1 : decode cX2_heldBut 1 = .ok (.istore_n 2, 1) := by decide +kernel
theorem dX2_heldBut_2 : decode cX2_heldBut 2 = .ok (.iconst 0, 1) := by decide +kernel
theorem dX2_heldBut_3 : decode cX2_heldBut 3 = .ok (.istore_n 3, 1) := by decide +kernel
theorem dX2_heldBut_4 : decode cX2_heldBut 4 = .ok (.iload_n 3, 1) := by decide +kernel
theorem dX2_heldBut_5 : decode cX2_heldBut 5 = .ok (.aload_n 0, 1) := by decide +kernel
theorem dX2_heldBut_6 : decode cX2_heldBut 6 = .ok (.invokevirtual 82, 3) := by decide +kernel
theorem dX2_heldBut_9 : decode cX2_heldBut 9 = .ok (.if_icmp .ge 33, 3) := by decide +kernel
theorem dX2_heldBut_12 : decode cX2_heldBut 12 = .ok (.iload_n 2, 1) := by decide +kernel
theorem dX2_heldBut_13 : decode cX2_heldBut 13 = .ok (.iload_n 1, 1) := by decide +kernel
theorem dX2_heldBut_14 : decode cX2_heldBut 14 = .ok (.iload_n 3, 1) := by decide +kernel
theorem dX2_heldBut_15 : decode cX2_heldBut 15 = .ok (.invokestatic 39, 3) := by decide +kernel
theorem dX2_heldBut_18 : decode cX2_heldBut 18 = .ok (.ifCond .eq 7, 3) := by decide +kernel
theorem dX2_heldBut_21 : decode cX2_heldBut 21 = .ok (.iconst 0, 1) := by decide +kernel
theorem dX2_heldBut_22 : decode cX2_heldBut 22 = .ok (.goto 12, 3) := by decide +kernel
theorem dX2_heldBut_25 : decode cX2_heldBut 25 = .ok (.aload_n 0, 1) := by decide +kernel
theorem dX2_heldBut_26 : decode cX2_heldBut 26 = .ok (.getfield 7, 3) := by decide +kernel
theorem dX2_heldBut_29 : decode cX2_heldBut 29 = .ok (.bipush 103, 2) := by decide +kernel
theorem dX2_heldBut_31 : decode cX2_heldBut 31 = .ok (.iload_n 3, 1) := by decide +kernel
theorem dX2_heldBut_32 : decode cX2_heldBut 32 = .ok (.iadd, 1) := by decide +kernel
theorem dX2_heldBut_33 : decode cX2_heldBut 33 = .ok (.iaload, 1) := by decide +kernel
theorem dX2_heldBut_34 : decode cX2_heldBut 34 = .ok (.ior, 1) := by decide +kernel
theorem dX2_heldBut_35 : decode cX2_heldBut 35 = .ok (.istore_n 2, 1) := by decide +kernel
theorem dX2_heldBut_36 : decode cX2_heldBut 36 = .ok (.iinc 3 1, 3) := by decide +kernel
theorem dX2_heldBut_39 : decode cX2_heldBut 39 = .ok (.goto (-35), 3) := by decide +kernel
theorem dX2_heldBut_42 : decode cX2_heldBut 42 = .ok (.iload_n 2, 1) := by decide +kernel
theorem dX2_heldBut_43 : decode cX2_heldBut 43 = .ok (.ireturn, 1) := by decide +kernel
theorem dX2_isKeptCode_0 : decode cX2_isKeptCode 0 = .ok (.iload_n 1, 1) := by decide +kernel
theorem dX2_isKeptCode_1 : decode cX2_isKeptCode 1 = .ok (.bipush (-9), 2) := by decide +kernel
theorem dX2_isKeptCode_3 : decode cX2_isKeptCode 3 = .ok (.if_icmp .eq 19, 3) := by decide +kernel
theorem dX2_isKeptCode_6 : decode cX2_isKeptCode 6 = .ok (.iload_n 1, 1) := by decide +kernel
theorem dX2_isKeptCode_7 : decode cX2_isKeptCode 7 = .ok (.bipush 8, 2) := by decide +kernel
theorem dX2_isKeptCode_9 : decode cX2_isKeptCode 9 = .ok (.irem, 1) := by decide +kernel
theorem dX2_isKeptCode_10 : decode cX2_isKeptCode 10 = .ok (.aload_n 0, 1) := by decide +kernel
theorem dX2_isKeptCode_11 : decode cX2_isKeptCode 11 = .ok (.getfield 29, 3) := by decide +kernel
theorem dX2_isKeptCode_14 : decode cX2_isKeptCode 14 = .ok (.iload_n 1, 1) := by decide +kernel
theorem dX2_isKeptCode_15 : decode cX2_isKeptCode 15 = .ok (.bipush 8, 2) := by decide +kernel
theorem dX2_isKeptCode_17 : decode cX2_isKeptCode 17 = .ok (.idiv, 1) := by decide +kernel
theorem dX2_isKeptCode_18 : decode cX2_isKeptCode 18 = .ok (.iaload, 1) := by decide +kernel
theorem dX2_isKeptCode_19 : decode cX2_isKeptCode 19 = .ok (.if_icmp .ge 7, 3) := by decide +kernel
theorem dX2_isKeptCode_22 : decode cX2_isKeptCode 22 = .ok (.iconst 1, 1) := by decide +kernel
theorem dX2_isKeptCode_23 : decode cX2_isKeptCode 23 = .ok (.goto 4, 3) := by decide +kernel
theorem dX2_isKeptCode_26 : decode cX2_isKeptCode 26 = .ok (.iconst 0, 1) := by decide +kernel
theorem dX2_isKeptCode_27 : decode cX2_isKeptCode 27 = .ok (.ireturn, 1) := by decide +kernel
theorem dX2_birthOf_0 : decode cX2_birthOf 0 = .ok (.aload_n 0, 1) := by decide +kernel
theorem dX2_birthOf_1 : decode cX2_birthOf 1 = .ok (.iload_n 1, 1) := by decide +kernel
theorem dX2_birthOf_2 : decode cX2_birthOf 2 = .ok (.iload_n 2, 1) := by decide +kernel
theorem dX2_birthOf_3 : decode cX2_birthOf 3 = .ok (.iconst 0, 1) := by decide +kernel
theorem dX2_birthOf_4 : decode cX2_birthOf 4 = .ok (.invokevirtual 51, 3) := by decide +kernel
theorem dX2_birthOf_7 : decode cX2_birthOf 7 = .ok (.istore_n 3, 1) := by decide +kernel
theorem dX2_birthOf_8 : decode cX2_birthOf 8 = .ok (.aload_n 0, 1) := by decide +kernel
theorem dX2_birthOf_9 : decode cX2_birthOf 9 = .ok (.getfield 7, 3) := by decide +kernel
theorem dX2_birthOf_12 : decode cX2_birthOf 12 = .ok (.iload_n 3, 1) := by decide +kernel
theorem dX2_birthOf_13 : decode cX2_birthOf 13 = .ok (.iload_n 1, 1) := by decide +kernel
theorem dX2_birthOf_14 : decode cX2_birthOf 14 = .ok (.aload_n 0, 1) := by decide +kernel
theorem dX2_birthOf_15 : decode cX2_birthOf 15 = .ok (.iload_n 1, 1) := by decide +kernel
theorem dX2_birthOf_16 : decode cX2_birthOf 16 = .ok (.iload_n 2, 1) := by decide +kernel
theorem dX2_birthOf_17 : decode cX2_birthOf 17 = .ok (.iconst 1, 1) := by decide +kernel
theorem dX2_birthOf_18 : decode cX2_birthOf 18 = .ok (.invokevirtual 51, 3) := by decide +kernel
theorem dX2_birthOf_21 : decode cX2_birthOf 21 = .ok (.invokestatic 65, 3) := by decide +kernel
theorem dX2_birthOf_24 : decode cX2_birthOf 24 = .ok (.iconst 1, 1) := by decide +kernel
theorem dX2_birthOf_25 : decode cX2_birthOf 25 = .ok (.iadd, 1) := by decide +kernel
theorem dX2_birthOf_26 : decode cX2_birthOf 26 = .ok (.iaload, 1) := by decide +kernel
theorem dX2_birthOf_27 : decode cX2_birthOf 27 = .ok (.ireturn, 1) := by decide +kernel
theorem dX2_findKept_0 : decode cX2_findKept 0 = .ok (.aload_n 0, 1) := by decide +kernel
theorem dX2_findKept_1 : decode cX2_findKept 1 = .ok (.iload_n 1, 1) := by decide +kernel
theorem dX2_findKept_2 : decode cX2_findKept 2 = .ok (.invokevirtual 115, 3) := by decide +kernel
theorem dX2_findKept_5 : decode cX2_findKept 5 = .ok (.istore_n 2, 1) := by decide +kernel
theorem dX2_findKept_6 : decode cX2_findKept 6 = .ok (.iconst 0, 1) := by decide +kernel
theorem dX2_findKept_7 : decode cX2_findKept 7 = .ok (.istore_n 3, 1) := by decide +kernel
theorem dX2_findKept_8 : decode cX2_findKept 8 = .ok (.iload_n 3, 1) := by decide +kernel
theorem dX2_findKept_9 : decode cX2_findKept 9 = .ok (.iconst 4, 1) := by decide +kernel
theorem dX2_findKept_10 : decode cX2_findKept 10 = .ok (.if_icmp .ge 66, 3) := by decide +kernel
theorem dX2_findKept_13 : decode cX2_findKept 13 = .ok (.iconst 0, 1) := by decide +kernel
theorem dX2_findKept_14 : decode cX2_findKept 14 = .ok (.istore 4, 2) := by decide +kernel
theorem dX2_findKept_16 : decode cX2_findKept 16 = .ok (.iload_n 3, 1) := by decide +kernel
theorem dX2_findKept_17 : decode cX2_findKept 17 = .ok (.aload_n 0, 1) := by decide +kernel
theorem dX2_findKept_18 : decode cX2_findKept 18 = .ok (.invokevirtual 82, 3) := by decide +kernel
theorem dX2_findKept_21 : decode cX2_findKept 21 = .ok (.if_icmp .ge 41, 3) := by decide +kernel
theorem dX2_findKept_24 : decode cX2_findKept 24 = .ok (.iload 4, 2) := by decide +kernel
theorem dX2_findKept_26 : decode cX2_findKept 26 = .ok (.aload_n 0, 1) := by decide +kernel
theorem dX2_findKept_27 : decode cX2_findKept 27 = .ok (.iload_n 3, 1) := by decide +kernel
theorem dX2_findKept_28 : decode cX2_findKept 28 = .ok (.invokevirtual 47, 3) := by decide +kernel
theorem dX2_findKept_31 : decode cX2_findKept 31 = .ok (.if_icmp .ge 31, 3) := by decide +kernel
theorem dX2_findKept_34 : decode cX2_findKept 34 = .ok (.iload_n 1, 1) := by decide +kernel
theorem dX2_findKept_35 : decode cX2_findKept 35 = .ok (.iload_n 3, 1) := by decide +kernel
theorem dX2_findKept_36 : decode cX2_findKept 36 = .ok (.invokestatic 39, 3) := by decide +kernel
theorem dX2_findKept_39 : decode cX2_findKept 39 = .ok (.ifCond .eq 17, 3) := by decide +kernel
theorem dX2_findKept_42 : decode cX2_findKept 42 = .ok (.iload_n 2, 1) := by decide +kernel
theorem dX2_findKept_43 : decode cX2_findKept 43 = .ok (.bipush 8, 2) := by decide +kernel
theorem dX2_findKept_45 : decode cX2_findKept 45 = .ok (.iload_n 3, 1) := by decide +kernel
theorem dX2_findKept_46 : decode cX2_findKept 46 = .ok (.imul, 1) := by decide +kernel
theorem dX2_findKept_47 : decode cX2_findKept 47 = .ok (.iload 4, 2) := by decide +kernel
theorem dX2_findKept_49 : decode cX2_findKept 49 = .ok (.iadd, 1) := by decide +kernel
theorem dX2_findKept_50 : decode cX2_findKept 50 = .ok (.invokestatic 39, 3) := by decide +kernel
theorem dX2_findKept_53 : decode cX2_findKept 53 = .ok (.ifCond .eq 9, 3) := by decide +kernel
theorem dX2_findKept_56 : decode cX2_findKept 56 = .ok (.iinc 4 1, 3) := by decide +kernel
theorem dX2_findKept_59 : decode cX2_findKept 59 = .ok (.goto (-43), 3) := by decide +kernel
theorem dX2_findKept_62 : decode cX2_findKept 62 = .ok (.aload_n 0, 1) := by decide +kernel
theorem dX2_findKept_63 : decode cX2_findKept 63 = .ok (.getfield 29, 3) := by decide +kernel
theorem dX2_findKept_66 : decode cX2_findKept 66 = .ok (.iload_n 3, 1) := by decide +kernel
theorem dX2_findKept_67 : decode cX2_findKept 67 = .ok (.iload 4, 2) := by decide +kernel
theorem dX2_findKept_69 : decode cX2_findKept 69 = .ok (.iastore, 1) := by decide +kernel
theorem dX2_findKept_70 : decode cX2_findKept 70 = .ok (.iinc 3 1, 3) := by decide +kernel
theorem dX2_findKept_73 : decode cX2_findKept 73 = .ok (.goto (-65), 3) := by decide +kernel
theorem dX2_findKept_76 : decode cX2_findKept 76 = .ok (.iconst 1, 1) := by decide +kernel
theorem dX2_findKept_77 : decode cX2_findKept 77 = .ok (.istore_n 3, 1) := by decide +kernel
theorem dX2_findKept_78 : decode cX2_findKept 78 = .ok (.iload_n 3, 1) := by decide +kernel
theorem dX2_findKept_79 : decode cX2_findKept 79 = .ok (.ifCond .eq 93, 3) := by decide +kernel
theorem dX2_findKept_82 : decode cX2_findKept 82 = .ok (.iconst 0, 1) := by decide +kernel
theorem dX2_findKept_83 : decode cX2_findKept 83 = .ok (.istore_n 3, 1) := by decide +kernel
theorem dX2_findKept_84 : decode cX2_findKept 84 = .ok (.iconst 0, 1) := by decide +kernel
theorem dX2_findKept_85 : decode cX2_findKept 85 = .ok (.istore 4, 2) := by decide +kernel
theorem dX2_findKept_87 : decode cX2_findKept 87 = .ok (.iload 4, 2) := by decide +kernel
theorem dX2_findKept_89 : decode cX2_findKept 89 = .ok (.aload_n 0, 1) := by decide +kernel
theorem dX2_findKept_90 : decode cX2_findKept 90 = .ok (.invokevirtual 82, 3) := by decide +kernel
theorem dX2_findKept_93 : decode cX2_findKept 93 = .ok (.if_icmp .ge 76, 3) := by decide +kernel
theorem dX2_findKept_96 : decode cX2_findKept 96 = .ok (.iconst 0, 1) := by decide +kernel
theorem dX2_findKept_97 : decode cX2_findKept 97 = .ok (.istore 5, 2) := by decide +kernel
theorem dX2_findKept_99 : decode cX2_findKept 99 = .ok (.iload 5, 2) := by decide +kernel
theorem dX2_findKept_101 : decode cX2_findKept 101 = .ok (.aload_n 0, 1) := by decide +kernel
theorem dX2_findKept_102 : decode cX2_findKept 102 = .ok (.getfield 29, 3) := by decide +kernel
theorem dX2_findKept_105 : decode cX2_findKept 105 = .ok (.iload 4, 2) := by decide +kernel
theorem dX2_findKept_107 : decode cX2_findKept 107 = .ok (.iaload, 1) := by decide +kernel
theorem dX2_findKept_108 : decode cX2_findKept 108 = .ok (.if_icmp .ge 24, 3) := by decide +kernel
theorem dX2_findKept_111 : decode cX2_findKept 111 = .ok (.aload_n 0, 1) := by decide +kernel
theorem dX2_findKept_112 : decode cX2_findKept 112 = .ok (.aload_n 0, 1) := by decide +kernel
theorem dX2_findKept_113 : decode cX2_findKept 113 = .ok (.iload 4, 2) := by decide +kernel
theorem dX2_findKept_115 : decode cX2_findKept 115 = .ok (.iload 5, 2) := by decide +kernel
theorem dX2_findKept_117 : decode cX2_findKept 117 = .ok (.invokevirtual 118, 3) := by decide +kernel
theorem dX2_findKept_120 : decode cX2_findKept 120 = .ok (.invokevirtual 121, 3) := by decide +kernel
theorem dX2_findKept_123 : decode cX2_findKept 123 = .ok (.ifCond .eq 9, 3) := by decide +kernel
theorem dX2_findKept_126 : decode cX2_findKept 126 = .ok (.iinc 5 1, 3) := by decide +kernel
theorem dX2_findKept_129 : decode cX2_findKept 129 = .ok (.goto (-30), 3) := by decide +kernel
theorem dX2_findKept_132 : decode cX2_findKept 132 = .ok (.iload_n 3, 1) := by decide +kernel
theorem dX2_findKept_133 : decode cX2_findKept 133 = .ok (.ifCond .ne 15, 3) := by decide +kernel
theorem dX2_findKept_136 : decode cX2_findKept 136 = .ok (.iload 5, 2) := by decide +kernel
theorem dX2_findKept_138 : decode cX2_findKept 138 = .ok (.aload_n 0, 1) := by decide +kernel
theorem dX2_findKept_139 : decode cX2_findKept 139 = .ok (.getfield 29, 3) := by decide +kernel
theorem dX2_findKept_142 : decode cX2_findKept 142 = .ok (.iload 4, 2) := by decide +kernel
theorem dX2_findKept_144 : decode cX2_findKept 144 = .ok (.iaload, 1) := by decide +kernel
theorem dX2_findKept_145 : decode cX2_findKept 145 = .ok (.if_icmp .ge 7, 3) := by decide +kernel
theorem dX2_findKept_148 : decode cX2_findKept 148 = .ok (.iconst 1, 1) := by decide +kernel
theorem dX2_findKept_149 : decode cX2_findKept 149 = .ok (.goto 4, 3) := by decide +kernel
theorem dX2_findKept_152 : decode cX2_findKept 152 = .ok (.iconst 0, 1) := by decide +kernel
theorem dX2_findKept_153 : decode cX2_findKept 153 = .ok (.istore_n 3, 1) := by decide +kernel
theorem dX2_findKept_154 : decode cX2_findKept 154 = .ok (.aload_n 0, 1) := by decide +kernel
theorem dX2_findKept_155 : decode cX2_findKept 155 = .ok (.getfield 29, 3) := by decide +kernel
theorem dX2_findKept_158 : decode cX2_findKept 158 = .ok (.iload 4, 2) := by decide +kernel
theorem dX2_findKept_160 : decode cX2_findKept 160 = .ok (.iload 5, 2) := by decide +kernel
theorem dX2_findKept_162 : decode cX2_findKept 162 = .ok (.iastore, 1) := by decide +kernel
theorem dX2_findKept_163 : decode cX2_findKept 163 = .ok (.iinc 4 1, 3) := by decide +kernel
theorem dX2_findKept_166 : decode cX2_findKept 166 = .ok (.goto (-79), 3) := by decide +kernel
theorem dX2_findKept_169 : decode cX2_findKept 169 = .ok (.goto (-91), 3) := by decide +kernel
theorem dX2_findKept_172 : decode cX2_findKept 172 = .ok (.return_, 1) := by decide +kernel
theorem dX2_lost_0 : decode cX2_lost 0 = .ok (.iconst 0, 1) := by decide +kernel
theorem dX2_lost_1 : decode cX2_lost 1 = .ok (.istore_n 1, 1) := by decide +kernel
theorem dX2_lost_2 : decode cX2_lost 2 = .ok (.iconst 0, 1) := by decide +kernel
theorem dX2_lost_3 : decode cX2_lost 3 = .ok (.istore_n 2, 1) := by decide +kernel
theorem dX2_lost_4 : decode cX2_lost 4 = .ok (.iload_n 2, 1) := by decide +kernel
theorem dX2_lost_5 : decode cX2_lost 5 = .ok (.aload_n 0, 1) := by decide +kernel
theorem dX2_lost_6 : decode cX2_lost 6 = .ok (.invokevirtual 82, 3) := by decide +kernel
theorem dX2_lost_9 : decode cX2_lost 9 = .ok (.if_icmp .ge 24, 3) := by decide +kernel
theorem dX2_lost_12 : decode cX2_lost 12 = .ok (.iload_n 1, 1) := by decide +kernel
theorem dX2_lost_13 : decode cX2_lost 13 = .ok (.aload_n 0, 1) := by decide +kernel
theorem dX2_lost_14 : decode cX2_lost 14 = .ok (.iload_n 2, 1) := by decide +kernel
theorem dX2_lost_15 : decode cX2_lost 15 = .ok (.invokevirtual 47, 3) := by decide +kernel
theorem dX2_lost_18 : decode cX2_lost 18 = .ok (.aload_n 0, 1) := by decide +kernel
theorem dX2_lost_19 : decode cX2_lost 19 = .ok (.getfield 29, 3) := by decide +kernel
theorem dX2_lost_22 : decode cX2_lost 22 = .ok (.iload_n 2, 1) := by decide +kernel
theorem dX2_lost_23 : decode cX2_lost 23 = .ok (.iaload, 1) := by decide +kernel
theorem dX2_lost_24 : decode cX2_lost 24 = .ok (.isub, 1) := by decide +kernel
theorem dX2_lost_25 : decode cX2_lost 25 = .ok (.iadd, 1) := by decide +kernel
theorem dX2_lost_26 : decode cX2_lost 26 = .ok (.istore_n 1, 1) := by decide +kernel
theorem dX2_lost_27 : decode cX2_lost 27 = .ok (.iinc 2 1, 3) := by decide +kernel
theorem dX2_lost_30 : decode cX2_lost 30 = .ok (.goto (-26), 3) := by decide +kernel
theorem dX2_lost_33 : decode cX2_lost 33 = .ok (.iload_n 1, 1) := by decide +kernel
theorem dX2_lost_34 : decode cX2_lost 34 = .ok (.ireturn, 1) := by decide +kernel
theorem dX2_orphans_0 : decode cX2_orphans 0 = .ok (.iconst 0, 1) := by decide +kernel
theorem dX2_orphans_1 : decode cX2_orphans 1 = .ok (.istore_n 2, 1) := by decide +kernel
theorem dX2_orphans_2 : decode cX2_orphans 2 = .ok (.iconst 0, 1) := by decide +kernel
theorem dX2_orphans_3 : decode cX2_orphans 3 = .ok (.istore_n 3, 1) := by decide +kernel
theorem dX2_orphans_4 : decode cX2_orphans 4 = .ok (.iload_n 3, 1) := by decide +kernel
theorem dX2_orphans_5 : decode cX2_orphans 5 = .ok (.aload_n 0, 1) := by decide +kernel
theorem dX2_orphans_6 : decode cX2_orphans 6 = .ok (.invokevirtual 82, 3) := by decide +kernel
theorem dX2_orphans_9 : decode cX2_orphans 9 = .ok (.if_icmp .ge 39, 3) := by decide +kernel
theorem dX2_orphans_12 : decode cX2_orphans 12 = .ok (.iload_n 2, 1) := by decide +kernel
theorem dX2_orphans_13 : decode cX2_orphans 13 = .ok (.iload_n 1, 1) := by decide +kernel
theorem dX2_orphans_14 : decode cX2_orphans 14 = .ok (.iload_n 3, 1) := by decide +kernel
theorem dX2_orphans_15 : decode cX2_orphans 15 = .ok (.invokestatic 39, 3) := by decide +kernel
theorem dX2_orphans_18 : decode cX2_orphans 18 = .ok (.ifCond .ne 21, 3) := by decide +kernel
theorem dX2_orphans_21 : decode cX2_orphans 21 = .ok (.aload_n 0, 1) := by decide +kernel
theorem dX2_orphans_22 : decode cX2_orphans 22 = .ok (.getfield 29, 3) := by decide +kernel
theorem dX2_orphans_25 : decode cX2_orphans 25 = .ok (.iload_n 3, 1) := by decide +kernel
theorem dX2_orphans_26 : decode cX2_orphans 26 = .ok (.iaload, 1) := by decide +kernel
theorem dX2_orphans_27 : decode cX2_orphans 27 = .ok (.aload_n 0, 1) := by decide +kernel
theorem dX2_orphans_28 : decode cX2_orphans 28 = .ok (.iload_n 3, 1) := by decide +kernel
theorem dX2_orphans_29 : decode cX2_orphans 29 = .ok (.invokevirtual 47, 3) := by decide +kernel
theorem dX2_orphans_32 : decode cX2_orphans 32 = .ok (.if_icmp .ge 7, 3) := by decide +kernel
theorem dX2_orphans_35 : decode cX2_orphans 35 = .ok (.iconst 1, 1) := by decide +kernel
theorem dX2_orphans_36 : decode cX2_orphans 36 = .ok (.goto 4, 3) := by decide +kernel
theorem dX2_orphans_39 : decode cX2_orphans 39 = .ok (.iconst 0, 1) := by decide +kernel
theorem dX2_orphans_40 : decode cX2_orphans 40 = .ok (.iadd, 1) := by decide +kernel
theorem dX2_orphans_41 : decode cX2_orphans 41 = .ok (.istore_n 2, 1) := by decide +kernel
theorem dX2_orphans_42 : decode cX2_orphans 42 = .ok (.iinc 3 1, 3) := by decide +kernel
theorem dX2_orphans_45 : decode cX2_orphans 45 = .ok (.goto (-41), 3) := by decide +kernel
theorem dX2_orphans_48 : decode cX2_orphans 48 = .ok (.iload_n 2, 1) := by decide +kernel
theorem dX2_orphans_49 : decode cX2_orphans 49 = .ok (.ireturn, 1) := by decide +kernel
theorem dX2_codesKept_0 : decode cX2_codesKept 0 = .ok (.iconst 0, 1) := by decide +kernel
theorem dX2_codesKept_1 : decode cX2_codesKept 1 = .ok (.istore_n 1, 1) := by decide +kernel
theorem dX2_codesKept_2 : decode cX2_codesKept 2 = .ok (.iconst 0, 1) := by decide +kernel
theorem dX2_codesKept_3 : decode cX2_codesKept 3 = .ok (.istore_n 2, 1) := by decide +kernel
theorem dX2_codesKept_4 : decode cX2_codesKept 4 = .ok (.iload_n 2, 1) := by decide +kernel
theorem dX2_codesKept_5 : decode cX2_codesKept 5 = .ok (.aload_n 0, 1) := by decide +kernel
theorem dX2_codesKept_6 : decode cX2_codesKept 6 = .ok (.invokevirtual 82, 3) := by decide +kernel
theorem dX2_codesKept_9 : decode cX2_codesKept 9 = .ok (.if_icmp .ge 38, 3) := by decide +kernel
theorem dX2_codesKept_12 : decode cX2_codesKept 12 = .ok (.iconst 0, 1) := by decide +kernel
theorem dX2_codesKept_13 : decode cX2_codesKept 13 = .ok (.istore_n 3, 1) := by decide +kernel
theorem dX2_codesKept_14 : decode cX2_codesKept 14 = .ok (.iload_n 3, 1) := by decide +kernel
theorem dX2_codesKept_15 : decode cX2_codesKept 15 = .ok (.aload_n 0, 1) := by decide +kernel
theorem dX2_codesKept_16 : decode cX2_codesKept 16 = .ok (.getfield 29, 3) := by decide +kernel
theorem dX2_codesKept_19 : decode cX2_codesKept 19 = .ok (.iload_n 2, 1) := by decide +kernel
theorem dX2_codesKept_20 : decode cX2_codesKept 20 = .ok (.iaload, 1) := by decide +kernel
theorem dX2_codesKept_21 : decode cX2_codesKept 21 = .ok (.if_icmp .ge 20, 3) := by decide +kernel
theorem dX2_codesKept_24 : decode cX2_codesKept 24 = .ok (.iload_n 1, 1) := by decide +kernel
theorem dX2_codesKept_25 : decode cX2_codesKept 25 = .ok (.iconst 1, 1) := by decide +kernel
theorem dX2_codesKept_26 : decode cX2_codesKept 26 = .ok (.bipush 8, 2) := by decide +kernel
theorem dX2_codesKept_28 : decode cX2_codesKept 28 = .ok (.iload_n 2, 1) := by decide +kernel
theorem dX2_codesKept_29 : decode cX2_codesKept 29 = .ok (.imul, 1) := by decide +kernel
theorem dX2_codesKept_30 : decode cX2_codesKept 30 = .ok (.iload_n 3, 1) := by decide +kernel
theorem dX2_codesKept_31 : decode cX2_codesKept 31 = .ok (.iadd, 1) := by decide +kernel
theorem dX2_codesKept_32 : decode cX2_codesKept 32 = .ok (.ishl, 1) := by decide +kernel
theorem dX2_codesKept_33 : decode cX2_codesKept 33 = .ok (.ior, 1) := by decide +kernel
theorem dX2_codesKept_34 : decode cX2_codesKept 34 = .ok (.istore_n 1, 1) := by decide +kernel
theorem dX2_codesKept_35 : decode cX2_codesKept 35 = .ok (.iinc 3 1, 3) := by decide +kernel
theorem dX2_codesKept_38 : decode cX2_codesKept 38 = .ok (.goto (-24), 3) := by decide +kernel
theorem dX2_codesKept_41 : decode cX2_codesKept 41 = .ok (.iinc 2 1, 3) := by decide +kernel
theorem dX2_codesKept_44 : decode cX2_codesKept 44 = .ok (.goto (-40), 3) := by decide +kernel
theorem dX2_codesKept_47 : decode cX2_codesKept 47 = .ok (.iload_n 1, 1) := by decide +kernel
theorem dX2_codesKept_48 : decode cX2_codesKept 48 = .ok (.ireturn, 1) := by decide +kernel
theorem dX2_dropLetters_0 : decode cX2_dropLetters 0 = .ok (.iconst 0, 1) := by decide +kernel
theorem dX2_dropLetters_1 : decode cX2_dropLetters 1 = .ok (.istore_n 2, 1) := by decide +kernel
theorem dX2_dropLetters_2 : decode cX2_dropLetters 2 = .ok (.iload_n 2, 1) := by decide +kernel
theorem dX2_dropLetters_3 : decode cX2_dropLetters 3 = .ok (.aload_n 0, 1) := by decide +kernel
theorem dX2_dropLetters_4 : decode cX2_dropLetters 4 = .ok (.invokevirtual 82, 3) := by decide +kernel
theorem dX2_dropLetters_7 : decode cX2_dropLetters 7 = .ok (.if_icmp .ge 99, 3) := by decide +kernel
theorem dX2_dropLetters_10 : decode cX2_dropLetters 10 = .ok (.iconst 0, 1) := by decide +kernel
theorem dX2_dropLetters_11 : decode cX2_dropLetters 11 = .ok (.istore_n 3, 1) := by decide +kernel
theorem dX2_dropLetters_12 : decode cX2_dropLetters 12 = .ok (.iload_n 3, 1) := by decide +kernel
theorem dX2_dropLetters_13 : decode cX2_dropLetters 13 = .ok (.aload_n 0, 1) := by decide +kernel
theorem dX2_dropLetters_14 : decode cX2_dropLetters 14 = .ok (.invokevirtual 82, 3) := by decide +kernel
theorem dX2_dropLetters_17 : decode cX2_dropLetters 17 = .ok (.if_icmp .ge 83, 3) := by decide +kernel
theorem dX2_dropLetters_20 : decode cX2_dropLetters 20 = .ok (.iconst 0, 1) := by decide +kernel
theorem dX2_dropLetters_21 : decode cX2_dropLetters 21 = .ok (.istore 4, 2) := by decide +kernel
theorem dX2_dropLetters_23 : decode cX2_dropLetters 23 = .ok (.iload 4, 2) := by decide +kernel
theorem dX2_dropLetters_25 : decode cX2_dropLetters 25 = .ok (.aload_n 0, 1) := by decide +kernel
theorem dX2_dropLetters_26 : decode cX2_dropLetters 26 = .ok (.iload_n 2, 1) := by decide +kernel
theorem dX2_dropLetters_27 : decode cX2_dropLetters 27 = .ok (.iload_n 3, 1) := by decide +kernel
theorem dX2_dropLetters_28 : decode cX2_dropLetters 28 = .ok (.invokevirtual 62, 3) := by decide +kernel
theorem dX2_dropLetters_31 : decode cX2_dropLetters 31 = .ok (.if_icmp .ge 48, 3) := by decide +kernel
theorem dX2_dropLetters_34 : decode cX2_dropLetters 34 = .ok (.aload_n 0, 1) := by decide +kernel
theorem dX2_dropLetters_35 : decode cX2_dropLetters 35 = .ok (.aload_n 0, 1) := by decide +kernel
theorem dX2_dropLetters_36 : decode cX2_dropLetters 36 = .ok (.getfield 7, 3) := by decide +kernel
theorem dX2_dropLetters_39 : decode cX2_dropLetters 39 = .ok (.iload_n 2, 1) := by decide +kernel
theorem dX2_dropLetters_40 : decode cX2_dropLetters 40 = .ok (.iload_n 3, 1) := by decide +kernel
theorem dX2_dropLetters_41 : decode cX2_dropLetters 41 = .ok (.iload 4, 2) := by decide +kernel
theorem dX2_dropLetters_43 : decode cX2_dropLetters 43 = .ok (.invokestatic 65, 3) := by decide +kernel
theorem dX2_dropLetters_46 : decode cX2_dropLetters 46 = .ok (.iconst 1, 1) := by decide +kernel
theorem dX2_dropLetters_47 : decode cX2_dropLetters 47 = .ok (.iadd, 1) := by decide +kernel
theorem dX2_dropLetters_48 : decode cX2_dropLetters 48 = .ok (.iaload, 1) := by decide +kernel
theorem dX2_dropLetters_49 : decode cX2_dropLetters 49 = .ok (.invokevirtual 121, 3) := by decide +kernel
theorem dX2_dropLetters_52 : decode cX2_dropLetters 52 = .ok (.ifCond .eq 27, 3) := by decide +kernel
theorem dX2_dropLetters_55 : decode cX2_dropLetters 55 = .ok (.aload_n 0, 1) := by decide +kernel
theorem dX2_dropLetters_56 : decode cX2_dropLetters 56 = .ok (.getfield 7, 3) := by decide +kernel
theorem dX2_dropLetters_59 : decode cX2_dropLetters 59 = .ok (.iload_n 2, 1) := by decide +kernel
theorem dX2_dropLetters_60 : decode cX2_dropLetters 60 = .ok (.iload_n 3, 1) := by decide +kernel
theorem dX2_dropLetters_61 : decode cX2_dropLetters 61 = .ok (.iload 4, 2) := by decide +kernel
theorem dX2_dropLetters_63 : decode cX2_dropLetters 63 = .ok (.invokestatic 65, 3) := by decide +kernel
theorem dX2_dropLetters_66 : decode cX2_dropLetters 66 = .ok (.iconst 2, 1) := by decide +kernel
theorem dX2_dropLetters_67 : decode cX2_dropLetters 67 = .ok (.iadd, 1) := by decide +kernel
theorem dX2_dropLetters_68 : decode cX2_dropLetters 68 = .ok (.dup2, 1) := by decide +kernel
theorem dX2_dropLetters_69 : decode cX2_dropLetters 69 = .ok (.iaload, 1) := by decide +kernel
theorem dX2_dropLetters_70 : decode cX2_dropLetters 70 = .ok (.iload_n 1, 1) := by decide +kernel
theorem dX2_dropLetters_71 : decode cX2_dropLetters 71 = .ok (.iand, 1) := by decide +kernel
theorem dX2_dropLetters_72 : decode cX2_dropLetters 72 = .ok (.iastore, 1) := by decide +kernel
theorem dX2_dropLetters_73 : decode cX2_dropLetters 73 = .ok (.iinc 4 1, 3) := by decide +kernel
theorem dX2_dropLetters_76 : decode cX2_dropLetters 76 = .ok (.goto (-53), 3) := by decide +kernel
theorem dX2_dropLetters_79 : decode cX2_dropLetters 79 = .ok (.aload_n 0, 1) := by decide +kernel
theorem dX2_dropLetters_80 : decode cX2_dropLetters 80 = .ok (.getfield 7, 3) := by decide +kernel
theorem dX2_dropLetters_83 : decode cX2_dropLetters 83 = .ok (.bipush 123, 2) := by decide +kernel
theorem dX2_dropLetters_85 : decode cX2_dropLetters 85 = .ok (.iload_n 2, 1) := by decide +kernel
theorem dX2_dropLetters_86 : decode cX2_dropLetters 86 = .ok (.iload_n 3, 1) := by decide +kernel
theorem dX2_dropLetters_87 : decode cX2_dropLetters 87 = .ok (.invokestatic 55, 3) := by decide +kernel
theorem dX2_dropLetters_90 : decode cX2_dropLetters 90 = .ok (.iadd, 1) := by decide +kernel
theorem dX2_dropLetters_91 : decode cX2_dropLetters 91 = .ok (.iload 4, 2) := by decide +kernel
theorem dX2_dropLetters_93 : decode cX2_dropLetters 93 = .ok (.iastore, 1) := by decide +kernel
theorem dX2_dropLetters_94 : decode cX2_dropLetters 94 = .ok (.iinc 3 1, 3) := by decide +kernel
theorem dX2_dropLetters_97 : decode cX2_dropLetters 97 = .ok (.goto (-85), 3) := by decide +kernel
theorem dX2_dropLetters_100 : decode cX2_dropLetters 100 = .ok (.iinc 2 1, 3) := by decide +kernel
theorem dX2_dropLetters_103 : decode cX2_dropLetters 103 = .ok (.goto (-101), 3) := by decide +kernel
theorem dX2_dropLetters_106 : decode cX2_dropLetters 106 = .ok (.return_, 1) := by decide +kernel
theorem dX2_raises_0 : decode cX2_raises 0 = .ok (.aload_n 0, 1) := by decide +kernel
theorem dX2_raises_1 : decode cX2_raises 1 = .ok (.getfield 7, 3) := by decide +kernel
theorem dX2_raises_4 : decode cX2_raises 4 = .ok (.iconst 2, 1) := by decide +kernel
theorem dX2_raises_5 : decode cX2_raises 5 = .ok (.iaload, 1) := by decide +kernel
theorem dX2_raises_6 : decode cX2_raises 6 = .ok (.ifCond .ne 6, 3) := by decide +kernel
theorem dX2_raises_9 : decode cX2_raises 9 = .ok (.bipush (-2), 2) := by decide +kernel
theorem dX2_raises_11 : decode cX2_raises 11 = .ok (.ireturn, 1) := by decide +kernel
theorem dX2_raises_12 : decode cX2_raises 12 = .ok (.aload_n 0, 1) := by decide +kernel
theorem dX2_raises_13 : decode cX2_raises 13 = .ok (.invokevirtual 72, 3) := by decide +kernel
theorem dX2_raises_16 : decode cX2_raises 16 = .ok (.aload_n 0, 1) := by decide +kernel
theorem dX2_raises_17 : decode cX2_raises 17 = .ok (.getfield 7, 3) := by decide +kernel
theorem dX2_raises_20 : decode cX2_raises 20 = .ok (.iconst 2, 1) := by decide +kernel
theorem dX2_raises_21 : decode cX2_raises 21 = .ok (.iaload, 1) := by decide +kernel
theorem dX2_raises_22 : decode cX2_raises 22 = .ok (.istore_n 1, 1) := by decide +kernel
theorem dX2_raises_23 : decode cX2_raises 23 = .ok (.aload_n 0, 1) := by decide +kernel
theorem dX2_raises_24 : decode cX2_raises 24 = .ok (.iload_n 1, 1) := by decide +kernel
theorem dX2_raises_25 : decode cX2_raises 25 = .ok (.invokevirtual 124, 3) := by decide +kernel
theorem dX2_raises_28 : decode cX2_raises 28 = .ok (.aload_n 0, 1) := by decide +kernel
theorem dX2_raises_29 : decode cX2_raises 29 = .ok (.invokevirtual 128, 3) := by decide +kernel
theorem dX2_raises_32 : decode cX2_raises 32 = .ok (.istore_n 2, 1) := by decide +kernel
theorem dX2_raises_33 : decode cX2_raises 33 = .ok (.aload_n 0, 1) := by decide +kernel
theorem dX2_raises_34 : decode cX2_raises 34 = .ok (.invokevirtual 131, 3) := by decide +kernel
theorem dX2_raises_37 : decode cX2_raises 37 = .ok (.istore_n 3, 1) := by decide +kernel
theorem dX2_raises_38 : decode cX2_raises 38 = .ok (.aload_n 0, 1) := by decide +kernel
theorem dX2_raises_39 : decode cX2_raises 39 = .ok (.iload_n 1, 1) := by decide +kernel
theorem dX2_raises_40 : decode cX2_raises 40 = .ok (.invokevirtual 115, 3) := by decide +kernel
theorem dX2_raises_43 : decode cX2_raises 43 = .ok (.iload_n 3, 1) := by decide +kernel
theorem dX2_raises_44 : decode cX2_raises 44 = .ok (.iand, 1) := by decide +kernel
theorem dX2_raises_45 : decode cX2_raises 45 = .ok (.istore 4, 2) := by decide +kernel
theorem dX2_raises_47 : decode cX2_raises 47 = .ok (.aload_n 0, 1) := by decide +kernel
theorem dX2_raises_48 : decode cX2_raises 48 = .ok (.iload_n 3, 1) := by decide +kernel
theorem dX2_raises_49 : decode cX2_raises 49 = .ok (.invokevirtual 134, 3) := by decide +kernel
theorem dX2_raises_52 : decode cX2_raises 52 = .ok (.iconst 0, 1) := by decide +kernel
theorem dX2_raises_53 : decode cX2_raises 53 = .ok (.istore 5, 2) := by decide +kernel
theorem dX2_raises_55 : decode cX2_raises 55 = .ok (.iload 5, 2) := by decide +kernel
theorem dX2_raises_57 : decode cX2_raises 57 = .ok (.aload_n 0, 1) := by decide +kernel
theorem dX2_raises_58 : decode cX2_raises 58 = .ok (.invokevirtual 82, 3) := by decide +kernel
theorem dX2_raises_61 : decode cX2_raises 61 = .ok (.if_icmp .ge 77, 3) := by decide +kernel
theorem dX2_raises_64 : decode cX2_raises 64 = .ok (.aload_n 0, 1) := by decide +kernel
theorem dX2_raises_65 : decode cX2_raises 65 = .ok (.getfield 7, 3) := by decide +kernel
theorem dX2_raises_68 : decode cX2_raises 68 = .ok (.iconst 3, 1) := by decide +kernel
theorem dX2_raises_69 : decode cX2_raises 69 = .ok (.iload 5, 2) := by decide +kernel
theorem dX2_raises_71 : decode cX2_raises 71 = .ok (.iadd, 1) := by decide +kernel
theorem dX2_raises_72 : decode cX2_raises 72 = .ok (.aload_n 0, 1) := by decide +kernel
theorem dX2_raises_73 : decode cX2_raises 73 = .ok (.getfield 29, 3) := by decide +kernel
theorem dX2_raises_76 : decode cX2_raises 76 = .ok (.iload 5, 2) := by decide +kernel
theorem dX2_raises_78 : decode cX2_raises 78 = .ok (.iaload, 1) := by decide +kernel
theorem dX2_raises_79 : decode cX2_raises 79 = .ok (.iastore, 1) := by decide +kernel
theorem dX2_raises_80 : decode cX2_raises 80 = .ok (.iconst 0, 1) := by decide +kernel
theorem dX2_raises_81 : decode cX2_raises 81 = .ok (.istore 6, 2) := by decide +kernel
theorem dX2_raises_83 : decode cX2_raises 83 = .ok (.iload 6, 2) := by decide +kernel
theorem dX2_raises_85 : decode cX2_raises 85 = .ok (.bipush 32, 2) := by decide +kernel
theorem dX2_raises_87 : decode cX2_raises 87 = .ok (.if_icmp .ge 45, 3) := by decide +kernel
theorem dX2_raises_90 : decode cX2_raises 90 = .ok (.aload_n 0, 1) := by decide +kernel
theorem dX2_raises_91 : decode cX2_raises 91 = .ok (.getfield 7, 3) := by decide +kernel
theorem dX2_raises_94 : decode cX2_raises 94 = .ok (.bipush 103, 2) := by decide +kernel
theorem dX2_raises_96 : decode cX2_raises 96 = .ok (.iload 5, 2) := by decide +kernel
theorem dX2_raises_98 : decode cX2_raises 98 = .ok (.iadd, 1) := by decide +kernel
theorem dX2_raises_99 : decode cX2_raises 99 = .ok (.iaload, 1) := by decide +kernel
theorem dX2_raises_100 : decode cX2_raises 100 = .ok (.iload 6, 2) := by decide +kernel
theorem dX2_raises_102 : decode cX2_raises 102 = .ok (.invokestatic 39, 3) := by decide +kernel
theorem dX2_raises_105 : decode cX2_raises 105 = .ok (.ifCond .eq 21, 3) := by decide +kernel
theorem dX2_raises_108 : decode cX2_raises 108 = .ok (.iload_n 3, 1) := by decide +kernel
theorem dX2_raises_109 : decode cX2_raises 109 = .ok (.iload 6, 2) := by decide +kernel
theorem dX2_raises_111 : decode cX2_raises 111 = .ok (.invokestatic 39, 3) := by decide +kernel
theorem dX2_raises_114 : decode cX2_raises 114 = .ok (.ifCond .ne 12, 3) := by decide +kernel
theorem dX2_raises_117 : decode cX2_raises 117 = .ok (.aload_n 0, 1) := by decide +kernel
theorem dX2_raises_118 : decode cX2_raises 118 = .ok (.iload 5, 2) := by decide +kernel
theorem dX2_raises_120 : decode cX2_raises 120 = .ok (.iload 6, 2) := by decide +kernel
theorem dX2_raises_122 : decode cX2_raises 122 = .ok (.iconst 0, 1) := by decide +kernel
theorem dX2_raises_123 : decode cX2_raises 123 = .ok (.invokevirtual 102, 3) := by decide +kernel
theorem dX2_raises_126 : decode cX2_raises 126 = .ok (.iinc 6 1, 3) := by decide +kernel
theorem dX2_raises_129 : decode cX2_raises 129 = .ok (.goto (-46), 3) := by decide +kernel
theorem dX2_raises_132 : decode cX2_raises 132 = .ok (.iinc 5 1, 3) := by decide +kernel
theorem dX2_raises_135 : decode cX2_raises 135 = .ok (.goto (-80), 3) := by decide +kernel
theorem dX2_raises_138 : decode cX2_raises 138 = .ok (.aload_n 0, 1) := by decide +kernel
theorem dX2_raises_139 : decode cX2_raises 139 = .ok (.iload_n 1, 1) := by decide +kernel
theorem dX2_raises_140 : decode cX2_raises 140 = .ok (.iload 4, 2) := by decide +kernel
theorem dX2_raises_142 : decode cX2_raises 142 = .ok (.invokevirtual 137, 3) := by decide +kernel
theorem dX2_raises_145 : decode cX2_raises 145 = .ok (.aload_n 0, 1) := by decide +kernel
theorem dX2_raises_146 : decode cX2_raises 146 = .ok (.getfield 7, 3) := by decide +kernel
theorem dX2_raises_149 : decode cX2_raises 149 = .ok (.iconst 2, 1) := by decide +kernel
theorem dX2_raises_150 : decode cX2_raises 150 = .ok (.iconst 0, 1) := by decide +kernel
theorem dX2_raises_151 : decode cX2_raises 151 = .ok (.iastore, 1) := by decide +kernel
theorem dX2_raises_152 : decode cX2_raises 152 = .ok (.iload_n 2, 1) := by decide +kernel
theorem dX2_raises_153 : decode cX2_raises 153 = .ok (.ireturn, 1) := by decide +kernel
theorem dX2_raiseAll_0 : decode cX2_raiseAll 0 = .ok (.iconst 0, 1) := by decide +kernel
theorem dX2_raiseAll_1 : decode cX2_raiseAll 1 = .ok (.istore_n 3, 1) := by decide +kernel
theorem dX2_raiseAll_2 : decode cX2_raiseAll 2 = .ok (.iload_n 3, 1) := by decide +kernel
theorem dX2_raiseAll_3 : decode cX2_raiseAll 3 = .ok (.bipush 32, 2) := by decide +kernel
theorem dX2_raiseAll_5 : decode cX2_raiseAll 5 = .ok (.if_icmp .ge 104, 3) := by decide +kernel
theorem dX2_raiseAll_8 : decode cX2_raiseAll 8 = .ok (.iload_n 1, 1) := by decide +kernel
theorem dX2_raiseAll_9 : decode cX2_raiseAll 9 = .ok (.istore 4, 2) := by decide +kernel
theorem dX2_raiseAll_11 : decode cX2_raiseAll 11 = .ok (.iconst 0, 1) := by decide +kernel
theorem dX2_raiseAll_12 : decode cX2_raiseAll 12 = .ok (.istore 5, 2) := by decide +kernel
theorem dX2_raiseAll_14 : decode cX2_raiseAll 14 = .ok (.iload 5, 2) := by decide +kernel
theorem dX2_raiseAll_16 : decode cX2_raiseAll 16 = .ok (.aload_n 0, 1) := by decide +kernel
theorem dX2_raiseAll_17 : decode cX2_raiseAll 17 = .ok (.invokevirtual 82, 3) := by decide +kernel
theorem dX2_raiseAll_20 : decode cX2_raiseAll 20 = .ok (.if_icmp .ge 39, 3) := by decide +kernel
theorem dX2_raiseAll_23 : decode cX2_raiseAll 23 = .ok (.iload 4, 2) := by decide +kernel
theorem dX2_raiseAll_25 : decode cX2_raiseAll 25 = .ok (.aload_n 0, 1) := by decide +kernel
theorem dX2_raiseAll_26 : decode cX2_raiseAll 26 = .ok (.getfield 7, 3) := by decide +kernel
theorem dX2_raiseAll_29 : decode cX2_raiseAll 29 = .ok (.bipush 103, 2) := by decide +kernel
theorem dX2_raiseAll_31 : decode cX2_raiseAll 31 = .ok (.iload 5, 2) := by decide +kernel
theorem dX2_raiseAll_33 : decode cX2_raiseAll 33 = .ok (.iadd, 1) := by decide +kernel
theorem dX2_raiseAll_34 : decode cX2_raiseAll 34 = .ok (.iaload, 1) := by decide +kernel
theorem dX2_raiseAll_35 : decode cX2_raiseAll 35 = .ok (.iload_n 3, 1) := by decide +kernel
theorem dX2_raiseAll_36 : decode cX2_raiseAll 36 = .ok (.invokestatic 39, 3) := by decide +kernel
theorem dX2_raiseAll_39 : decode cX2_raiseAll 39 = .ok (.ifCond .eq 10, 3) := by decide +kernel
theorem dX2_raiseAll_42 : decode cX2_raiseAll 42 = .ok (.iconst 1, 1) := by decide +kernel
theorem dX2_raiseAll_43 : decode cX2_raiseAll 43 = .ok (.iload 5, 2) := by decide +kernel
theorem dX2_raiseAll_45 : decode cX2_raiseAll 45 = .ok (.ishl, 1) := by decide +kernel
theorem dX2_raiseAll_46 : decode cX2_raiseAll 46 = .ok (.goto 4, 3) := by decide +kernel
theorem dX2_raiseAll_49 : decode cX2_raiseAll 49 = .ok (.iconst 0, 1) := by decide +kernel
theorem dX2_raiseAll_50 : decode cX2_raiseAll 50 = .ok (.ior, 1) := by decide +kernel
theorem dX2_raiseAll_51 : decode cX2_raiseAll 51 = .ok (.istore 4, 2) := by decide +kernel
theorem dX2_raiseAll_53 : decode cX2_raiseAll 53 = .ok (.iinc 5 1, 3) := by decide +kernel
theorem dX2_raiseAll_56 : decode cX2_raiseAll 56 = .ok (.goto (-42), 3) := by decide +kernel
theorem dX2_raiseAll_59 : decode cX2_raiseAll 59 = .ok (.iconst 0, 1) := by decide +kernel
theorem dX2_raiseAll_60 : decode cX2_raiseAll 60 = .ok (.istore 5, 2) := by decide +kernel
theorem dX2_raiseAll_62 : decode cX2_raiseAll 62 = .ok (.iload 5, 2) := by decide +kernel
theorem dX2_raiseAll_64 : decode cX2_raiseAll 64 = .ok (.aload_n 0, 1) := by decide +kernel
theorem dX2_raiseAll_65 : decode cX2_raiseAll 65 = .ok (.invokevirtual 82, 3) := by decide +kernel
theorem dX2_raiseAll_68 : decode cX2_raiseAll 68 = .ok (.if_icmp .ge 35, 3) := by decide +kernel
theorem dX2_raiseAll_71 : decode cX2_raiseAll 71 = .ok (.iload_n 2, 1) := by decide +kernel
theorem dX2_raiseAll_72 : decode cX2_raiseAll 72 = .ok (.iload_n 3, 1) := by decide +kernel
theorem dX2_raiseAll_73 : decode cX2_raiseAll 73 = .ok (.invokestatic 39, 3) := by decide +kernel
theorem dX2_raiseAll_76 : decode cX2_raiseAll 76 = .ok (.ifCond .eq 27, 3) := by decide +kernel
theorem dX2_raiseAll_79 : decode cX2_raiseAll 79 = .ok (.iload_n 1, 1) := by decide +kernel
theorem dX2_raiseAll_80 : decode cX2_raiseAll 80 = .ok (.iload 5, 2) := by decide +kernel
theorem dX2_raiseAll_82 : decode cX2_raiseAll 82 = .ok (.invokestatic 39, 3) := by decide +kernel
theorem dX2_raiseAll_85 : decode cX2_raiseAll 85 = .ok (.ifCond .eq 12, 3) := by decide +kernel
theorem dX2_raiseAll_88 : decode cX2_raiseAll 88 = .ok (.aload_n 0, 1) := by decide +kernel
theorem dX2_raiseAll_89 : decode cX2_raiseAll 89 = .ok (.iload 5, 2) := by decide +kernel
theorem dX2_raiseAll_91 : decode cX2_raiseAll 91 = .ok (.iload_n 3, 1) := by decide +kernel
theorem dX2_raiseAll_92 : decode cX2_raiseAll 92 = .ok (.iload 4, 2) := by decide +kernel
theorem dX2_raiseAll_94 : decode cX2_raiseAll 94 = .ok (.invokevirtual 102, 3) := by decide +kernel
theorem dX2_raiseAll_97 : decode cX2_raiseAll 97 = .ok (.iinc 5 1, 3) := by decide +kernel
theorem dX2_raiseAll_100 : decode cX2_raiseAll 100 = .ok (.goto (-38), 3) := by decide +kernel
theorem dX2_raiseAll_103 : decode cX2_raiseAll 103 = .ok (.iinc 3 1, 3) := by decide +kernel
theorem dX2_raiseAll_106 : decode cX2_raiseAll 106 = .ok (.goto (-104), 3) := by decide +kernel
theorem dX2_raiseAll_109 : decode cX2_raiseAll 109 = .ok (.return_, 1) := by decide +kernel
theorem dX2_undo_0 : decode cX2_undo 0 = .ok (.aload_n 0, 1) := by decide +kernel
theorem dX2_undo_1 : decode cX2_undo 1 = .ok (.getfield 68, 3) := by decide +kernel
theorem dX2_undo_4 : decode cX2_undo 4 = .ok (.ifCond .ne 6, 3) := by decide +kernel
theorem dX2_undo_7 : decode cX2_undo 7 = .ok (.bipush (-2), 2) := by decide +kernel
theorem dX2_undo_9 : decode cX2_undo 9 = .ok (.ireturn, 1) := by decide +kernel
theorem dX2_undo_10 : decode cX2_undo 10 = .ok (.aload_n 0, 1) := by decide +kernel
theorem dX2_undo_11 : decode cX2_undo 11 = .ok (.dup, 1) := by decide +kernel
theorem dX2_undo_12 : decode cX2_undo 12 = .ok (.getfield 68, 3) := by decide +kernel
theorem dX2_undo_15 : decode cX2_undo 15 = .ok (.iconst 1, 1) := by decide +kernel
theorem dX2_undo_16 : decode cX2_undo 16 = .ok (.isub, 1) := by decide +kernel
theorem dX2_undo_17 : decode cX2_undo 17 = .ok (.putfield 68, 3) := by decide +kernel
theorem dX2_undo_20 : decode cX2_undo 20 = .ok (.iconst 0, 1) := by decide +kernel
theorem dX2_undo_21 : decode cX2_undo 21 = .ok (.istore_n 1, 1) := by decide +kernel
theorem dX2_undo_22 : decode cX2_undo 22 = .ok (.iload_n 1, 1) := by decide +kernel
theorem dX2_undo_23 : decode cX2_undo 23 = .ok (.sipush 1263, 3) := by decide +kernel
theorem dX2_undo_26 : decode cX2_undo 26 = .ok (.if_icmp .ge 30, 3) := by decide +kernel
theorem dX2_undo_29 : decode cX2_undo 29 = .ok (.aload_n 0, 1) := by decide +kernel
theorem dX2_undo_30 : decode cX2_undo 30 = .ok (.getfield 7, 3) := by decide +kernel
theorem dX2_undo_33 : decode cX2_undo 33 = .ok (.iload_n 1, 1) := by decide +kernel
theorem dX2_undo_34 : decode cX2_undo 34 = .ok (.aload_n 0, 1) := by decide +kernel
theorem dX2_undo_35 : decode cX2_undo 35 = .ok (.getfield 13, 3) := by decide +kernel
theorem dX2_undo_38 : decode cX2_undo 38 = .ok (.sipush 1263, 3) := by decide +kernel
theorem dX2_undo_41 : decode cX2_undo 41 = .ok (.aload_n 0, 1) := by decide +kernel
theorem dX2_undo_42 : decode cX2_undo 42 = .ok (.getfield 68, 3) := by decide +kernel
theorem dX2_undo_45 : decode cX2_undo 45 = .ok (.imul, 1) := by decide +kernel
theorem dX2_undo_46 : decode cX2_undo 46 = .ok (.iload_n 1, 1) := by decide +kernel
theorem dX2_undo_47 : decode cX2_undo 47 = .ok (.iadd, 1) := by decide +kernel
theorem dX2_undo_48 : decode cX2_undo 48 = .ok (.iaload, 1) := by decide +kernel
theorem dX2_undo_49 : decode cX2_undo 49 = .ok (.iastore, 1) := by decide +kernel
theorem dX2_undo_50 : decode cX2_undo 50 = .ok (.iinc 1 1, 3) := by decide +kernel
theorem dX2_undo_53 : decode cX2_undo 53 = .ok (.goto (-31), 3) := by decide +kernel
theorem dX2_undo_56 : decode cX2_undo 56 = .ok (.aload_n 0, 1) := by decide +kernel
theorem dX2_undo_57 : decode cX2_undo 57 = .ok (.getfield 68, 3) := by decide +kernel
theorem dX2_undo_60 : decode cX2_undo 60 = .ok (.ireturn, 1) := by decide +kernel
theorem dX2_written_0 : decode cX2_written 0 = .ok (.iconst 0, 1) := by decide +kernel
theorem dX2_written_1 : decode cX2_written 1 = .ok (.istore_n 2, 1) := by decide +kernel
theorem dX2_written_2 : decode cX2_written 2 = .ok (.iconst 0, 1) := by decide +kernel
theorem dX2_written_3 : decode cX2_written 3 = .ok (.istore_n 3, 1) := by decide +kernel
theorem dX2_written_4 : decode cX2_written 4 = .ok (.iload_n 3, 1) := by decide +kernel
theorem dX2_written_5 : decode cX2_written 5 = .ok (.aload_n 0, 1) := by decide +kernel
theorem dX2_written_6 : decode cX2_written 6 = .ok (.invokevirtual 82, 3) := by decide +kernel
theorem dX2_written_9 : decode cX2_written 9 = .ok (.if_icmp .ge 18, 3) := by decide +kernel
theorem dX2_written_12 : decode cX2_written 12 = .ok (.iload_n 2, 1) := by decide +kernel
theorem dX2_written_13 : decode cX2_written 13 = .ok (.aload_n 0, 1) := by decide +kernel
theorem dX2_written_14 : decode cX2_written 14 = .ok (.iload_n 1, 1) := by decide +kernel
theorem dX2_written_15 : decode cX2_written 15 = .ok (.iload_n 3, 1) := by decide +kernel
theorem dX2_written_16 : decode cX2_written 16 = .ok (.invokevirtual 62, 3) := by decide +kernel
theorem dX2_written_19 : decode cX2_written 19 = .ok (.iadd, 1) := by decide +kernel
theorem dX2_written_20 : decode cX2_written 20 = .ok (.istore_n 2, 1) := by decide +kernel
theorem dX2_written_21 : decode cX2_written 21 = .ok (.iinc 3 1, 3) := by decide +kernel
theorem dX2_written_24 : decode cX2_written 24 = .ok (.goto (-20), 3) := by decide +kernel
theorem dX2_written_27 : decode cX2_written 27 = .ok (.iload_n 2, 1) := by decide +kernel
theorem dX2_written_28 : decode cX2_written 28 = .ok (.ireturn, 1) := by decide +kernel
theorem dX2_site_0 : decode cX2_site 0 = .ok (.aload_n 0, 1) := by decide +kernel
theorem dX2_site_1 : decode cX2_site 1 = .ok (.iload_n 1, 1) := by decide +kernel
theorem dX2_site_2 : decode cX2_site 2 = .ok (.invokevirtual 78, 3) := by decide +kernel
theorem dX2_site_5 : decode cX2_site 5 = .ok (.ifCond .ne 5, 3) := by decide +kernel
theorem dX2_site_8 : decode cX2_site 8 = .ok (.iconst (-1), 1) := by decide +kernel
theorem dX2_site_9 : decode cX2_site 9 = .ok (.ireturn, 1) := by decide +kernel
theorem dX2_site_10 : decode cX2_site 10 = .ok (.iload_n 2, 1) := by decide +kernel
theorem dX2_site_11 : decode cX2_site 11 = .ok (.tableswitch 91 0 4 #[33, 52, 58, 71, 85], 33) := by decide +kernel
theorem dX2_site_44 : decode cX2_site 44 = .ok (.aload_n 0, 1) := by decide +kernel
theorem dX2_site_45 : decode cX2_site 45 = .ok (.iload_n 1, 1) := by decide +kernel
theorem dX2_site_46 : decode cX2_site 46 = .ok (.invokevirtual 96, 3) := by decide +kernel
theorem dX2_site_49 : decode cX2_site 49 = .ok (.ifCond .eq 8, 3) := by decide +kernel
theorem dX2_site_52 : decode cX2_site 52 = .ok (.bipush (-9), 2) := by decide +kernel
theorem dX2_site_54 : decode cX2_site 54 = .ok (.goto 8, 3) := by decide +kernel
theorem dX2_site_57 : decode cX2_site 57 = .ok (.aload_n 0, 1) := by decide +kernel
theorem dX2_site_58 : decode cX2_site 58 = .ok (.iload_n 1, 1) := by decide +kernel
theorem dX2_site_59 : decode cX2_site 59 = .ok (.invokevirtual 99, 3) := by decide +kernel
theorem dX2_site_62 : decode cX2_site 62 = .ok (.ireturn, 1) := by decide +kernel
theorem dX2_site_63 : decode cX2_site 63 = .ok (.aload_n 0, 1) := by decide +kernel
theorem dX2_site_64 : decode cX2_site 64 = .ok (.iload_n 1, 1) := by decide +kernel
theorem dX2_site_65 : decode cX2_site 65 = .ok (.invokevirtual 47, 3) := by decide +kernel
theorem dX2_site_68 : decode cX2_site 68 = .ok (.ireturn, 1) := by decide +kernel
theorem dX2_site_69 : decode cX2_site 69 = .ok (.aload_n 0, 1) := by decide +kernel
theorem dX2_site_70 : decode cX2_site 70 = .ok (.getfield 7, 3) := by decide +kernel
theorem dX2_site_73 : decode cX2_site 73 = .ok (.bipush 103, 2) := by decide +kernel
theorem dX2_site_75 : decode cX2_site 75 = .ok (.iload_n 1, 1) := by decide +kernel
theorem dX2_site_76 : decode cX2_site 76 = .ok (.iadd, 1) := by decide +kernel
theorem dX2_site_77 : decode cX2_site 77 = .ok (.iaload, 1) := by decide +kernel
theorem dX2_site_78 : decode cX2_site 78 = .ok (.invokestatic 112, 3) := by decide +kernel
theorem dX2_site_81 : decode cX2_site 81 = .ok (.ireturn, 1) := by decide +kernel
theorem dX2_site_82 : decode cX2_site 82 = .ok (.aload_n 0, 1) := by decide +kernel
theorem dX2_site_83 : decode cX2_site 83 = .ok (.iload_n 1, 1) := by decide +kernel
theorem dX2_site_84 : decode cX2_site 84 = .ok (.invokevirtual 96, 3) := by decide +kernel
theorem dX2_site_87 : decode cX2_site 87 = .ok (.ifCond .eq 7, 3) := by decide +kernel
theorem dX2_site_90 : decode cX2_site 90 = .ok (.iconst 1, 1) := by decide +kernel
theorem dX2_site_91 : decode cX2_site 91 = .ok (.goto 4, 3) := by decide +kernel
theorem dX2_site_94 : decode cX2_site 94 = .ok (.iconst 0, 1) := by decide +kernel
theorem dX2_site_95 : decode cX2_site 95 = .ok (.ireturn, 1) := by decide +kernel
theorem dX2_site_96 : decode cX2_site 96 = .ok (.aload_n 0, 1) := by decide +kernel
theorem dX2_site_97 : decode cX2_site 97 = .ok (.iload_n 1, 1) := by decide +kernel
theorem dX2_site_98 : decode cX2_site 98 = .ok (.invokevirtual 140, 3) := by decide +kernel
theorem dX2_site_101 : decode cX2_site 101 = .ok (.ireturn, 1) := by decide +kernel
theorem dX2_site_102 : decode cX2_site 102 = .ok (.iconst (-1), 1) := by decide +kernel
theorem dX2_site_103 : decode cX2_site 103 = .ok (.ireturn, 1) := by decide +kernel
theorem dX2_holders_0 : decode cX2_holders 0 = .ok (.iconst 0, 1) := by decide +kernel
theorem dX2_holders_1 : decode cX2_holders 1 = .ok (.istore_n 2, 1) := by decide +kernel
theorem dX2_holders_2 : decode cX2_holders 2 = .ok (.iconst 0, 1) := by decide +kernel
theorem dX2_holders_3 : decode cX2_holders 3 = .ok (.istore_n 3, 1) := by decide +kernel
theorem dX2_holders_4 : decode cX2_holders 4 = .ok (.iload_n 3, 1) := by decide +kernel
theorem dX2_holders_5 : decode cX2_holders 5 = .ok (.aload_n 0, 1) := by decide +kernel
theorem dX2_holders_6 : decode cX2_holders 6 = .ok (.invokevirtual 82, 3) := by decide +kernel
theorem dX2_holders_9 : decode cX2_holders 9 = .ok (.if_icmp .ge 35, 3) := by decide +kernel
theorem dX2_holders_12 : decode cX2_holders 12 = .ok (.iload_n 2, 1) := by decide +kernel
theorem dX2_holders_13 : decode cX2_holders 13 = .ok (.aload_n 0, 1) := by decide +kernel
theorem dX2_holders_14 : decode cX2_holders 14 = .ok (.getfield 7, 3) := by decide +kernel
theorem dX2_holders_17 : decode cX2_holders 17 = .ok (.bipush 103, 2) := by decide +kernel
theorem dX2_holders_19 : decode cX2_holders 19 = .ok (.iload_n 3, 1) := by decide +kernel
theorem dX2_holders_20 : decode cX2_holders 20 = .ok (.iadd, 1) := by decide +kernel
theorem dX2_holders_21 : decode cX2_holders 21 = .ok (.iaload, 1) := by decide +kernel
theorem dX2_holders_22 : decode cX2_holders 22 = .ok (.iload_n 1, 1) := by decide +kernel
theorem dX2_holders_23 : decode cX2_holders 23 = .ok (.invokestatic 39, 3) := by decide +kernel
theorem dX2_holders_26 : decode cX2_holders 26 = .ok (.ifCond .eq 9, 3) := by decide +kernel
theorem dX2_holders_29 : decode cX2_holders 29 = .ok (.iconst 1, 1) := by decide +kernel
theorem dX2_holders_30 : decode cX2_holders 30 = .ok (.iload_n 3, 1) := by decide +kernel
theorem dX2_holders_31 : decode cX2_holders 31 = .ok (.ishl, 1) := by decide +kernel
theorem dX2_holders_32 : decode cX2_holders 32 = .ok (.goto 4, 3) := by decide +kernel
theorem dX2_holders_35 : decode cX2_holders 35 = .ok (.iconst 0, 1) := by decide +kernel
theorem dX2_holders_36 : decode cX2_holders 36 = .ok (.ior, 1) := by decide +kernel
theorem dX2_holders_37 : decode cX2_holders 37 = .ok (.istore_n 2, 1) := by decide +kernel
theorem dX2_holders_38 : decode cX2_holders 38 = .ok (.iinc 3 1, 3) := by decide +kernel
theorem dX2_holders_41 : decode cX2_holders 41 = .ok (.goto (-37), 3) := by decide +kernel
theorem dX2_holders_44 : decode cX2_holders 44 = .ok (.iload_n 2, 1) := by decide +kernel
theorem dX2_holders_45 : decode cX2_holders 45 = .ok (.ireturn, 1) := by decide +kernel
theorem dX2_isSafe_0 : decode cX2_isSafe 0 = .ok (.aload_n 0, 1) := by decide +kernel
theorem dX2_isSafe_1 : decode cX2_isSafe 1 = .ok (.bipush 8, 2) := by decide +kernel
theorem dX2_isSafe_3 : decode cX2_isSafe 3 = .ok (.iload_n 1, 1) := by decide +kernel
theorem dX2_isSafe_4 : decode cX2_isSafe 4 = .ok (.imul, 1) := by decide +kernel
theorem dX2_isSafe_5 : decode cX2_isSafe 5 = .ok (.iload_n 2, 1) := by decide +kernel
theorem dX2_isSafe_6 : decode cX2_isSafe 6 = .ok (.iadd, 1) := by decide +kernel
theorem dX2_isSafe_7 : decode cX2_isSafe 7 = .ok (.invokevirtual 143, 3) := by decide +kernel
theorem dX2_isSafe_10 : decode cX2_isSafe 10 = .ok (.invokestatic 112, 3) := by decide +kernel
theorem dX2_isSafe_13 : decode cX2_isSafe 13 = .ok (.aload_n 0, 1) := by decide +kernel
theorem dX2_isSafe_14 : decode cX2_isSafe 14 = .ok (.getfield 7, 3) := by decide +kernel
theorem dX2_isSafe_17 : decode cX2_isSafe 17 = .ok (.iconst 1, 1) := by decide +kernel
theorem dX2_isSafe_18 : decode cX2_isSafe 18 = .ok (.iaload, 1) := by decide +kernel
theorem dX2_isSafe_19 : decode cX2_isSafe 19 = .ok (.if_icmp .lt 7, 3) := by decide +kernel
theorem dX2_isSafe_22 : decode cX2_isSafe 22 = .ok (.iconst 1, 1) := by decide +kernel
theorem dX2_isSafe_23 : decode cX2_isSafe 23 = .ok (.goto 4, 3) := by decide +kernel
theorem dX2_isSafe_26 : decode cX2_isSafe 26 = .ok (.iconst 0, 1) := by decide +kernel
theorem dX2_isSafe_27 : decode cX2_isSafe 27 = .ok (.ireturn, 1) := by decide +kernel
theorem dX2_pastOf_0 : decode cX2_pastOf 0 = .ok (.iconst 1, 1) := by decide +kernel
theorem dX2_pastOf_1 : decode cX2_pastOf 1 = .ok (.bipush 8, 2) := by decide +kernel
theorem dX2_pastOf_3 : decode cX2_pastOf 3 = .ok (.iload_n 1, 1) := by decide +kernel
theorem dX2_pastOf_4 : decode cX2_pastOf 4 = .ok (.imul, 1) := by decide +kernel
theorem dX2_pastOf_5 : decode cX2_pastOf 5 = .ok (.iload_n 2, 1) := by decide +kernel
theorem dX2_pastOf_6 : decode cX2_pastOf 6 = .ok (.iadd, 1) := by decide +kernel
theorem dX2_pastOf_7 : decode cX2_pastOf 7 = .ok (.ishl, 1) := by decide +kernel
theorem dX2_pastOf_8 : decode cX2_pastOf 8 = .ok (.istore_n 3, 1) := by decide +kernel
theorem dX2_pastOf_9 : decode cX2_pastOf 9 = .ok (.iconst 0, 1) := by decide +kernel
theorem dX2_pastOf_10 : decode cX2_pastOf 10 = .ok (.istore 4, 2) := by decide +kernel
theorem dX2_pastOf_12 : decode cX2_pastOf 12 = .ok (.iload 4, 2) := by decide +kernel
theorem dX2_pastOf_14 : decode cX2_pastOf 14 = .ok (.iload_n 3, 1) := by decide +kernel
theorem dX2_pastOf_15 : decode cX2_pastOf 15 = .ok (.if_icmp .eq 114, 3) := by decide +kernel
theorem dX2_pastOf_18 : decode cX2_pastOf 18 = .ok (.iload_n 3, 1) := by decide +kernel
theorem dX2_pastOf_19 : decode cX2_pastOf 19 = .ok (.istore 4, 2) := by decide +kernel
theorem dX2_pastOf_21 : decode cX2_pastOf 21 = .ok (.iconst 0, 1) := by decide +kernel
theorem dX2_pastOf_22 : decode cX2_pastOf 22 = .ok (.istore 5, 2) := by decide +kernel
theorem dX2_pastOf_24 : decode cX2_pastOf 24 = .ok (.iload 5, 2) := by decide +kernel
theorem dX2_pastOf_26 : decode cX2_pastOf 26 = .ok (.aload_n 0, 1) := by decide +kernel
theorem dX2_pastOf_27 : decode cX2_pastOf 27 = .ok (.invokevirtual 82, 3) := by decide +kernel
theorem dX2_pastOf_30 : decode cX2_pastOf 30 = .ok (.if_icmp .ge 96, 3) := by decide +kernel
theorem dX2_pastOf_33 : decode cX2_pastOf 33 = .ok (.iconst 0, 1) := by decide +kernel
theorem dX2_pastOf_34 : decode cX2_pastOf 34 = .ok (.istore 6, 2) := by decide +kernel
theorem dX2_pastOf_36 : decode cX2_pastOf 36 = .ok (.iload 6, 2) := by decide +kernel
theorem dX2_pastOf_38 : decode cX2_pastOf 38 = .ok (.aload_n 0, 1) := by decide +kernel
theorem dX2_pastOf_39 : decode cX2_pastOf 39 = .ok (.iload 5, 2) := by decide +kernel
theorem dX2_pastOf_41 : decode cX2_pastOf 41 = .ok (.invokevirtual 47, 3) := by decide +kernel
theorem dX2_pastOf_44 : decode cX2_pastOf 44 = .ok (.if_icmp .ge 76, 3) := by decide +kernel
theorem dX2_pastOf_47 : decode cX2_pastOf 47 = .ok (.iload_n 3, 1) := by decide +kernel
theorem dX2_pastOf_48 : decode cX2_pastOf 48 = .ok (.bipush 8, 2) := by decide +kernel
theorem dX2_pastOf_50 : decode cX2_pastOf 50 = .ok (.iload 5, 2) := by decide +kernel
theorem dX2_pastOf_52 : decode cX2_pastOf 52 = .ok (.imul, 1) := by decide +kernel
theorem dX2_pastOf_53 : decode cX2_pastOf 53 = .ok (.iload 6, 2) := by decide +kernel
theorem dX2_pastOf_55 : decode cX2_pastOf 55 = .ok (.iadd, 1) := by decide +kernel
theorem dX2_pastOf_56 : decode cX2_pastOf 56 = .ok (.invokestatic 39, 3) := by decide +kernel
theorem dX2_pastOf_59 : decode cX2_pastOf 59 = .ok (.ifCond .eq 55, 3) := by decide +kernel
theorem dX2_pastOf_62 : decode cX2_pastOf 62 = .ok (.aload_n 0, 1) := by decide +kernel
theorem dX2_pastOf_63 : decode cX2_pastOf 63 = .ok (.iload 5, 2) := by decide +kernel
theorem dX2_pastOf_65 : decode cX2_pastOf 65 = .ok (.iload 6, 2) := by decide +kernel
theorem dX2_pastOf_67 : decode cX2_pastOf 67 = .ok (.invokevirtual 118, 3) := by decide +kernel
theorem dX2_pastOf_70 : decode cX2_pastOf 70 = .ok (.istore 7, 2) := by decide +kernel
theorem dX2_pastOf_72 : decode cX2_pastOf 72 = .ok (.iload_n 3, 1) := by decide +kernel
theorem dX2_pastOf_73 : decode cX2_pastOf 73 = .ok (.iload 7, 2) := by decide +kernel
theorem dX2_pastOf_75 : decode cX2_pastOf 75 = .ok (.bipush (-9), 2) := by decide +kernel
theorem dX2_pastOf_77 : decode cX2_pastOf 77 = .ok (.if_icmp .ne 7, 3) := by decide +kernel
theorem dX2_pastOf_80 : decode cX2_pastOf 80 = .ok (.iconst 0, 1) := by decide +kernel
theorem dX2_pastOf_81 : decode cX2_pastOf 81 = .ok (.goto 7, 3) := by decide +kernel
theorem dX2_pastOf_84 : decode cX2_pastOf 84 = .ok (.iconst 1, 1) := by decide +kernel
theorem dX2_pastOf_85 : decode cX2_pastOf 85 = .ok (.iload 7, 2) := by decide +kernel
theorem dX2_pastOf_87 : decode cX2_pastOf 87 = .ok (.ishl, 1) := by decide +kernel
theorem dX2_pastOf_88 : decode cX2_pastOf 88 = .ok (.ior, 1) := by decide +kernel
theorem dX2_pastOf_89 : decode cX2_pastOf 89 = .ok (.istore_n 3, 1) := by decide +kernel
theorem dX2_pastOf_90 : decode cX2_pastOf 90 = .ok (.iload_n 3, 1) := by decide +kernel
theorem dX2_pastOf_91 : decode cX2_pastOf 91 = .ok (.iload 6, 2) := by decide +kernel
theorem dX2_pastOf_93 : decode cX2_pastOf 93 = .ok (.ifCond .ne 7, 3) := by decide +kernel
theorem dX2_pastOf_96 : decode cX2_pastOf 96 = .ok (.iconst 0, 1) := by decide +kernel
theorem dX2_pastOf_97 : decode cX2_pastOf 97 = .ok (.goto 15, 3) := by decide +kernel
theorem dX2_pastOf_100 : decode cX2_pastOf 100 = .ok (.iconst 1, 1) := by decide +kernel
theorem dX2_pastOf_101 : decode cX2_pastOf 101 = .ok (.bipush 8, 2) := by decide +kernel
theorem dX2_pastOf_103 : decode cX2_pastOf 103 = .ok (.iload 5, 2) := by decide +kernel
theorem dX2_pastOf_105 : decode cX2_pastOf 105 = .ok (.imul, 1) := by decide +kernel
theorem dX2_pastOf_106 : decode cX2_pastOf 106 = .ok (.iload 6, 2) := by decide +kernel
theorem dX2_pastOf_108 : decode cX2_pastOf 108 = .ok (.iadd, 1) := by decide +kernel
theorem dX2_pastOf_109 : decode cX2_pastOf 109 = .ok (.iconst 1, 1) := by decide +kernel
theorem dX2_pastOf_110 : decode cX2_pastOf 110 = .ok (.isub, 1) := by decide +kernel
theorem dX2_pastOf_111 : decode cX2_pastOf 111 = .ok (.ishl, 1) := by decide +kernel
theorem dX2_pastOf_112 : decode cX2_pastOf 112 = .ok (.ior, 1) := by decide +kernel
theorem dX2_pastOf_113 : decode cX2_pastOf 113 = .ok (.istore_n 3, 1) := by decide +kernel
theorem dX2_pastOf_114 : decode cX2_pastOf 114 = .ok (.iinc 6 1, 3) := by decide +kernel
theorem dX2_pastOf_117 : decode cX2_pastOf 117 = .ok (.goto (-81), 3) := by decide +kernel
theorem dX2_pastOf_120 : decode cX2_pastOf 120 = .ok (.iinc 5 1, 3) := by decide +kernel
theorem dX2_pastOf_123 : decode cX2_pastOf 123 = .ok (.goto (-99), 3) := by decide +kernel
theorem dX2_pastOf_126 : decode cX2_pastOf 126 = .ok (.goto (-114), 3) := by decide +kernel
theorem dX2_pastOf_129 : decode cX2_pastOf 129 = .ok (.iload_n 3, 1) := by decide +kernel
theorem dX2_pastOf_130 : decode cX2_pastOf 130 = .ok (.ireturn, 1) := by decide +kernel
theorem dX2_isReceipt_0 : decode cX2_isReceipt 0 = .ok (.aload_n 0, 1) := by decide +kernel
theorem dX2_isReceipt_1 : decode cX2_isReceipt 1 = .ok (.iload_n 1, 1) := by decide +kernel
theorem dX2_isReceipt_2 : decode cX2_isReceipt 2 = .ok (.invokevirtual 78, 3) := by decide +kernel
theorem dX2_isReceipt_5 : decode cX2_isReceipt 5 = .ok (.ifCond .eq 22, 3) := by decide +kernel
theorem dX2_isReceipt_8 : decode cX2_isReceipt 8 = .ok (.iload_n 2, 1) := by decide +kernel
theorem dX2_isReceipt_9 : decode cX2_isReceipt 9 = .ok (.iconst 0, 1) := by decide +kernel
theorem dX2_isReceipt_10 : decode cX2_isReceipt 10 = .ok (.aload_n 0, 1) := by decide +kernel
theorem dX2_isReceipt_11 : decode cX2_isReceipt 11 = .ok (.iload_n 1, 1) := by decide +kernel
theorem dX2_isReceipt_12 : decode cX2_isReceipt 12 = .ok (.invokevirtual 47, 3) := by decide +kernel
theorem dX2_isReceipt_15 : decode cX2_isReceipt 15 = .ok (.iconst 1, 1) := by decide +kernel
theorem dX2_isReceipt_16 : decode cX2_isReceipt 16 = .ok (.isub, 1) := by decide +kernel
theorem dX2_isReceipt_17 : decode cX2_isReceipt 17 = .ok (.invokestatic 43, 3) := by decide +kernel
theorem dX2_isReceipt_20 : decode cX2_isReceipt 20 = .ok (.ifCond .eq 7, 3) := by decide +kernel
theorem dX2_isReceipt_23 : decode cX2_isReceipt 23 = .ok (.iconst 1, 1) := by decide +kernel
theorem dX2_isReceipt_24 : decode cX2_isReceipt 24 = .ok (.goto 4, 3) := by decide +kernel
theorem dX2_isReceipt_27 : decode cX2_isReceipt 27 = .ok (.iconst 0, 1) := by decide +kernel
theorem dX2_isReceipt_28 : decode cX2_isReceipt 28 = .ok (.ireturn, 1) := by decide +kernel
theorem dX2_receipt_0 : decode cX2_receipt 0 = .ok (.aload_n 0, 1) := by decide +kernel
theorem dX2_receipt_1 : decode cX2_receipt 1 = .ok (.iload_n 1, 1) := by decide +kernel
theorem dX2_receipt_2 : decode cX2_receipt 2 = .ok (.iload_n 2, 1) := by decide +kernel
theorem dX2_receipt_3 : decode cX2_receipt 3 = .ok (.invokevirtual 146, 3) := by decide +kernel
theorem dX2_receipt_6 : decode cX2_receipt 6 = .ok (.ifCond .ne 5, 3) := by decide +kernel
theorem dX2_receipt_9 : decode cX2_receipt 9 = .ok (.iconst (-1), 1) := by decide +kernel
theorem dX2_receipt_10 : decode cX2_receipt 10 = .ok (.ireturn, 1) := by decide +kernel
theorem dX2_receipt_11 : decode cX2_receipt 11 = .ok (.iload_n 3, 1) := by decide +kernel
theorem dX2_receipt_12 : decode cX2_receipt 12 = .ok (.tableswitch 84 0 5 #[40, 40, 40, 48, 59, 74], 40) := by decide +kernel
theorem dX2_receipt_52 : decode cX2_receipt 52 = .ok (.aload_n 0, 1) := by decide +kernel
theorem dX2_receipt_53 : decode cX2_receipt 53 = .ok (.iload_n 1, 1) := by decide +kernel
theorem dX2_receipt_54 : decode cX2_receipt 54 = .ok (.iload_n 2, 1) := by decide +kernel
theorem dX2_receipt_55 : decode cX2_receipt 55 = .ok (.iload_n 3, 1) := by decide +kernel
theorem dX2_receipt_56 : decode cX2_receipt 56 = .ok (.invokevirtual 51, 3) := by decide +kernel
theorem dX2_receipt_59 : decode cX2_receipt 59 = .ok (.ireturn, 1) := by decide +kernel
theorem dX2_receipt_60 : decode cX2_receipt 60 = .ok (.aload_n 0, 1) := by decide +kernel
theorem dX2_receipt_61 : decode cX2_receipt 61 = .ok (.bipush 8, 2) := by decide +kernel
theorem dX2_receipt_63 : decode cX2_receipt 63 = .ok (.iload_n 1, 1) := by decide +kernel
theorem dX2_receipt_64 : decode cX2_receipt 64 = .ok (.imul, 1) := by decide +kernel
theorem dX2_receipt_65 : decode cX2_receipt 65 = .ok (.iload_n 2, 1) := by decide +kernel
theorem dX2_receipt_66 : decode cX2_receipt 66 = .ok (.iadd, 1) := by decide +kernel
theorem dX2_receipt_67 : decode cX2_receipt 67 = .ok (.invokevirtual 143, 3) := by decide +kernel
theorem dX2_receipt_70 : decode cX2_receipt 70 = .ok (.ireturn, 1) := by decide +kernel
theorem dX2_receipt_71 : decode cX2_receipt 71 = .ok (.aload_n 0, 1) := by decide +kernel
theorem dX2_receipt_72 : decode cX2_receipt 72 = .ok (.iload_n 1, 1) := by decide +kernel
theorem dX2_receipt_73 : decode cX2_receipt 73 = .ok (.iload_n 2, 1) := by decide +kernel
theorem dX2_receipt_74 : decode cX2_receipt 74 = .ok (.invokevirtual 149, 3) := by decide +kernel
theorem dX2_receipt_77 : decode cX2_receipt 77 = .ok (.ifCond .eq 7, 3) := by decide +kernel
theorem dX2_receipt_80 : decode cX2_receipt 80 = .ok (.iconst 1, 1) := by decide +kernel
theorem dX2_receipt_81 : decode cX2_receipt 81 = .ok (.goto 4, 3) := by decide +kernel
theorem dX2_receipt_84 : decode cX2_receipt 84 = .ok (.iconst 0, 1) := by decide +kernel
theorem dX2_receipt_85 : decode cX2_receipt 85 = .ok (.ireturn, 1) := by decide +kernel
theorem dX2_receipt_86 : decode cX2_receipt 86 = .ok (.aload_n 0, 1) := by decide +kernel
theorem dX2_receipt_87 : decode cX2_receipt 87 = .ok (.iload_n 1, 1) := by decide +kernel
theorem dX2_receipt_88 : decode cX2_receipt 88 = .ok (.iload_n 2, 1) := by decide +kernel
theorem dX2_receipt_89 : decode cX2_receipt 89 = .ok (.invokevirtual 152, 3) := by decide +kernel
theorem dX2_receipt_92 : decode cX2_receipt 92 = .ok (.invokestatic 112, 3) := by decide +kernel
theorem dX2_receipt_95 : decode cX2_receipt 95 = .ok (.ireturn, 1) := by decide +kernel
theorem dX2_receipt_96 : decode cX2_receipt 96 = .ok (.iconst (-1), 1) := by decide +kernel
theorem dX2_receipt_97 : decode cX2_receipt 97 = .ok (.ireturn, 1) := by decide +kernel
theorem dX2_letter_0 : decode cX2_letter 0 = .ok (.aload_n 0, 1) := by decide +kernel
theorem dX2_letter_1 : decode cX2_letter 1 = .ok (.iload_n 1, 1) := by decide +kernel
theorem dX2_letter_2 : decode cX2_letter 2 = .ok (.iload_n 2, 1) := by decide +kernel
theorem dX2_letter_3 : decode cX2_letter 3 = .ok (.invokevirtual 90, 3) := by decide +kernel
theorem dX2_letter_6 : decode cX2_letter 6 = .ok (.ifCond .eq 17, 3) := by decide +kernel
theorem dX2_letter_9 : decode cX2_letter 9 = .ok (.iload_n 3, 1) := by decide +kernel
theorem dX2_letter_10 : decode cX2_letter 10 = .ok (.ifCond .lt 13, 3) := by decide +kernel
theorem dX2_letter_13 : decode cX2_letter 13 = .ok (.iload 4, 2) := by decide +kernel
theorem dX2_letter_15 : decode cX2_letter 15 = .ok (.iconst 0, 1) := by decide +kernel
theorem dX2_letter_16 : decode cX2_letter 16 = .ok (.iconst 3, 1) := by decide +kernel
theorem dX2_letter_17 : decode cX2_letter 17 = .ok (.invokestatic 43, 3) := by decide +kernel
theorem dX2_letter_20 : decode cX2_letter 20 = .ok (.ifCond .ne 5, 3) := by decide +kernel
theorem dX2_letter_23 : decode cX2_letter 23 = .ok (.iconst (-1), 1) := by decide +kernel
theorem dX2_letter_24 : decode cX2_letter 24 = .ok (.ireturn, 1) := by decide +kernel
theorem dX2_letter_25 : decode cX2_letter 25 = .ok (.iload_n 3, 1) := by decide +kernel
theorem dX2_letter_26 : decode cX2_letter 26 = .ok (.aload_n 0, 1) := by decide +kernel
theorem dX2_letter_27 : decode cX2_letter 27 = .ok (.iload_n 1, 1) := by decide +kernel
theorem dX2_letter_28 : decode cX2_letter 28 = .ok (.iload_n 2, 1) := by decide +kernel
theorem dX2_letter_29 : decode cX2_letter 29 = .ok (.invokevirtual 62, 3) := by decide +kernel
theorem dX2_letter_32 : decode cX2_letter 32 = .ok (.if_icmp .lt 6, 3) := by decide +kernel
theorem dX2_letter_35 : decode cX2_letter 35 = .ok (.bipush (-9), 2) := by decide +kernel
theorem dX2_letter_37 : decode cX2_letter 37 = .ok (.ireturn, 1) := by decide +kernel
theorem dX2_letter_38 : decode cX2_letter 38 = .ok (.iload_n 1, 1) := by decide +kernel
theorem dX2_letter_39 : decode cX2_letter 39 = .ok (.iload_n 2, 1) := by decide +kernel
theorem dX2_letter_40 : decode cX2_letter 40 = .ok (.iload_n 3, 1) := by decide +kernel
theorem dX2_letter_41 : decode cX2_letter 41 = .ok (.invokestatic 65, 3) := by decide +kernel
theorem dX2_letter_44 : decode cX2_letter 44 = .ok (.istore 5, 2) := by decide +kernel
theorem dX2_letter_46 : decode cX2_letter 46 = .ok (.iload 4, 2) := by decide +kernel
theorem dX2_letter_48 : decode cX2_letter 48 = .ok (.iconst 2, 1) := by decide +kernel
theorem dX2_letter_49 : decode cX2_letter 49 = .ok (.if_icmp .ge 14, 3) := by decide +kernel
theorem dX2_letter_52 : decode cX2_letter 52 = .ok (.aload_n 0, 1) := by decide +kernel
theorem dX2_letter_53 : decode cX2_letter 53 = .ok (.getfield 7, 3) := by decide +kernel
theorem dX2_letter_56 : decode cX2_letter 56 = .ok (.iload 5, 2) := by decide +kernel
theorem dX2_letter_58 : decode cX2_letter 58 = .ok (.iload 4, 2) := by decide +kernel
theorem dX2_letter_60 : decode cX2_letter 60 = .ok (.iadd, 1) := by decide +kernel
theorem dX2_letter_61 : decode cX2_letter 61 = .ok (.iaload, 1) := by decide +kernel
theorem dX2_letter_62 : decode cX2_letter 62 = .ok (.ireturn, 1) := by decide +kernel
theorem dX2_letter_63 : decode cX2_letter 63 = .ok (.iload 4, 2) := by decide +kernel
theorem dX2_letter_65 : decode cX2_letter 65 = .ok (.iconst 2, 1) := by decide +kernel
theorem dX2_letter_66 : decode cX2_letter 66 = .ok (.if_icmp .ne 18, 3) := by decide +kernel
theorem dX2_letter_69 : decode cX2_letter 69 = .ok (.aload_n 0, 1) := by decide +kernel
theorem dX2_letter_70 : decode cX2_letter 70 = .ok (.getfield 7, 3) := by decide +kernel
theorem dX2_letter_73 : decode cX2_letter 73 = .ok (.iload 5, 2) := by decide +kernel
theorem dX2_letter_75 : decode cX2_letter 75 = .ok (.iconst 2, 1) := by decide +kernel
theorem dX2_letter_76 : decode cX2_letter 76 = .ok (.iadd, 1) := by decide +kernel
theorem dX2_letter_77 : decode cX2_letter 77 = .ok (.iaload, 1) := by decide +kernel
theorem dX2_letter_78 : decode cX2_letter 78 = .ok (.invokestatic 112, 3) := by decide +kernel
theorem dX2_letter_81 : decode cX2_letter 81 = .ok (.goto 18, 3) := by decide +kernel
theorem dX2_letter_84 : decode cX2_letter 84 = .ok (.iload_n 3, 1) := by decide +kernel
theorem dX2_letter_85 : decode cX2_letter 85 = .ok (.aload_n 0, 1) := by decide +kernel
theorem dX2_letter_86 : decode cX2_letter 86 = .ok (.iload_n 2, 1) := by decide +kernel
theorem dX2_letter_87 : decode cX2_letter 87 = .ok (.iload_n 1, 1) := by decide +kernel
theorem dX2_letter_88 : decode cX2_letter 88 = .ok (.invokevirtual 93, 3) := by decide +kernel
theorem dX2_letter_91 : decode cX2_letter 91 = .ok (.if_icmp .ge 7, 3) := by decide +kernel
theorem dX2_letter_94 : decode cX2_letter 94 = .ok (.iconst 1, 1) := by decide +kernel
theorem dX2_letter_95 : decode cX2_letter 95 = .ok (.goto 4, 3) := by decide +kernel
theorem dX2_letter_98 : decode cX2_letter 98 = .ok (.iconst 0, 1) := by decide +kernel
theorem dX2_letter_99 : decode cX2_letter 99 = .ok (.ireturn, 1) := by decide +kernel
theorem dX2_nth_0 : decode cX2_nth 0 = .ok (.iload_n 1, 1) := by decide +kernel
theorem dX2_nth_1 : decode cX2_nth 1 = .ok (.istore_n 2, 1) := by decide +kernel
theorem dX2_nth_2 : decode cX2_nth 2 = .ok (.iconst 0, 1) := by decide +kernel
theorem dX2_nth_3 : decode cX2_nth 3 = .ok (.istore_n 3, 1) := by decide +kernel
theorem dX2_nth_4 : decode cX2_nth 4 = .ok (.iload_n 3, 1) := by decide +kernel
theorem dX2_nth_5 : decode cX2_nth 5 = .ok (.bipush 32, 2) := by decide +kernel
theorem dX2_nth_7 : decode cX2_nth 7 = .ok (.if_icmp .ge 26, 3) := by decide +kernel
theorem dX2_nth_10 : decode cX2_nth 10 = .ok (.iload_n 0, 1) := by decide +kernel
theorem dX2_nth_11 : decode cX2_nth 11 = .ok (.iload_n 3, 1) := by decide +kernel
theorem dX2_nth_12 : decode cX2_nth 12 = .ok (.invokestatic 39, 3) := by decide +kernel
theorem dX2_nth_15 : decode cX2_nth 15 = .ok (.ifCond .eq 12, 3) := by decide +kernel
theorem dX2_nth_18 : decode cX2_nth 18 = .ok (.iload_n 2, 1) := by decide +kernel
theorem dX2_nth_19 : decode cX2_nth 19 = .ok (.ifCond .ne 5, 3) := by decide +kernel
theorem dX2_nth_22 : decode cX2_nth 22 = .ok (.iload_n 3, 1) := by decide +kernel
theorem dX2_nth_23 : decode cX2_nth 23 = .ok (.ireturn, 1) := by decide +kernel
theorem dX2_nth_24 : decode cX2_nth 24 = .ok (.iinc 2 (-1), 3) := by decide +kernel
theorem dX2_nth_27 : decode cX2_nth 27 = .ok (.iinc 3 1, 3) := by decide +kernel
theorem dX2_nth_30 : decode cX2_nth 30 = .ok (.goto (-26), 3) := by decide +kernel
theorem dX2_nth_33 : decode cX2_nth 33 = .ok (.bipush (-9), 2) := by decide +kernel
theorem dX2_nth_35 : decode cX2_nth 35 = .ok (.ireturn, 1) := by decide +kernel
theorem dX2_carries_0 : decode cX2_carries 0 = .ok (.aload_n 0, 1) := by decide +kernel
theorem dX2_carries_1 : decode cX2_carries 1 = .ok (.iload_n 1, 1) := by decide +kernel
theorem dX2_carries_2 : decode cX2_carries 2 = .ok (.iload_n 2, 1) := by decide +kernel
theorem dX2_carries_3 : decode cX2_carries 3 = .ok (.invokevirtual 90, 3) := by decide +kernel
theorem dX2_carries_6 : decode cX2_carries 6 = .ok (.ifCond .eq 12, 3) := by decide +kernel
theorem dX2_carries_9 : decode cX2_carries 9 = .ok (.iload_n 3, 1) := by decide +kernel
theorem dX2_carries_10 : decode cX2_carries 10 = .ok (.ifCond .lt 8, 3) := by decide +kernel
theorem dX2_carries_13 : decode cX2_carries 13 = .ok (.iload 4, 2) := by decide +kernel
theorem dX2_carries_15 : decode cX2_carries 15 = .ok (.ifCond .ge 5, 3) := by decide +kernel
theorem dX2_carries_18 : decode cX2_carries 18 = .ok (.iconst (-1), 1) := by decide +kernel
theorem dX2_carries_19 : decode cX2_carries 19 = .ok (.ireturn, 1) := by decide +kernel
theorem dX2_carries_20 : decode cX2_carries 20 = .ok (.iload_n 3, 1) := by decide +kernel
theorem dX2_carries_21 : decode cX2_carries 21 = .ok (.aload_n 0, 1) := by decide +kernel
theorem dX2_carries_22 : decode cX2_carries 22 = .ok (.iload_n 1, 1) := by decide +kernel
theorem dX2_carries_23 : decode cX2_carries 23 = .ok (.iload_n 2, 1) := by decide +kernel
theorem dX2_carries_24 : decode cX2_carries 24 = .ok (.invokevirtual 62, 3) := by decide +kernel
theorem dX2_carries_27 : decode cX2_carries 27 = .ok (.if_icmp .ge 24, 3) := by decide +kernel
theorem dX2_carries_30 : decode cX2_carries 30 = .ok (.aload_n 0, 1) := by decide +kernel
theorem dX2_carries_31 : decode cX2_carries 31 = .ok (.getfield 7, 3) := by decide +kernel
theorem dX2_carries_34 : decode cX2_carries 34 = .ok (.iload_n 1, 1) := by decide +kernel
theorem dX2_carries_35 : decode cX2_carries 35 = .ok (.iload_n 2, 1) := by decide +kernel
theorem dX2_carries_36 : decode cX2_carries 36 = .ok (.iload_n 3, 1) := by decide +kernel
theorem dX2_carries_37 : decode cX2_carries 37 = .ok (.invokestatic 65, 3) := by decide +kernel
theorem dX2_carries_40 : decode cX2_carries 40 = .ok (.iconst 2, 1) := by decide +kernel
theorem dX2_carries_41 : decode cX2_carries 41 = .ok (.iadd, 1) := by decide +kernel
theorem dX2_carries_42 : decode cX2_carries 42 = .ok (.iaload, 1) := by decide +kernel
theorem dX2_carries_43 : decode cX2_carries 43 = .ok (.iload 4, 2) := by decide +kernel
theorem dX2_carries_45 : decode cX2_carries 45 = .ok (.invokestatic 155, 3) := by decide +kernel
theorem dX2_carries_48 : decode cX2_carries 48 = .ok (.goto 5, 3) := by decide +kernel
theorem dX2_carries_51 : decode cX2_carries 51 = .ok (.bipush (-9), 2) := by decide +kernel
theorem dX2_carries_53 : decode cX2_carries 53 = .ok (.ireturn, 1) := by decide +kernel
theorem dX2_knows_0 : decode cX2_knows 0 = .ok (.aload_n 0, 1) := by decide +kernel
theorem dX2_knows_1 : decode cX2_knows 1 = .ok (.iload_n 1, 1) := by decide +kernel
theorem dX2_knows_2 : decode cX2_knows 2 = .ok (.invokevirtual 78, 3) := by decide +kernel
theorem dX2_knows_5 : decode cX2_knows 5 = .ok (.ifCond .eq 22, 3) := by decide +kernel
theorem dX2_knows_8 : decode cX2_knows 8 = .ok (.iload_n 2, 1) := by decide +kernel
theorem dX2_knows_9 : decode cX2_knows 9 = .ok (.iconst 0, 1) := by decide +kernel
theorem dX2_knows_10 : decode cX2_knows 10 = .ok (.bipush 31, 2) := by decide +kernel
theorem dX2_knows_12 : decode cX2_knows 12 = .ok (.invokestatic 43, 3) := by decide +kernel
theorem dX2_knows_15 : decode cX2_knows 15 = .ok (.ifCond .eq 12, 3) := by decide +kernel
theorem dX2_knows_18 : decode cX2_knows 18 = .ok (.aload_n 0, 1) := by decide +kernel
theorem dX2_knows_19 : decode cX2_knows 19 = .ok (.iload_n 1, 1) := by decide +kernel
theorem dX2_knows_20 : decode cX2_knows 20 = .ok (.iload_n 2, 1) := by decide +kernel
theorem dX2_knows_21 : decode cX2_knows 21 = .ok (.invokevirtual 106, 3) := by decide +kernel
theorem dX2_knows_24 : decode cX2_knows 24 = .ok (.goto 4, 3) := by decide +kernel
theorem dX2_knows_27 : decode cX2_knows 27 = .ok (.iconst (-1), 1) := by decide +kernel
theorem dX2_knows_28 : decode cX2_knows 28 = .ok (.ireturn, 1) := by decide +kernel
theorem dX2_past_0 : decode cX2_past 0 = .ok (.aload_n 0, 1) := by decide +kernel
theorem dX2_past_1 : decode cX2_past 1 = .ok (.iload_n 1, 1) := by decide +kernel
theorem dX2_past_2 : decode cX2_past 2 = .ok (.iload_n 2, 1) := by decide +kernel
theorem dX2_past_3 : decode cX2_past 3 = .ok (.invokevirtual 146, 3) := by decide +kernel
theorem dX2_past_6 : decode cX2_past 6 = .ok (.ifCond .eq 20, 3) := by decide +kernel
theorem dX2_past_9 : decode cX2_past 9 = .ok (.iload_n 3, 1) := by decide +kernel
theorem dX2_past_10 : decode cX2_past 10 = .ok (.ifCond .lt 16, 3) := by decide +kernel
theorem dX2_past_13 : decode cX2_past 13 = .ok (.aload_n 0, 1) := by decide +kernel
theorem dX2_past_14 : decode cX2_past 14 = .ok (.iload_n 1, 1) := by decide +kernel
theorem dX2_past_15 : decode cX2_past 15 = .ok (.iload_n 2, 1) := by decide +kernel
theorem dX2_past_16 : decode cX2_past 16 = .ok (.invokevirtual 152, 3) := by decide +kernel
theorem dX2_past_19 : decode cX2_past 19 = .ok (.iload_n 3, 1) := by decide +kernel
theorem dX2_past_20 : decode cX2_past 20 = .ok (.invokestatic 155, 3) := by decide +kernel
theorem dX2_past_23 : decode cX2_past 23 = .ok (.goto 4, 3) := by decide +kernel
theorem dX2_past_26 : decode cX2_past 26 = .ok (.iconst (-1), 1) := by decide +kernel
theorem dX2_past_27 : decode cX2_past 27 = .ok (.ireturn, 1) := by decide +kernel
theorem dX2_risk_0 : decode cX2_risk 0 = .ok (.iload_n 1, 1) := by decide +kernel
theorem dX2_risk_1 : decode cX2_risk 1 = .ok (.iconst 0, 1) := by decide +kernel
theorem dX2_risk_2 : decode cX2_risk 2 = .ok (.iconst 1, 1) := by decide +kernel
theorem dX2_risk_3 : decode cX2_risk 3 = .ok (.aload_n 0, 1) := by decide +kernel
theorem dX2_risk_4 : decode cX2_risk 4 = .ok (.invokevirtual 82, 3) := by decide +kernel
theorem dX2_risk_7 : decode cX2_risk 7 = .ok (.ishl, 1) := by decide +kernel
theorem dX2_risk_8 : decode cX2_risk 8 = .ok (.iconst 1, 1) := by decide +kernel
theorem dX2_risk_9 : decode cX2_risk 9 = .ok (.isub, 1) := by decide +kernel
theorem dX2_risk_10 : decode cX2_risk 10 = .ok (.invokestatic 43, 3) := by decide +kernel
theorem dX2_risk_13 : decode cX2_risk 13 = .ok (.ifCond .eq 12, 3) := by decide +kernel
theorem dX2_risk_16 : decode cX2_risk 16 = .ok (.iload_n 2, 1) := by decide +kernel
theorem dX2_risk_17 : decode cX2_risk 17 = .ok (.iconst 0, 1) := by decide +kernel
theorem dX2_risk_18 : decode cX2_risk 18 = .ok (.iconst 1, 1) := by decide +kernel
theorem dX2_risk_19 : decode cX2_risk 19 = .ok (.invokestatic 43, 3) := by decide +kernel
theorem dX2_risk_22 : decode cX2_risk 22 = .ok (.ifCond .ne 5, 3) := by decide +kernel
theorem dX2_risk_25 : decode cX2_risk 25 = .ok (.iconst (-1), 1) := by decide +kernel
theorem dX2_risk_26 : decode cX2_risk 26 = .ok (.ireturn, 1) := by decide +kernel
theorem dX2_risk_27 : decode cX2_risk 27 = .ok (.aload_n 0, 1) := by decide +kernel
theorem dX2_risk_28 : decode cX2_risk 28 = .ok (.getfield 7, 3) := by decide +kernel
theorem dX2_risk_31 : decode cX2_risk 31 = .ok (.iconst 2, 1) := by decide +kernel
theorem dX2_risk_32 : decode cX2_risk 32 = .ok (.iaload, 1) := by decide +kernel
theorem dX2_risk_33 : decode cX2_risk 33 = .ok (.iload_n 1, 1) := by decide +kernel
theorem dX2_risk_34 : decode cX2_risk 34 = .ok (.ior, 1) := by decide +kernel
theorem dX2_risk_35 : decode cX2_risk 35 = .ok (.istore_n 3, 1) := by decide +kernel
theorem dX2_risk_36 : decode cX2_risk 36 = .ok (.aload_n 0, 1) := by decide +kernel
theorem dX2_risk_37 : decode cX2_risk 37 = .ok (.iload_n 3, 1) := by decide +kernel
theorem dX2_risk_38 : decode cX2_risk 38 = .ok (.invokevirtual 124, 3) := by decide +kernel
theorem dX2_risk_41 : decode cX2_risk 41 = .ok (.iload_n 2, 1) := by decide +kernel
theorem dX2_risk_42 : decode cX2_risk 42 = .ok (.ifCond .ne 10, 3) := by decide +kernel
theorem dX2_risk_45 : decode cX2_risk 45 = .ok (.aload_n 0, 1) := by decide +kernel
theorem dX2_risk_46 : decode cX2_risk 46 = .ok (.invokevirtual 128, 3) := by decide +kernel
theorem dX2_risk_49 : decode cX2_risk 49 = .ok (.goto 8, 3) := by decide +kernel
theorem dX2_risk_52 : decode cX2_risk 52 = .ok (.aload_n 0, 1) := by decide +kernel
theorem dX2_risk_53 : decode cX2_risk 53 = .ok (.iload_n 3, 1) := by decide +kernel
theorem dX2_risk_54 : decode cX2_risk 54 = .ok (.invokevirtual 158, 3) := by decide +kernel
theorem dX2_risk_57 : decode cX2_risk 57 = .ok (.ireturn, 1) := by decide +kernel
theorem dX2_worst_0 : decode cX2_worst 0 = .ok (.iload_n 1, 1) := by decide +kernel
theorem dX2_worst_1 : decode cX2_worst 1 = .ok (.iconst 0, 1) := by decide +kernel
theorem dX2_worst_2 : decode cX2_worst 2 = .ok (.iconst 4, 1) := by decide +kernel
theorem dX2_worst_3 : decode cX2_worst 3 = .ok (.invokestatic 43, 3) := by decide +kernel
theorem dX2_worst_6 : decode cX2_worst 6 = .ok (.ifCond .ne 5, 3) := by decide +kernel
theorem dX2_worst_9 : decode cX2_worst 9 = .ok (.iconst (-1), 1) := by decide +kernel
theorem dX2_worst_10 : decode cX2_worst 10 = .ok (.ireturn, 1) := by decide +kernel
theorem dX2_worst_11 : decode cX2_worst 11 = .ok (.bipush (-9), 2) := by decide +kernel
theorem dX2_worst_13 : decode cX2_worst 13 = .ok (.istore_n 2, 1) := by decide +kernel
theorem dX2_worst_14 : decode cX2_worst 14 = .ok (.iconst 0, 1) := by decide +kernel
theorem dX2_worst_15 : decode cX2_worst 15 = .ok (.istore_n 3, 1) := by decide +kernel
theorem dX2_worst_16 : decode cX2_worst 16 = .ok (.iload_n 3, 1) := by decide +kernel
theorem dX2_worst_17 : decode cX2_worst 17 = .ok (.iconst 1, 1) := by decide +kernel
theorem dX2_worst_18 : decode cX2_worst 18 = .ok (.aload_n 0, 1) := by decide +kernel
theorem dX2_worst_19 : decode cX2_worst 19 = .ok (.invokevirtual 82, 3) := by decide +kernel
theorem dX2_worst_22 : decode cX2_worst 22 = .ok (.ishl, 1) := by decide +kernel
theorem dX2_worst_23 : decode cX2_worst 23 = .ok (.if_icmp .ge 57, 3) := by decide +kernel
theorem dX2_worst_26 : decode cX2_worst 26 = .ok (.iload_n 3, 1) := by decide +kernel
theorem dX2_worst_27 : decode cX2_worst 27 = .ok (.aload_n 0, 1) := by decide +kernel
theorem dX2_worst_28 : decode cX2_worst 28 = .ok (.getfield 7, 3) := by decide +kernel
theorem dX2_worst_31 : decode cX2_worst 31 = .ok (.iconst 2, 1) := by decide +kernel
theorem dX2_worst_32 : decode cX2_worst 32 = .ok (.iaload, 1) := by decide +kernel
theorem dX2_worst_33 : decode cX2_worst 33 = .ok (.iand, 1) := by decide +kernel
theorem dX2_worst_34 : decode cX2_worst 34 = .ok (.ifCond .ne 40, 3) := by decide +kernel
theorem dX2_worst_37 : decode cX2_worst 37 = .ok (.iload_n 3, 1) := by decide +kernel
theorem dX2_worst_38 : decode cX2_worst 38 = .ok (.invokestatic 112, 3) := by decide +kernel
theorem dX2_worst_41 : decode cX2_worst 41 = .ok (.iload_n 1, 1) := by decide +kernel
theorem dX2_worst_42 : decode cX2_worst 42 = .ok (.if_icmp .ne 32, 3) := by decide +kernel
theorem dX2_worst_45 : decode cX2_worst 45 = .ok (.aload_n 0, 1) := by decide +kernel
theorem dX2_worst_46 : decode cX2_worst 46 = .ok (.aload_n 0, 1) := by decide +kernel
theorem dX2_worst_47 : decode cX2_worst 47 = .ok (.getfield 7, 3) := by decide +kernel
theorem dX2_worst_50 : decode cX2_worst 50 = .ok (.iconst 2, 1) := by decide +kernel
theorem dX2_worst_51 : decode cX2_worst 51 = .ok (.iaload, 1) := by decide +kernel
theorem dX2_worst_52 : decode cX2_worst 52 = .ok (.iload_n 3, 1) := by decide +kernel
theorem dX2_worst_53 : decode cX2_worst 53 = .ok (.ior, 1) := by decide +kernel
theorem dX2_worst_54 : decode cX2_worst 54 = .ok (.invokevirtual 124, 3) := by decide +kernel
theorem dX2_worst_57 : decode cX2_worst 57 = .ok (.aload_n 0, 1) := by decide +kernel
theorem dX2_worst_58 : decode cX2_worst 58 = .ok (.invokevirtual 128, 3) := by decide +kernel
theorem dX2_worst_61 : decode cX2_worst 61 = .ok (.iload_n 2, 1) := by decide +kernel
theorem dX2_worst_62 : decode cX2_worst 62 = .ok (.if_icmp .le 10, 3) := by decide +kernel
theorem dX2_worst_65 : decode cX2_worst 65 = .ok (.aload_n 0, 1) := by decide +kernel
theorem dX2_worst_66 : decode cX2_worst 66 = .ok (.invokevirtual 128, 3) := by decide +kernel
theorem dX2_worst_69 : decode cX2_worst 69 = .ok (.goto 4, 3) := by decide +kernel
theorem dX2_worst_72 : decode cX2_worst 72 = .ok (.iload_n 2, 1) := by decide +kernel
theorem dX2_worst_73 : decode cX2_worst 73 = .ok (.istore_n 2, 1) := by decide +kernel
theorem dX2_worst_74 : decode cX2_worst 74 = .ok (.iinc 3 1, 3) := by decide +kernel
theorem dX2_worst_77 : decode cX2_worst 77 = .ok (.goto (-61), 3) := by decide +kernel
theorem dX2_worst_80 : decode cX2_worst 80 = .ok (.iload_n 2, 1) := by decide +kernel
theorem dX2_worst_81 : decode cX2_worst 81 = .ok (.ireturn, 1) := by decide +kernel
theorem dX2_sees_0 : decode cX2_sees 0 = .ok (.aload_n 0, 1) := by decide +kernel
theorem dX2_sees_1 : decode cX2_sees 1 = .ok (.iload_n 1, 1) := by decide +kernel
theorem dX2_sees_2 : decode cX2_sees 2 = .ok (.invokevirtual 78, 3) := by decide +kernel
theorem dX2_sees_5 : decode cX2_sees 5 = .ok (.ifCond .eq 13, 3) := by decide +kernel
theorem dX2_sees_8 : decode cX2_sees 8 = .ok (.iload_n 2, 1) := by decide +kernel
theorem dX2_sees_9 : decode cX2_sees 9 = .ok (.iconst 0, 1) := by decide +kernel
theorem dX2_sees_10 : decode cX2_sees 10 = .ok (.bipush 8, 2) := by decide +kernel
theorem dX2_sees_12 : decode cX2_sees 12 = .ok (.invokestatic 43, 3) := by decide +kernel
theorem dX2_sees_15 : decode cX2_sees 15 = .ok (.ifCond .ne 5, 3) := by decide +kernel
theorem dX2_sees_18 : decode cX2_sees 18 = .ok (.iconst (-1), 1) := by decide +kernel
theorem dX2_sees_19 : decode cX2_sees 19 = .ok (.ireturn, 1) := by decide +kernel
theorem dX2_sees_20 : decode cX2_sees 20 = .ok (.aload_n 0, 1) := by decide +kernel
theorem dX2_sees_21 : decode cX2_sees 21 = .ok (.getfield 75, 3) := by decide +kernel
theorem dX2_sees_24 : decode cX2_sees 24 = .ok (.bipush 6, 2) := by decide +kernel
theorem dX2_sees_26 : decode cX2_sees 26 = .ok (.if_icmp .ne 6, 3) := by decide +kernel
theorem dX2_sees_29 : decode cX2_sees 29 = .ok (.bipush (-3), 2) := by decide +kernel
theorem dX2_sees_31 : decode cX2_sees 31 = .ok (.ireturn, 1) := by decide +kernel
theorem dX2_sees_32 : decode cX2_sees 32 = .ok (.aload_n 0, 1) := by decide +kernel
theorem dX2_sees_33 : decode cX2_sees 33 = .ok (.getfield 23, 3) := by decide +kernel
theorem dX2_sees_36 : decode cX2_sees 36 = .ok (.aload_n 0, 1) := by decide +kernel
theorem dX2_sees_37 : decode cX2_sees 37 = .ok (.getfield 75, 3) := by decide +kernel
theorem dX2_sees_40 : decode cX2_sees 40 = .ok (.iload_n 1, 1) := by decide +kernel
theorem dX2_sees_41 : decode cX2_sees 41 = .ok (.iastore, 1) := by decide +kernel
theorem dX2_sees_42 : decode cX2_sees 42 = .ok (.aload_n 0, 1) := by decide +kernel
theorem dX2_sees_43 : decode cX2_sees 43 = .ok (.getfield 26, 3) := by decide +kernel
theorem dX2_sees_46 : decode cX2_sees 46 = .ok (.aload_n 0, 1) := by decide +kernel
theorem dX2_sees_47 : decode cX2_sees 47 = .ok (.getfield 75, 3) := by decide +kernel
theorem dX2_sees_50 : decode cX2_sees 50 = .ok (.iload_n 2, 1) := by decide +kernel
theorem dX2_sees_51 : decode cX2_sees 51 = .ok (.iastore, 1) := by decide +kernel
theorem dX2_sees_52 : decode cX2_sees 52 = .ok (.aload_n 0, 1) := by decide +kernel
theorem dX2_sees_53 : decode cX2_sees 53 = .ok (.dup, 1) := by decide +kernel
theorem dX2_sees_54 : decode cX2_sees 54 = .ok (.getfield 75, 3) := by decide +kernel
theorem dX2_sees_57 : decode cX2_sees 57 = .ok (.iconst 1, 1) := by decide +kernel
theorem dX2_sees_58 : decode cX2_sees 58 = .ok (.iadd, 1) := by decide +kernel
theorem dX2_sees_59 : decode cX2_sees 59 = .ok (.putfield 75, 3) := by decide +kernel
theorem dX2_sees_62 : decode cX2_sees 62 = .ok (.aload_n 0, 1) := by decide +kernel
theorem dX2_sees_63 : decode cX2_sees 63 = .ok (.getfield 75, 3) := by decide +kernel
theorem dX2_sees_66 : decode cX2_sees 66 = .ok (.ireturn, 1) := by decide +kernel
theorem dX2_forget_0 : decode cX2_forget 0 = .ok (.aload_n 0, 1) := by decide +kernel
theorem dX2_forget_1 : decode cX2_forget 1 = .ok (.getfield 75, 3) := by decide +kernel
theorem dX2_forget_4 : decode cX2_forget 4 = .ok (.istore_n 1, 1) := by decide +kernel
theorem dX2_forget_5 : decode cX2_forget 5 = .ok (.aload_n 0, 1) := by decide +kernel
theorem dX2_forget_6 : decode cX2_forget 6 = .ok (.iconst 0, 1) := by decide +kernel
theorem dX2_forget_7 : decode cX2_forget 7 = .ok (.putfield 75, 3) := by decide +kernel
theorem dX2_forget_10 : decode cX2_forget 10 = .ok (.iload_n 1, 1) := by decide +kernel
theorem dX2_forget_11 : decode cX2_forget 11 = .ok (.ireturn, 1) := by decide +kernel
theorem dX2_fits_0 : decode cX2_fits 0 = .ok (.iload_n 1, 1) := by decide +kernel
theorem dX2_fits_1 : decode cX2_fits 1 = .ok (.ifCond .eq 14, 3) := by decide +kernel
theorem dX2_fits_4 : decode cX2_fits 4 = .ok (.iload_n 1, 1) := by decide +kernel
theorem dX2_fits_5 : decode cX2_fits 5 = .ok (.aload_n 0, 1) := by decide +kernel
theorem dX2_fits_6 : decode cX2_fits 6 = .ok (.getfield 7, 3) := by decide +kernel
theorem dX2_fits_9 : decode cX2_fits 9 = .ok (.iconst 2, 1) := by decide +kernel
theorem dX2_fits_10 : decode cX2_fits 10 = .ok (.iaload, 1) := by decide +kernel
theorem dX2_fits_11 : decode cX2_fits 11 = .ok (.iand, 1) := by decide +kernel
theorem dX2_fits_12 : decode cX2_fits 12 = .ok (.ifCond .eq 5, 3) := by decide +kernel
theorem dX2_fits_15 : decode cX2_fits 15 = .ok (.iconst 0, 1) := by decide +kernel
theorem dX2_fits_16 : decode cX2_fits 16 = .ok (.ireturn, 1) := by decide +kernel
theorem dX2_fits_17 : decode cX2_fits 17 = .ok (.aload_n 0, 1) := by decide +kernel
theorem dX2_fits_18 : decode cX2_fits 18 = .ok (.aload_n 0, 1) := by decide +kernel
theorem dX2_fits_19 : decode cX2_fits 19 = .ok (.getfield 7, 3) := by decide +kernel
theorem dX2_fits_22 : decode cX2_fits 22 = .ok (.iconst 2, 1) := by decide +kernel
theorem dX2_fits_23 : decode cX2_fits 23 = .ok (.iaload, 1) := by decide +kernel
theorem dX2_fits_24 : decode cX2_fits 24 = .ok (.iload_n 1, 1) := by decide +kernel
theorem dX2_fits_25 : decode cX2_fits 25 = .ok (.ior, 1) := by decide +kernel
theorem dX2_fits_26 : decode cX2_fits 26 = .ok (.invokevirtual 124, 3) := by decide +kernel
theorem dX2_fits_29 : decode cX2_fits 29 = .ok (.iconst 1, 1) := by decide +kernel
theorem dX2_fits_30 : decode cX2_fits 30 = .ok (.istore_n 2, 1) := by decide +kernel
theorem dX2_fits_31 : decode cX2_fits 31 = .ok (.iconst 0, 1) := by decide +kernel
theorem dX2_fits_32 : decode cX2_fits 32 = .ok (.istore_n 3, 1) := by decide +kernel
theorem dX2_fits_33 : decode cX2_fits 33 = .ok (.iload_n 3, 1) := by decide +kernel
theorem dX2_fits_34 : decode cX2_fits 34 = .ok (.aload_n 0, 1) := by decide +kernel
theorem dX2_fits_35 : decode cX2_fits 35 = .ok (.getfield 75, 3) := by decide +kernel
theorem dX2_fits_38 : decode cX2_fits 38 = .ok (.if_icmp .ge 39, 3) := by decide +kernel
theorem dX2_fits_41 : decode cX2_fits 41 = .ok (.iload_n 2, 1) := by decide +kernel
theorem dX2_fits_42 : decode cX2_fits 42 = .ok (.ifCond .eq 27, 3) := by decide +kernel
theorem dX2_fits_45 : decode cX2_fits 45 = .ok (.aload_n 0, 1) := by decide +kernel
theorem dX2_fits_46 : decode cX2_fits 46 = .ok (.getfield 29, 3) := by decide +kernel
theorem dX2_fits_49 : decode cX2_fits 49 = .ok (.aload_n 0, 1) := by decide +kernel
theorem dX2_fits_50 : decode cX2_fits 50 = .ok (.getfield 23, 3) := by decide +kernel
theorem dX2_fits_53 : decode cX2_fits 53 = .ok (.iload_n 3, 1) := by decide +kernel
theorem dX2_fits_54 : decode cX2_fits 54 = .ok (.iaload, 1) := by decide +kernel
theorem dX2_fits_55 : decode cX2_fits 55 = .ok (.iaload, 1) := by decide +kernel
theorem dX2_fits_56 : decode cX2_fits 56 = .ok (.aload_n 0, 1) := by decide +kernel
theorem dX2_fits_57 : decode cX2_fits 57 = .ok (.getfield 26, 3) := by decide +kernel
theorem dX2_fits_60 : decode cX2_fits 60 = .ok (.iload_n 3, 1) := by decide +kernel
theorem dX2_fits_61 : decode cX2_fits 61 = .ok (.iaload, 1) := by decide +kernel
theorem dX2_fits_62 : decode cX2_fits 62 = .ok (.if_icmp .ne 7, 3) := by decide +kernel
theorem dX2_fits_65 : decode cX2_fits 65 = .ok (.iconst 1, 1) := by decide +kernel
theorem dX2_fits_66 : decode cX2_fits 66 = .ok (.goto 4, 3) := by decide +kernel
theorem dX2_fits_69 : decode cX2_fits 69 = .ok (.iconst 0, 1) := by decide +kernel
theorem dX2_fits_70 : decode cX2_fits 70 = .ok (.istore_n 2, 1) := by decide +kernel
theorem dX2_fits_71 : decode cX2_fits 71 = .ok (.iinc 3 1, 3) := by decide +kernel
theorem dX2_fits_74 : decode cX2_fits 74 = .ok (.goto (-41), 3) := by decide +kernel
theorem dX2_fits_77 : decode cX2_fits 77 = .ok (.iload_n 2, 1) := by decide +kernel
theorem dX2_fits_78 : decode cX2_fits 78 = .ok (.ireturn, 1) := by decide +kernel
theorem dX2_which_0 : decode cX2_which 0 = .ok (.iload_n 1, 1) := by decide +kernel
theorem dX2_which_1 : decode cX2_which 1 = .ok (.iconst 0, 1) := by decide +kernel
theorem dX2_which_2 : decode cX2_which 2 = .ok (.iconst 1, 1) := by decide +kernel
theorem dX2_which_3 : decode cX2_which 3 = .ok (.invokestatic 43, 3) := by decide +kernel
theorem dX2_which_6 : decode cX2_which 6 = .ok (.ifCond .ne 5, 3) := by decide +kernel
theorem dX2_which_9 : decode cX2_which 9 = .ok (.iconst (-1), 1) := by decide +kernel
theorem dX2_which_10 : decode cX2_which 10 = .ok (.ireturn, 1) := by decide +kernel
theorem dX2_which_11 : decode cX2_which 11 = .ok (.iconst 0, 1) := by decide +kernel
theorem dX2_which_12 : decode cX2_which 12 = .ok (.istore_n 2, 1) := by decide +kernel
theorem dX2_which_13 : decode cX2_which 13 = .ok (.bipush (-9), 2) := by decide +kernel
theorem dX2_which_15 : decode cX2_which 15 = .ok (.istore_n 3, 1) := by decide +kernel
theorem dX2_which_16 : decode cX2_which 16 = .ok (.iconst 0, 1) := by decide +kernel
theorem dX2_which_17 : decode cX2_which 17 = .ok (.istore 4, 2) := by decide +kernel
theorem dX2_which_19 : decode cX2_which 19 = .ok (.iload 4, 2) := by decide +kernel
theorem dX2_which_21 : decode cX2_which 21 = .ok (.iconst 1, 1) := by decide +kernel
theorem dX2_which_22 : decode cX2_which 22 = .ok (.aload_n 0, 1) := by decide +kernel
theorem dX2_which_23 : decode cX2_which 23 = .ok (.invokevirtual 82, 3) := by decide +kernel
theorem dX2_which_26 : decode cX2_which 26 = .ok (.ishl, 1) := by decide +kernel
theorem dX2_which_27 : decode cX2_which 27 = .ok (.if_icmp .ge 32, 3) := by decide +kernel
theorem dX2_which_30 : decode cX2_which 30 = .ok (.aload_n 0, 1) := by decide +kernel
theorem dX2_which_31 : decode cX2_which 31 = .ok (.iload 4, 2) := by decide +kernel
theorem dX2_which_33 : decode cX2_which 33 = .ok (.invokevirtual 161, 3) := by decide +kernel
theorem dX2_which_36 : decode cX2_which 36 = .ok (.ifCond .eq 17, 3) := by decide +kernel
theorem dX2_which_39 : decode cX2_which 39 = .ok (.iload_n 2, 1) := by decide +kernel
theorem dX2_which_40 : decode cX2_which 40 = .ok (.ifCond .ne 8, 3) := by decide +kernel
theorem dX2_which_43 : decode cX2_which 43 = .ok (.iload 4, 2) := by decide +kernel
theorem dX2_which_45 : decode cX2_which 45 = .ok (.goto 4, 3) := by decide +kernel
theorem dX2_which_48 : decode cX2_which 48 = .ok (.iload_n 3, 1) := by decide +kernel
theorem dX2_which_49 : decode cX2_which 49 = .ok (.istore_n 3, 1) := by decide +kernel
theorem dX2_which_50 : decode cX2_which 50 = .ok (.iinc 2 1, 3) := by decide +kernel
theorem dX2_which_53 : decode cX2_which 53 = .ok (.iinc 4 1, 3) := by decide +kernel
theorem dX2_which_56 : decode cX2_which 56 = .ok (.goto (-37), 3) := by decide +kernel
theorem dX2_which_59 : decode cX2_which 59 = .ok (.iload_n 1, 1) := by decide +kernel
theorem dX2_which_60 : decode cX2_which 60 = .ok (.ifCond .ne 7, 3) := by decide +kernel
theorem dX2_which_63 : decode cX2_which 63 = .ok (.iload_n 2, 1) := by decide +kernel
theorem dX2_which_64 : decode cX2_which 64 = .ok (.goto 4, 3) := by decide +kernel
theorem dX2_which_67 : decode cX2_which 67 = .ok (.iload_n 3, 1) := by decide +kernel
theorem dX2_which_68 : decode cX2_which 68 = .ok (.ireturn, 1) := by decide +kernel
theorem dX2_greatest_0 : decode cX2_greatest 0 = .ok (.iconst 0, 1) := by decide +kernel
theorem dX2_greatest_1 : decode cX2_greatest 1 = .ok (.istore_n 2, 1) := by decide +kernel
theorem dX2_greatest_2 : decode cX2_greatest 2 = .ok (.iload_n 2, 1) := by decide +kernel
theorem dX2_greatest_3 : decode cX2_greatest 3 = .ok (.bipush 8, 2) := by decide +kernel
theorem dX2_greatest_5 : decode cX2_greatest 5 = .ok (.if_icmp .gt 16, 3) := by decide +kernel
theorem dX2_greatest_8 : decode cX2_greatest 8 = .ok (.aload_n 0, 1) := by decide +kernel
theorem dX2_greatest_9 : decode cX2_greatest 9 = .ok (.getfield 32, 3) := by decide +kernel
theorem dX2_greatest_12 : decode cX2_greatest 12 = .ok (.iload_n 2, 1) := by decide +kernel
theorem dX2_greatest_13 : decode cX2_greatest 13 = .ok (.iconst 0, 1) := by decide +kernel
theorem dX2_greatest_14 : decode cX2_greatest 14 = .ok (.iastore, 1) := by decide +kernel
theorem dX2_greatest_15 : decode cX2_greatest 15 = .ok (.iinc 2 1, 3) := by decide +kernel
theorem dX2_greatest_18 : decode cX2_greatest 18 = .ok (.goto (-16), 3) := by decide +kernel
theorem dX2_greatest_21 : decode cX2_greatest 21 = .ok (.iconst 0, 1) := by decide +kernel
theorem dX2_greatest_22 : decode cX2_greatest 22 = .ok (.istore_n 2, 1) := by decide +kernel
theorem dX2_greatest_23 : decode cX2_greatest 23 = .ok (.iconst 0, 1) := by decide +kernel
theorem dX2_greatest_24 : decode cX2_greatest 24 = .ok (.istore_n 3, 1) := by decide +kernel
theorem dX2_greatest_25 : decode cX2_greatest 25 = .ok (.iload_n 3, 1) := by decide +kernel
theorem dX2_greatest_26 : decode cX2_greatest 26 = .ok (.iconst 1, 1) := by decide +kernel
theorem dX2_greatest_27 : decode cX2_greatest 27 = .ok (.aload_n 0, 1) := by decide +kernel
theorem dX2_greatest_28 : decode cX2_greatest 28 = .ok (.invokevirtual 82, 3) := by decide +kernel
theorem dX2_greatest_31 : decode cX2_greatest 31 = .ok (.ishl, 1) := by decide +kernel
theorem dX2_greatest_32 : decode cX2_greatest 32 = .ok (.if_icmp .ge 63, 3) := by decide +kernel
theorem dX2_greatest_35 : decode cX2_greatest 35 = .ok (.aload_n 0, 1) := by decide +kernel
theorem dX2_greatest_36 : decode cX2_greatest 36 = .ok (.iload_n 3, 1) := by decide +kernel
theorem dX2_greatest_37 : decode cX2_greatest 37 = .ok (.invokevirtual 161, 3) := by decide +kernel
theorem dX2_greatest_40 : decode cX2_greatest 40 = .ok (.ifCond .eq 49, 3) := by decide +kernel
theorem dX2_greatest_43 : decode cX2_greatest 43 = .ok (.aload_n 0, 1) := by decide +kernel
theorem dX2_greatest_44 : decode cX2_greatest 44 = .ok (.getfield 32, 3) := by decide +kernel
theorem dX2_greatest_47 : decode cX2_greatest 47 = .ok (.aload_n 0, 1) := by decide +kernel
theorem dX2_greatest_48 : decode cX2_greatest 48 = .ok (.getfield 29, 3) := by decide +kernel
theorem dX2_greatest_51 : decode cX2_greatest 51 = .ok (.iload_n 1, 1) := by decide +kernel
theorem dX2_greatest_52 : decode cX2_greatest 52 = .ok (.iaload, 1) := by decide +kernel
theorem dX2_greatest_53 : decode cX2_greatest 53 = .ok (.dup2, 1) := by decide +kernel
theorem dX2_greatest_54 : decode cX2_greatest 54 = .ok (.iaload, 1) := by decide +kernel
theorem dX2_greatest_55 : decode cX2_greatest 55 = .ok (.iconst 1, 1) := by decide +kernel
theorem dX2_greatest_56 : decode cX2_greatest 56 = .ok (.iadd, 1) := by decide +kernel
theorem dX2_greatest_57 : decode cX2_greatest 57 = .ok (.iastore, 1) := by decide +kernel
theorem dX2_greatest_58 : decode cX2_greatest 58 = .ok (.aload_n 0, 1) := by decide +kernel
theorem dX2_greatest_59 : decode cX2_greatest 59 = .ok (.getfield 32, 3) := by decide +kernel
theorem dX2_greatest_62 : decode cX2_greatest 62 = .ok (.aload_n 0, 1) := by decide +kernel
theorem dX2_greatest_63 : decode cX2_greatest 63 = .ok (.getfield 29, 3) := by decide +kernel
theorem dX2_greatest_66 : decode cX2_greatest 66 = .ok (.iload_n 1, 1) := by decide +kernel
theorem dX2_greatest_67 : decode cX2_greatest 67 = .ok (.iaload, 1) := by decide +kernel
theorem dX2_greatest_68 : decode cX2_greatest 68 = .ok (.iaload, 1) := by decide +kernel
theorem dX2_greatest_69 : decode cX2_greatest 69 = .ok (.iload_n 2, 1) := by decide +kernel
theorem dX2_greatest_70 : decode cX2_greatest 70 = .ok (.if_icmp .le 17, 3) := by decide +kernel
theorem dX2_greatest_73 : decode cX2_greatest 73 = .ok (.aload_n 0, 1) := by decide +kernel
theorem dX2_greatest_74 : decode cX2_greatest 74 = .ok (.getfield 32, 3) := by decide +kernel
theorem dX2_greatest_77 : decode cX2_greatest 77 = .ok (.aload_n 0, 1) := by decide +kernel
theorem dX2_greatest_78 : decode cX2_greatest 78 = .ok (.getfield 29, 3) := by decide +kernel
theorem dX2_greatest_81 : decode cX2_greatest 81 = .ok (.iload_n 1, 1) := by decide +kernel
theorem dX2_greatest_82 : decode cX2_greatest 82 = .ok (.iaload, 1) := by decide +kernel
theorem dX2_greatest_83 : decode cX2_greatest 83 = .ok (.iaload, 1) := by decide +kernel
theorem dX2_greatest_84 : decode cX2_greatest 84 = .ok (.goto 4, 3) := by decide +kernel
theorem dX2_greatest_87 : decode cX2_greatest 87 = .ok (.iload_n 2, 1) := by decide +kernel
theorem dX2_greatest_88 : decode cX2_greatest 88 = .ok (.istore_n 2, 1) := by decide +kernel
theorem dX2_greatest_89 : decode cX2_greatest 89 = .ok (.iinc 3 1, 3) := by decide +kernel
theorem dX2_greatest_92 : decode cX2_greatest 92 = .ok (.goto (-67), 3) := by decide +kernel
theorem dX2_greatest_95 : decode cX2_greatest 95 = .ok (.iload_n 2, 1) := by decide +kernel
theorem dX2_greatest_96 : decode cX2_greatest 96 = .ok (.ireturn, 1) := by decide +kernel
theorem dX2_ask_0 : decode cX2_ask 0 = .ok (.aload_n 0, 1) := by decide +kernel
theorem dX2_ask_1 : decode cX2_ask 1 = .ok (.iconst 0, 1) := by decide +kernel
theorem dX2_ask_2 : decode cX2_ask 2 = .ok (.invokevirtual 164, 3) := by decide +kernel
theorem dX2_ask_5 : decode cX2_ask 5 = .ok (.iconst 2, 1) := by decide +kernel
theorem dX2_ask_6 : decode cX2_ask 6 = .ok (.if_icmp .ge 6, 3) := by decide +kernel
theorem dX2_ask_9 : decode cX2_ask 9 = .ok (.bipush (-9), 2) := by decide +kernel
theorem dX2_ask_11 : decode cX2_ask 11 = .ok (.ireturn, 1) := by decide +kernel
theorem dX2_ask_12 : decode cX2_ask 12 = .ok (.iconst 0, 1) := by decide +kernel
theorem dX2_ask_13 : decode cX2_ask 13 = .ok (.istore_n 1, 1) := by decide +kernel
theorem dX2_ask_14 : decode cX2_ask 14 = .ok (.iconst 1, 1) := by decide +kernel
theorem dX2_ask_15 : decode cX2_ask 15 = .ok (.istore_n 2, 1) := by decide +kernel
theorem dX2_ask_16 : decode cX2_ask 16 = .ok (.iload_n 2, 1) := by decide +kernel
theorem dX2_ask_17 : decode cX2_ask 17 = .ok (.aload_n 0, 1) := by decide +kernel
theorem dX2_ask_18 : decode cX2_ask 18 = .ok (.invokevirtual 82, 3) := by decide +kernel
theorem dX2_ask_21 : decode cX2_ask 21 = .ok (.if_icmp .ge 28, 3) := by decide +kernel
theorem dX2_ask_24 : decode cX2_ask 24 = .ok (.aload_n 0, 1) := by decide +kernel
theorem dX2_ask_25 : decode cX2_ask 25 = .ok (.iload_n 2, 1) := by decide +kernel
theorem dX2_ask_26 : decode cX2_ask 26 = .ok (.invokevirtual 167, 3) := by decide +kernel
theorem dX2_ask_29 : decode cX2_ask 29 = .ok (.aload_n 0, 1) := by decide +kernel
theorem dX2_ask_30 : decode cX2_ask 30 = .ok (.iload_n 1, 1) := by decide +kernel
theorem dX2_ask_31 : decode cX2_ask 31 = .ok (.invokevirtual 167, 3) := by decide +kernel
theorem dX2_ask_34 : decode cX2_ask 34 = .ok (.if_icmp .ge 7, 3) := by decide +kernel
theorem dX2_ask_37 : decode cX2_ask 37 = .ok (.iload_n 2, 1) := by decide +kernel
theorem dX2_ask_38 : decode cX2_ask 38 = .ok (.goto 4, 3) := by decide +kernel
theorem dX2_ask_41 : decode cX2_ask 41 = .ok (.iload_n 1, 1) := by decide +kernel
theorem dX2_ask_42 : decode cX2_ask 42 = .ok (.istore_n 1, 1) := by decide +kernel
theorem dX2_ask_43 : decode cX2_ask 43 = .ok (.iinc 2 1, 3) := by decide +kernel
theorem dX2_ask_46 : decode cX2_ask 46 = .ok (.goto (-30), 3) := by decide +kernel
theorem dX2_ask_49 : decode cX2_ask 49 = .ok (.iload_n 1, 1) := by decide +kernel
theorem dX2_ask_50 : decode cX2_ask 50 = .ok (.ireturn, 1) := by decide +kernel
theorem dX2_allReceipts_0 : decode cX2_allReceipts 0 = .ok (.iconst 0, 1) := by decide +kernel
theorem dX2_allReceipts_1 : decode cX2_allReceipts 1 = .ok (.istore_n 1, 1) := by decide +kernel
theorem dX2_allReceipts_2 : decode cX2_allReceipts 2 = .ok (.iconst 0, 1) := by decide +kernel
theorem dX2_allReceipts_3 : decode cX2_allReceipts 3 = .ok (.istore_n 2, 1) := by decide +kernel
theorem dX2_allReceipts_4 : decode cX2_allReceipts 4 = .ok (.iload_n 2, 1) := by decide +kernel
theorem dX2_allReceipts_5 : decode cX2_allReceipts 5 = .ok (.aload_n 0, 1) := by decide +kernel
theorem dX2_allReceipts_6 : decode cX2_allReceipts 6 = .ok (.invokevirtual 82, 3) := by decide +kernel
theorem dX2_allReceipts_9 : decode cX2_allReceipts 9 = .ok (.if_icmp .ge 17, 3) := by decide +kernel
theorem dX2_allReceipts_12 : decode cX2_allReceipts 12 = .ok (.iload_n 1, 1) := by decide +kernel
theorem dX2_allReceipts_13 : decode cX2_allReceipts 13 = .ok (.aload_n 0, 1) := by decide +kernel
theorem dX2_allReceipts_14 : decode cX2_allReceipts 14 = .ok (.iload_n 2, 1) := by decide +kernel
theorem dX2_allReceipts_15 : decode cX2_allReceipts 15 = .ok (.invokevirtual 47, 3) := by decide +kernel
theorem dX2_allReceipts_18 : decode cX2_allReceipts 18 = .ok (.iadd, 1) := by decide +kernel
theorem dX2_allReceipts_19 : decode cX2_allReceipts 19 = .ok (.istore_n 1, 1) := by decide +kernel
theorem dX2_allReceipts_20 : decode cX2_allReceipts 20 = .ok (.iinc 2 1, 3) := by decide +kernel
theorem dX2_allReceipts_23 : decode cX2_allReceipts 23 = .ok (.goto (-19), 3) := by decide +kernel
theorem dX2_allReceipts_26 : decode cX2_allReceipts 26 = .ok (.iload_n 1, 1) := by decide +kernel
theorem dX2_allReceipts_27 : decode cX2_allReceipts 27 = .ok (.ireturn, 1) := by decide +kernel
theorem dX2_keep_0 : decode cX2_keep 0 = .ok (.iload_n 1, 1) := by decide +kernel
theorem dX2_keep_1 : decode cX2_keep 1 = .ok (.iconst 0, 1) := by decide +kernel
theorem dX2_keep_2 : decode cX2_keep 2 = .ok (.iconst 1, 1) := by decide +kernel
theorem dX2_keep_3 : decode cX2_keep 3 = .ok (.invokestatic 43, 3) := by decide +kernel
theorem dX2_keep_6 : decode cX2_keep 6 = .ok (.ifCond .ne 5, 3) := by decide +kernel
theorem dX2_keep_9 : decode cX2_keep 9 = .ok (.iconst (-1), 1) := by decide +kernel
theorem dX2_keep_10 : decode cX2_keep 10 = .ok (.ireturn, 1) := by decide +kernel
theorem dX2_keep_11 : decode cX2_keep 11 = .ok (.iconst 0, 1) := by decide +kernel
theorem dX2_keep_12 : decode cX2_keep 12 = .ok (.istore_n 2, 1) := by decide +kernel
theorem dX2_keep_13 : decode cX2_keep 13 = .ok (.iload_n 2, 1) := by decide +kernel
theorem dX2_keep_14 : decode cX2_keep 14 = .ok (.sipush 1263, 3) := by decide +kernel
theorem dX2_keep_17 : decode cX2_keep 17 = .ok (.if_icmp .ge 27, 3) := by decide +kernel
theorem dX2_keep_20 : decode cX2_keep 20 = .ok (.aload_n 0, 1) := by decide +kernel
theorem dX2_keep_21 : decode cX2_keep 21 = .ok (.getfield 16, 3) := by decide +kernel
theorem dX2_keep_24 : decode cX2_keep 24 = .ok (.sipush 1263, 3) := by decide +kernel
theorem dX2_keep_27 : decode cX2_keep 27 = .ok (.iload_n 1, 1) := by decide +kernel
theorem dX2_keep_28 : decode cX2_keep 28 = .ok (.imul, 1) := by decide +kernel
theorem dX2_keep_29 : decode cX2_keep 29 = .ok (.iload_n 2, 1) := by decide +kernel
theorem dX2_keep_30 : decode cX2_keep 30 = .ok (.iadd, 1) := by decide +kernel
theorem dX2_keep_31 : decode cX2_keep 31 = .ok (.aload_n 0, 1) := by decide +kernel
theorem dX2_keep_32 : decode cX2_keep 32 = .ok (.getfield 7, 3) := by decide +kernel
theorem dX2_keep_35 : decode cX2_keep 35 = .ok (.iload_n 2, 1) := by decide +kernel
theorem dX2_keep_36 : decode cX2_keep 36 = .ok (.iaload, 1) := by decide +kernel
theorem dX2_keep_37 : decode cX2_keep 37 = .ok (.iastore, 1) := by decide +kernel
theorem dX2_keep_38 : decode cX2_keep 38 = .ok (.iinc 2 1, 3) := by decide +kernel
theorem dX2_keep_41 : decode cX2_keep 41 = .ok (.goto (-28), 3) := by decide +kernel
theorem dX2_keep_44 : decode cX2_keep 44 = .ok (.aload_n 0, 1) := by decide +kernel
theorem dX2_keep_45 : decode cX2_keep 45 = .ok (.getfield 19, 3) := by decide +kernel
theorem dX2_keep_48 : decode cX2_keep 48 = .ok (.iload_n 1, 1) := by decide +kernel
theorem dX2_keep_49 : decode cX2_keep 49 = .ok (.iconst 1, 1) := by decide +kernel
theorem dX2_keep_50 : decode cX2_keep 50 = .ok (.bastore, 1) := by decide +kernel
theorem dX2_keep_51 : decode cX2_keep 51 = .ok (.aload_n 0, 1) := by decide +kernel
theorem dX2_keep_52 : decode cX2_keep 52 = .ok (.invokevirtual 170, 3) := by decide +kernel
theorem dX2_keep_55 : decode cX2_keep 55 = .ok (.ireturn, 1) := by decide +kernel
theorem dX2_back_0 : decode cX2_back 0 = .ok (.iload_n 1, 1) := by decide +kernel
theorem dX2_back_1 : decode cX2_back 1 = .ok (.iconst 0, 1) := by decide +kernel
theorem dX2_back_2 : decode cX2_back 2 = .ok (.iconst 1, 1) := by decide +kernel
theorem dX2_back_3 : decode cX2_back 3 = .ok (.invokestatic 43, 3) := by decide +kernel
theorem dX2_back_6 : decode cX2_back 6 = .ok (.ifCond .ne 5, 3) := by decide +kernel
theorem dX2_back_9 : decode cX2_back 9 = .ok (.iconst (-1), 1) := by decide +kernel
theorem dX2_back_10 : decode cX2_back 10 = .ok (.ireturn, 1) := by decide +kernel
theorem dX2_back_11 : decode cX2_back 11 = .ok (.aload_n 0, 1) := by decide +kernel
theorem dX2_back_12 : decode cX2_back 12 = .ok (.getfield 19, 3) := by decide +kernel
theorem dX2_back_15 : decode cX2_back 15 = .ok (.iload_n 1, 1) := by decide +kernel
theorem dX2_back_16 : decode cX2_back 16 = .ok (.baload, 1) := by decide +kernel
theorem dX2_back_17 : decode cX2_back 17 = .ok (.ifCond .ne 6, 3) := by decide +kernel
theorem dX2_back_20 : decode cX2_back 20 = .ok (.bipush (-2), 2) := by decide +kernel
theorem dX2_back_22 : decode cX2_back 22 = .ok (.ireturn, 1) := by decide +kernel
theorem dX2_back_23 : decode cX2_back 23 = .ok (.iconst 0, 1) := by decide +kernel
theorem dX2_back_24 : decode cX2_back 24 = .ok (.istore_n 2, 1) := by decide +kernel
theorem dX2_back_25 : decode cX2_back 25 = .ok (.iload_n 2, 1) := by decide +kernel
theorem dX2_back_26 : decode cX2_back 26 = .ok (.sipush 1263, 3) := by decide +kernel
theorem dX2_back_29 : decode cX2_back 29 = .ok (.if_icmp .ge 27, 3) := by decide +kernel
theorem dX2_back_32 : decode cX2_back 32 = .ok (.aload_n 0, 1) := by decide +kernel
theorem dX2_back_33 : decode cX2_back 33 = .ok (.getfield 7, 3) := by decide +kernel
theorem dX2_back_36 : decode cX2_back 36 = .ok (.iload_n 2, 1) := by decide +kernel
theorem dX2_back_37 : decode cX2_back 37 = .ok (.aload_n 0, 1) := by decide +kernel
theorem dX2_back_38 : decode cX2_back 38 = .ok (.getfield 16, 3) := by decide +kernel
theorem dX2_back_41 : decode cX2_back 41 = .ok (.sipush 1263, 3) := by decide +kernel
theorem dX2_back_44 : decode cX2_back 44 = .ok (.iload_n 1, 1) := by decide +kernel
theorem dX2_back_45 : decode cX2_back 45 = .ok (.imul, 1) := by decide +kernel
theorem dX2_back_46 : decode cX2_back 46 = .ok (.iload_n 2, 1) := by decide +kernel
theorem dX2_back_47 : decode cX2_back 47 = .ok (.iadd, 1) := by decide +kernel
theorem dX2_back_48 : decode cX2_back 48 = .ok (.iaload, 1) := by decide +kernel
theorem dX2_back_49 : decode cX2_back 49 = .ok (.iastore, 1) := by decide +kernel
theorem dX2_back_50 : decode cX2_back 50 = .ok (.iinc 2 1, 3) := by decide +kernel
theorem dX2_back_53 : decode cX2_back 53 = .ok (.goto (-28), 3) := by decide +kernel
theorem dX2_back_56 : decode cX2_back 56 = .ok (.aload_n 0, 1) := by decide +kernel
theorem dX2_back_57 : decode cX2_back 57 = .ok (.iconst 0, 1) := by decide +kernel
theorem dX2_back_58 : decode cX2_back 58 = .ok (.putfield 68, 3) := by decide +kernel
theorem dX2_back_61 : decode cX2_back 61 = .ok (.aload_n 0, 1) := by decide +kernel
theorem dX2_back_62 : decode cX2_back 62 = .ok (.invokevirtual 170, 3) := by decide +kernel
theorem dX2_back_65 : decode cX2_back 65 = .ok (.ireturn, 1) := by decide +kernel
theorem dX2_allLetters_0 : decode cX2_allLetters 0 = .ok (.iconst 0, 1) := by decide +kernel
theorem dX2_allLetters_1 : decode cX2_allLetters 1 = .ok (.istore_n 1, 1) := by decide +kernel
theorem dX2_allLetters_2 : decode cX2_allLetters 2 = .ok (.iconst 0, 1) := by decide +kernel
theorem dX2_allLetters_3 : decode cX2_allLetters 3 = .ok (.istore_n 2, 1) := by decide +kernel
theorem dX2_allLetters_4 : decode cX2_allLetters 4 = .ok (.iload_n 2, 1) := by decide +kernel
theorem dX2_allLetters_5 : decode cX2_allLetters 5 = .ok (.aload_n 0, 1) := by decide +kernel
theorem dX2_allLetters_6 : decode cX2_allLetters 6 = .ok (.invokevirtual 82, 3) := by decide +kernel
theorem dX2_allLetters_9 : decode cX2_allLetters 9 = .ok (.if_icmp .gt 17, 3) := by decide +kernel
theorem dX2_allLetters_12 : decode cX2_allLetters 12 = .ok (.iload_n 1, 1) := by decide +kernel
theorem dX2_allLetters_13 : decode cX2_allLetters 13 = .ok (.aload_n 0, 1) := by decide +kernel
theorem dX2_allLetters_14 : decode cX2_allLetters 14 = .ok (.iload_n 2, 1) := by decide +kernel
theorem dX2_allLetters_15 : decode cX2_allLetters 15 = .ok (.invokevirtual 140, 3) := by decide +kernel
theorem dX2_allLetters_18 : decode cX2_allLetters 18 = .ok (.iadd, 1) := by decide +kernel
theorem dX2_allLetters_19 : decode cX2_allLetters 19 = .ok (.istore_n 1, 1) := by decide +kernel
theorem dX2_allLetters_20 : decode cX2_allLetters 20 = .ok (.iinc 2 1, 3) := by decide +kernel
theorem dX2_allLetters_23 : decode cX2_allLetters 23 = .ok (.goto (-19), 3) := by decide +kernel
theorem dX2_allLetters_26 : decode cX2_allLetters 26 = .ok (.iload_n 1, 1) := by decide +kernel
theorem dX2_allLetters_27 : decode cX2_allLetters 27 = .ok (.ireturn, 1) := by decide +kernel
theorem dX2_allSafe_0 : decode cX2_allSafe 0 = .ok (.iconst 0, 1) := by decide +kernel
theorem dX2_allSafe_1 : decode cX2_allSafe 1 = .ok (.istore_n 1, 1) := by decide +kernel
theorem dX2_allSafe_2 : decode cX2_allSafe 2 = .ok (.iconst 0, 1) := by decide +kernel
theorem dX2_allSafe_3 : decode cX2_allSafe 3 = .ok (.istore_n 2, 1) := by decide +kernel
theorem dX2_allSafe_4 : decode cX2_allSafe 4 = .ok (.iload_n 2, 1) := by decide +kernel
theorem dX2_allSafe_5 : decode cX2_allSafe 5 = .ok (.aload_n 0, 1) := by decide +kernel
theorem dX2_allSafe_6 : decode cX2_allSafe 6 = .ok (.invokevirtual 82, 3) := by decide +kernel
theorem dX2_allSafe_9 : decode cX2_allSafe 9 = .ok (.if_icmp .ge 43, 3) := by decide +kernel
theorem dX2_allSafe_12 : decode cX2_allSafe 12 = .ok (.iconst 0, 1) := by decide +kernel
theorem dX2_allSafe_13 : decode cX2_allSafe 13 = .ok (.istore_n 3, 1) := by decide +kernel
theorem dX2_allSafe_14 : decode cX2_allSafe 14 = .ok (.iload_n 3, 1) := by decide +kernel
theorem dX2_allSafe_15 : decode cX2_allSafe 15 = .ok (.aload_n 0, 1) := by decide +kernel
theorem dX2_allSafe_16 : decode cX2_allSafe 16 = .ok (.iload_n 2, 1) := by decide +kernel
theorem dX2_allSafe_17 : decode cX2_allSafe 17 = .ok (.invokevirtual 47, 3) := by decide +kernel
theorem dX2_allSafe_20 : decode cX2_allSafe 20 = .ok (.if_icmp .ge 26, 3) := by decide +kernel
theorem dX2_allSafe_23 : decode cX2_allSafe 23 = .ok (.iload_n 1, 1) := by decide +kernel
theorem dX2_allSafe_24 : decode cX2_allSafe 24 = .ok (.aload_n 0, 1) := by decide +kernel
theorem dX2_allSafe_25 : decode cX2_allSafe 25 = .ok (.iload_n 2, 1) := by decide +kernel
theorem dX2_allSafe_26 : decode cX2_allSafe 26 = .ok (.iload_n 3, 1) := by decide +kernel
theorem dX2_allSafe_27 : decode cX2_allSafe 27 = .ok (.invokevirtual 149, 3) := by decide +kernel
theorem dX2_allSafe_30 : decode cX2_allSafe 30 = .ok (.ifCond .eq 7, 3) := by decide +kernel
theorem dX2_allSafe_33 : decode cX2_allSafe 33 = .ok (.iconst 1, 1) := by decide +kernel
theorem dX2_allSafe_34 : decode cX2_allSafe 34 = .ok (.goto 4, 3) := by decide +kernel
theorem dX2_allSafe_37 : decode cX2_allSafe 37 = .ok (.iconst 0, 1) := by decide +kernel
theorem dX2_allSafe_38 : decode cX2_allSafe 38 = .ok (.iadd, 1) := by decide +kernel
theorem dX2_allSafe_39 : decode cX2_allSafe 39 = .ok (.istore_n 1, 1) := by decide +kernel
theorem dX2_allSafe_40 : decode cX2_allSafe 40 = .ok (.iinc 3 1, 3) := by decide +kernel
theorem dX2_allSafe_43 : decode cX2_allSafe 43 = .ok (.goto (-29), 3) := by decide +kernel
theorem dX2_allSafe_46 : decode cX2_allSafe 46 = .ok (.iinc 2 1, 3) := by decide +kernel
theorem dX2_allSafe_49 : decode cX2_allSafe 49 = .ok (.goto (-45), 3) := by decide +kernel
theorem dX2_allSafe_52 : decode cX2_allSafe 52 = .ok (.iload_n 1, 1) := by decide +kernel
theorem dX2_allSafe_53 : decode cX2_allSafe 53 = .ok (.ireturn, 1) := by decide +kernel
theorem dX2_allCarried_0 : decode cX2_allCarried 0 = .ok (.iconst 0, 1) := by decide +kernel
theorem dX2_allCarried_1 : decode cX2_allCarried 1 = .ok (.istore_n 1, 1) := by decide +kernel
theorem dX2_allCarried_2 : decode cX2_allCarried 2 = .ok (.iconst 0, 1) := by decide +kernel
theorem dX2_allCarried_3 : decode cX2_allCarried 3 = .ok (.istore_n 2, 1) := by decide +kernel
theorem dX2_allCarried_4 : decode cX2_allCarried 4 = .ok (.iload_n 2, 1) := by decide +kernel
theorem dX2_allCarried_5 : decode cX2_allCarried 5 = .ok (.aload_n 0, 1) := by decide +kernel
theorem dX2_allCarried_6 : decode cX2_allCarried 6 = .ok (.invokevirtual 82, 3) := by decide +kernel
theorem dX2_allCarried_9 : decode cX2_allCarried 9 = .ok (.if_icmp .gt 65, 3) := by decide +kernel
theorem dX2_allCarried_12 : decode cX2_allCarried 12 = .ok (.iconst 0, 1) := by decide +kernel
theorem dX2_allCarried_13 : decode cX2_allCarried 13 = .ok (.istore_n 3, 1) := by decide +kernel
theorem dX2_allCarried_14 : decode cX2_allCarried 14 = .ok (.iload_n 3, 1) := by decide +kernel
theorem dX2_allCarried_15 : decode cX2_allCarried 15 = .ok (.aload_n 0, 1) := by decide +kernel
theorem dX2_allCarried_16 : decode cX2_allCarried 16 = .ok (.invokevirtual 82, 3) := by decide +kernel
theorem dX2_allCarried_19 : decode cX2_allCarried 19 = .ok (.if_icmp .ge 49, 3) := by decide +kernel
theorem dX2_allCarried_22 : decode cX2_allCarried 22 = .ok (.iconst 0, 1) := by decide +kernel
theorem dX2_allCarried_23 : decode cX2_allCarried 23 = .ok (.istore 4, 2) := by decide +kernel
theorem dX2_allCarried_25 : decode cX2_allCarried 25 = .ok (.iload 4, 2) := by decide +kernel
theorem dX2_allCarried_27 : decode cX2_allCarried 27 = .ok (.aload_n 0, 1) := by decide +kernel
theorem dX2_allCarried_28 : decode cX2_allCarried 28 = .ok (.iload_n 2, 1) := by decide +kernel
theorem dX2_allCarried_29 : decode cX2_allCarried 29 = .ok (.iload_n 3, 1) := by decide +kernel
theorem dX2_allCarried_30 : decode cX2_allCarried 30 = .ok (.invokevirtual 62, 3) := by decide +kernel
theorem dX2_allCarried_33 : decode cX2_allCarried 33 = .ok (.if_icmp .ge 29, 3) := by decide +kernel
theorem dX2_allCarried_36 : decode cX2_allCarried 36 = .ok (.iload_n 1, 1) := by decide +kernel
theorem dX2_allCarried_37 : decode cX2_allCarried 37 = .ok (.aload_n 0, 1) := by decide +kernel
theorem dX2_allCarried_38 : decode cX2_allCarried 38 = .ok (.getfield 7, 3) := by decide +kernel
theorem dX2_allCarried_41 : decode cX2_allCarried 41 = .ok (.iload_n 2, 1) := by decide +kernel
theorem dX2_allCarried_42 : decode cX2_allCarried 42 = .ok (.iload_n 3, 1) := by decide +kernel
theorem dX2_allCarried_43 : decode cX2_allCarried 43 = .ok (.iload 4, 2) := by decide +kernel
theorem dX2_allCarried_45 : decode cX2_allCarried 45 = .ok (.invokestatic 65, 3) := by decide +kernel
theorem dX2_allCarried_48 : decode cX2_allCarried 48 = .ok (.iconst 2, 1) := by decide +kernel
theorem dX2_allCarried_49 : decode cX2_allCarried 49 = .ok (.iadd, 1) := by decide +kernel
theorem dX2_allCarried_50 : decode cX2_allCarried 50 = .ok (.iaload, 1) := by decide +kernel
theorem dX2_allCarried_51 : decode cX2_allCarried 51 = .ok (.invokestatic 112, 3) := by decide +kernel
theorem dX2_allCarried_54 : decode cX2_allCarried 54 = .ok (.iadd, 1) := by decide +kernel
theorem dX2_allCarried_55 : decode cX2_allCarried 55 = .ok (.istore_n 1, 1) := by decide +kernel
theorem dX2_allCarried_56 : decode cX2_allCarried 56 = .ok (.iinc 4 1, 3) := by decide +kernel
theorem dX2_allCarried_59 : decode cX2_allCarried 59 = .ok (.goto (-34), 3) := by decide +kernel
theorem dX2_allCarried_62 : decode cX2_allCarried 62 = .ok (.iinc 3 1, 3) := by decide +kernel
theorem dX2_allCarried_65 : decode cX2_allCarried 65 = .ok (.goto (-51), 3) := by decide +kernel
theorem dX2_allCarried_68 : decode cX2_allCarried 68 = .ok (.iinc 2 1, 3) := by decide +kernel
theorem dX2_allCarried_71 : decode cX2_allCarried 71 = .ok (.goto (-67), 3) := by decide +kernel
theorem dX2_allCarried_74 : decode cX2_allCarried 74 = .ok (.iload_n 1, 1) := by decide +kernel
theorem dX2_allCarried_75 : decode cX2_allCarried 75 = .ok (.ireturn, 1) := by decide +kernel
theorem dX2_count_0 : decode cX2_count 0 = .ok (.iload_n 1, 1) := by decide +kernel
theorem dX2_count_1 : decode cX2_count 1 = .ok (.tableswitch 114 0 9 #[55, 60, 67, 72, 77, 87, 94, 99, 104, 109], 55) := by decide +kernel
theorem dX2_count_56 : decode cX2_count 56 = .ok (.aload_n 0, 1) := by decide +kernel
theorem dX2_count_57 : decode cX2_count 57 = .ok (.invokevirtual 82, 3) := by decide +kernel
theorem dX2_count_60 : decode cX2_count 60 = .ok (.ireturn, 1) := by decide +kernel
theorem dX2_count_61 : decode cX2_count 61 = .ok (.aload_n 0, 1) := by decide +kernel
theorem dX2_count_62 : decode cX2_count 62 = .ok (.getfield 7, 3) := by decide +kernel
theorem dX2_count_65 : decode cX2_count 65 = .ok (.iconst 1, 1) := by decide +kernel
theorem dX2_count_66 : decode cX2_count 66 = .ok (.iaload, 1) := by decide +kernel
theorem dX2_count_67 : decode cX2_count 67 = .ok (.ireturn, 1) := by decide +kernel
theorem dX2_count_68 : decode cX2_count 68 = .ok (.aload_n 0, 1) := by decide +kernel
theorem dX2_count_69 : decode cX2_count 69 = .ok (.invokevirtual 170, 3) := by decide +kernel
theorem dX2_count_72 : decode cX2_count 72 = .ok (.ireturn, 1) := by decide +kernel
theorem dX2_count_73 : decode cX2_count 73 = .ok (.aload_n 0, 1) := by decide +kernel
theorem dX2_count_74 : decode cX2_count 74 = .ok (.invokevirtual 173, 3) := by decide +kernel
theorem dX2_count_77 : decode cX2_count 77 = .ok (.ireturn, 1) := by decide +kernel
theorem dX2_count_78 : decode cX2_count 78 = .ok (.aload_n 0, 1) := by decide +kernel
theorem dX2_count_79 : decode cX2_count 79 = .ok (.invokevirtual 173, 3) := by decide +kernel
theorem dX2_count_82 : decode cX2_count 82 = .ok (.aload_n 0, 1) := by decide +kernel
theorem dX2_count_83 : decode cX2_count 83 = .ok (.invokevirtual 170, 3) := by decide +kernel
theorem dX2_count_86 : decode cX2_count 86 = .ok (.isub, 1) := by decide +kernel
theorem dX2_count_87 : decode cX2_count 87 = .ok (.ireturn, 1) := by decide +kernel
theorem dX2_count_88 : decode cX2_count 88 = .ok (.aload_n 0, 1) := by decide +kernel
theorem dX2_count_89 : decode cX2_count 89 = .ok (.getfield 7, 3) := by decide +kernel
theorem dX2_count_92 : decode cX2_count 92 = .ok (.iconst 2, 1) := by decide +kernel
theorem dX2_count_93 : decode cX2_count 93 = .ok (.iaload, 1) := by decide +kernel
theorem dX2_count_94 : decode cX2_count 94 = .ok (.ireturn, 1) := by decide +kernel
theorem dX2_count_95 : decode cX2_count 95 = .ok (.aload_n 0, 1) := by decide +kernel
theorem dX2_count_96 : decode cX2_count 96 = .ok (.invokevirtual 176, 3) := by decide +kernel
theorem dX2_count_99 : decode cX2_count 99 = .ok (.ireturn, 1) := by decide +kernel
theorem dX2_count_100 : decode cX2_count 100 = .ok (.aload_n 0, 1) := by decide +kernel
theorem dX2_count_101 : decode cX2_count 101 = .ok (.invokevirtual 179, 3) := by decide +kernel
theorem dX2_count_104 : decode cX2_count 104 = .ok (.ireturn, 1) := by decide +kernel
theorem dX2_count_105 : decode cX2_count 105 = .ok (.aload_n 0, 1) := by decide +kernel
theorem dX2_count_106 : decode cX2_count 106 = .ok (.getfield 75, 3) := by decide +kernel
theorem dX2_count_109 : decode cX2_count 109 = .ok (.ireturn, 1) := by decide +kernel
theorem dX2_count_110 : decode cX2_count 110 = .ok (.aload_n 0, 1) := by decide +kernel
theorem dX2_count_111 : decode cX2_count 111 = .ok (.getfield 68, 3) := by decide +kernel
theorem dX2_count_114 : decode cX2_count 114 = .ok (.ireturn, 1) := by decide +kernel
theorem dX2_count_115 : decode cX2_count 115 = .ok (.iconst (-1), 1) := by decide +kernel
theorem dX2_count_116 : decode cX2_count 116 = .ok (.ireturn, 1) := by decide +kernel
end
section
theorem dL_law_0 : decode cL_law 0 = .ok (.new 7, 3) := by decide +kernel
theorem dL_law_3 : decode cL_law 3 = .ok (.dup, 1) := by decide +kernel
theorem dL_law_4 : decode cL_law 4 = .ok (.invokespecial 9, 3) := by decide +kernel
theorem dL_law_7 : decode cL_law 7 = .ok (.astore_n 1, 1) := by decide +kernel
theorem dL_law_8 : decode cL_law 8 = .ok (.new 10, 3) := by decide +kernel
theorem dL_law_11 : decode cL_law 11 = .ok (.dup, 1) := by decide +kernel
theorem dL_law_12 : decode cL_law 12 = .ok (.invokespecial 12, 3) := by decide +kernel
theorem dL_law_15 : decode cL_law 15 = .ok (.astore_n 2, 1) := by decide +kernel
theorem dL_law_16 : decode cL_law 16 = .ok (.iconst 0, 1) := by decide +kernel
theorem dL_law_17 : decode cL_law 17 = .ok (.istore_n 3, 1) := by decide +kernel
theorem dL_law_18 : decode cL_law 18 = .ok (.iload_n 3, 1) := by decide +kernel
theorem dL_law_19 : decode cL_law 19 = .ok (.aload_n 0, 1) := by decide +kernel
theorem dL_law_20 : decode cL_law 20 = .ok (.arraylength, 1) := by decide +kernel
theorem dL_law_21 : decode cL_law 21 = .ok (.iconst 5, 1) := by decide +kernel
theorem dL_law_22 : decode cL_law 22 = .ok (.isub, 1) := by decide +kernel
theorem dL_law_23 : decode cL_law 23 = .ok (.if_icmp .gt 728, 3) := by decide +kernel
theorem dL_law_26 : decode cL_law 26 = .ok (.aload_n 0, 1) := by decide +kernel
theorem dL_law_27 : decode cL_law 27 = .ok (.iload_n 3, 1) := by decide +kernel
theorem dL_law_28 : decode cL_law 28 = .ok (.iaload, 1) := by decide +kernel
theorem dL_law_29 : decode cL_law 29 = .ok (.bipush 31, 2) := by decide +kernel
theorem dL_law_31 : decode cL_law 31 = .ok (.iand, 1) := by decide +kernel
theorem dL_law_32 : decode cL_law 32 = .ok (.tableswitch 713 0 20 #[100, 133, 166, 199, 222, 235, 248, 281, 324, 377, 430, 463, 506, 539, 562, 595, 608, 631, 644, 667, 690], 100) := by decide +kernel
theorem dL_law_132 : decode cL_law 132 = .ok (.aload_n 1, 1) := by decide +kernel
theorem dL_law_133 : decode cL_law 133 = .ok (.aload_n 0, 1) := by decide +kernel
theorem dL_law_134 : decode cL_law 134 = .ok (.iload_n 3, 1) := by decide +kernel
theorem dL_law_135 : decode cL_law 135 = .ok (.iconst 1, 1) := by decide +kernel
theorem dL_law_136 : decode cL_law 136 = .ok (.iadd, 1) := by decide +kernel
theorem dL_law_137 : decode cL_law 137 = .ok (.iaload, 1) := by decide +kernel
theorem dL_law_138 : decode cL_law 138 = .ok (.aload_n 0, 1) := by decide +kernel
theorem dL_law_139 : decode cL_law 139 = .ok (.iload_n 3, 1) := by decide +kernel
theorem dL_law_140 : decode cL_law 140 = .ok (.iconst 2, 1) := by decide +kernel
theorem dL_law_141 : decode cL_law 141 = .ok (.iadd, 1) := by decide +kernel
theorem dL_law_142 : decode cL_law 142 = .ok (.iaload, 1) := by decide +kernel
theorem dL_law_143 : decode cL_law 143 = .ok (.invokevirtual 13, 3) := by decide +kernel
theorem dL_law_146 : decode cL_law 146 = .ok (.aload_n 2, 1) := by decide +kernel
theorem dL_law_147 : decode cL_law 147 = .ok (.aload_n 0, 1) := by decide +kernel
theorem dL_law_148 : decode cL_law 148 = .ok (.iload_n 3, 1) := by decide +kernel
theorem dL_law_149 : decode cL_law 149 = .ok (.iconst 1, 1) := by decide +kernel
theorem dL_law_150 : decode cL_law 150 = .ok (.iadd, 1) := by decide +kernel
theorem dL_law_151 : decode cL_law 151 = .ok (.iaload, 1) := by decide +kernel
theorem dL_law_152 : decode cL_law 152 = .ok (.aload_n 0, 1) := by decide +kernel
theorem dL_law_153 : decode cL_law 153 = .ok (.iload_n 3, 1) := by decide +kernel
theorem dL_law_154 : decode cL_law 154 = .ok (.iconst 2, 1) := by decide +kernel
theorem dL_law_155 : decode cL_law 155 = .ok (.iadd, 1) := by decide +kernel
theorem dL_law_156 : decode cL_law 156 = .ok (.iaload, 1) := by decide +kernel
theorem dL_law_157 : decode cL_law 157 = .ok (.invokevirtual 17, 3) := by decide +kernel
theorem dL_law_160 : decode cL_law 160 = .ok (.if_icmp .eq 585, 3) := by decide +kernel
theorem dL_law_163 : decode cL_law 163 = .ok (.iconst 0, 1) := by decide +kernel
theorem dL_law_164 : decode cL_law 164 = .ok (.ireturn, 1) := by decide +kernel
theorem dL_law_165 : decode cL_law 165 = .ok (.aload_n 1, 1) := by decide +kernel
theorem dL_law_166 : decode cL_law 166 = .ok (.aload_n 0, 1) := by decide +kernel
theorem dL_law_167 : decode cL_law 167 = .ok (.iload_n 3, 1) := by decide +kernel
theorem dL_law_168 : decode cL_law 168 = .ok (.iconst 1, 1) := by decide +kernel
theorem dL_law_169 : decode cL_law 169 = .ok (.iadd, 1) := by decide +kernel
theorem dL_law_170 : decode cL_law 170 = .ok (.iaload, 1) := by decide +kernel
theorem dL_law_171 : decode cL_law 171 = .ok (.aload_n 0, 1) := by decide +kernel
theorem dL_law_172 : decode cL_law 172 = .ok (.iload_n 3, 1) := by decide +kernel
theorem dL_law_173 : decode cL_law 173 = .ok (.iconst 2, 1) := by decide +kernel
theorem dL_law_174 : decode cL_law 174 = .ok (.iadd, 1) := by decide +kernel
theorem dL_law_175 : decode cL_law 175 = .ok (.iaload, 1) := by decide +kernel
theorem dL_law_176 : decode cL_law 176 = .ok (.invokevirtual 18, 3) := by decide +kernel
theorem dL_law_179 : decode cL_law 179 = .ok (.aload_n 2, 1) := by decide +kernel
theorem dL_law_180 : decode cL_law 180 = .ok (.aload_n 0, 1) := by decide +kernel
theorem dL_law_181 : decode cL_law 181 = .ok (.iload_n 3, 1) := by decide +kernel
theorem dL_law_182 : decode cL_law 182 = .ok (.iconst 1, 1) := by decide +kernel
theorem dL_law_183 : decode cL_law 183 = .ok (.iadd, 1) := by decide +kernel
theorem dL_law_184 : decode cL_law 184 = .ok (.iaload, 1) := by decide +kernel
theorem dL_law_185 : decode cL_law 185 = .ok (.aload_n 0, 1) := by decide +kernel
theorem dL_law_186 : decode cL_law 186 = .ok (.iload_n 3, 1) := by decide +kernel
theorem dL_law_187 : decode cL_law 187 = .ok (.iconst 2, 1) := by decide +kernel
theorem dL_law_188 : decode cL_law 188 = .ok (.iadd, 1) := by decide +kernel
theorem dL_law_189 : decode cL_law 189 = .ok (.iaload, 1) := by decide +kernel
theorem dL_law_190 : decode cL_law 190 = .ok (.invokevirtual 21, 3) := by decide +kernel
theorem dL_law_193 : decode cL_law 193 = .ok (.if_icmp .eq 552, 3) := by decide +kernel
theorem dL_law_196 : decode cL_law 196 = .ok (.iconst 0, 1) := by decide +kernel
theorem dL_law_197 : decode cL_law 197 = .ok (.ireturn, 1) := by decide +kernel
theorem dL_law_198 : decode cL_law 198 = .ok (.aload_n 1, 1) := by decide +kernel
theorem dL_law_199 : decode cL_law 199 = .ok (.aload_n 0, 1) := by decide +kernel
theorem dL_law_200 : decode cL_law 200 = .ok (.iload_n 3, 1) := by decide +kernel
theorem dL_law_201 : decode cL_law 201 = .ok (.iconst 1, 1) := by decide +kernel
theorem dL_law_202 : decode cL_law 202 = .ok (.iadd, 1) := by decide +kernel
theorem dL_law_203 : decode cL_law 203 = .ok (.iaload, 1) := by decide +kernel
theorem dL_law_204 : decode cL_law 204 = .ok (.aload_n 0, 1) := by decide +kernel
theorem dL_law_205 : decode cL_law 205 = .ok (.iload_n 3, 1) := by decide +kernel
theorem dL_law_206 : decode cL_law 206 = .ok (.iconst 2, 1) := by decide +kernel
theorem dL_law_207 : decode cL_law 207 = .ok (.iadd, 1) := by decide +kernel
theorem dL_law_208 : decode cL_law 208 = .ok (.iaload, 1) := by decide +kernel
theorem dL_law_209 : decode cL_law 209 = .ok (.invokevirtual 22, 3) := by decide +kernel
theorem dL_law_212 : decode cL_law 212 = .ok (.aload_n 2, 1) := by decide +kernel
theorem dL_law_213 : decode cL_law 213 = .ok (.aload_n 0, 1) := by decide +kernel
theorem dL_law_214 : decode cL_law 214 = .ok (.iload_n 3, 1) := by decide +kernel
theorem dL_law_215 : decode cL_law 215 = .ok (.iconst 1, 1) := by decide +kernel
theorem dL_law_216 : decode cL_law 216 = .ok (.iadd, 1) := by decide +kernel
theorem dL_law_217 : decode cL_law 217 = .ok (.iaload, 1) := by decide +kernel
theorem dL_law_218 : decode cL_law 218 = .ok (.aload_n 0, 1) := by decide +kernel
theorem dL_law_219 : decode cL_law 219 = .ok (.iload_n 3, 1) := by decide +kernel
theorem dL_law_220 : decode cL_law 220 = .ok (.iconst 2, 1) := by decide +kernel
theorem dL_law_221 : decode cL_law 221 = .ok (.iadd, 1) := by decide +kernel
theorem dL_law_222 : decode cL_law 222 = .ok (.iaload, 1) := by decide +kernel
theorem dL_law_223 : decode cL_law 223 = .ok (.invokevirtual 25, 3) := by decide +kernel
theorem dL_law_226 : decode cL_law 226 = .ok (.if_icmp .eq 519, 3) := by decide +kernel
theorem dL_law_229 : decode cL_law 229 = .ok (.iconst 0, 1) := by decide +kernel
theorem dL_law_230 : decode cL_law 230 = .ok (.ireturn, 1) := by decide +kernel
theorem dL_law_231 : decode cL_law 231 = .ok (.aload_n 1, 1) := by decide +kernel
theorem dL_law_232 : decode cL_law 232 = .ok (.aload_n 0, 1) := by decide +kernel
theorem dL_law_233 : decode cL_law 233 = .ok (.iload_n 3, 1) := by decide +kernel
theorem dL_law_234 : decode cL_law 234 = .ok (.iconst 1, 1) := by decide +kernel
theorem dL_law_235 : decode cL_law 235 = .ok (.iadd, 1) := by decide +kernel
theorem dL_law_236 : decode cL_law 236 = .ok (.iaload, 1) := by decide +kernel
theorem dL_law_237 : decode cL_law 237 = .ok (.invokevirtual 26, 3) := by decide +kernel
theorem dL_law_240 : decode cL_law 240 = .ok (.aload_n 2, 1) := by decide +kernel
theorem dL_law_241 : decode cL_law 241 = .ok (.aload_n 0, 1) := by decide +kernel
theorem dL_law_242 : decode cL_law 242 = .ok (.iload_n 3, 1) := by decide +kernel
theorem dL_law_243 : decode cL_law 243 = .ok (.iconst 1, 1) := by decide +kernel
theorem dL_law_244 : decode cL_law 244 = .ok (.iadd, 1) := by decide +kernel
theorem dL_law_245 : decode cL_law 245 = .ok (.iaload, 1) := by decide +kernel
theorem dL_law_246 : decode cL_law 246 = .ok (.invokevirtual 30, 3) := by decide +kernel
theorem dL_law_249 : decode cL_law 249 = .ok (.if_icmp .eq 496, 3) := by decide +kernel
theorem dL_law_252 : decode cL_law 252 = .ok (.iconst 0, 1) := by decide +kernel
theorem dL_law_253 : decode cL_law 253 = .ok (.ireturn, 1) := by decide +kernel
theorem dL_law_254 : decode cL_law 254 = .ok (.aload_n 1, 1) := by decide +kernel
theorem dL_law_255 : decode cL_law 255 = .ok (.invokevirtual 31, 3) := by decide +kernel
theorem dL_law_258 : decode cL_law 258 = .ok (.aload_n 2, 1) := by decide +kernel
theorem dL_law_259 : decode cL_law 259 = .ok (.invokevirtual 35, 3) := by decide +kernel
theorem dL_law_262 : decode cL_law 262 = .ok (.if_icmp .eq 483, 3) := by decide +kernel
theorem dL_law_265 : decode cL_law 265 = .ok (.iconst 0, 1) := by decide +kernel
theorem dL_law_266 : decode cL_law 266 = .ok (.ireturn, 1) := by decide +kernel
theorem dL_law_267 : decode cL_law 267 = .ok (.aload_n 1, 1) := by decide +kernel
theorem dL_law_268 : decode cL_law 268 = .ok (.invokevirtual 36, 3) := by decide +kernel
theorem dL_law_271 : decode cL_law 271 = .ok (.aload_n 2, 1) := by decide +kernel
theorem dL_law_272 : decode cL_law 272 = .ok (.invokevirtual 39, 3) := by decide +kernel
theorem dL_law_275 : decode cL_law 275 = .ok (.if_icmp .eq 470, 3) := by decide +kernel
theorem dL_law_278 : decode cL_law 278 = .ok (.iconst 0, 1) := by decide +kernel
theorem dL_law_279 : decode cL_law 279 = .ok (.ireturn, 1) := by decide +kernel
theorem dL_law_280 : decode cL_law 280 = .ok (.aload_n 1, 1) := by decide +kernel
theorem dL_law_281 : decode cL_law 281 = .ok (.aload_n 0, 1) := by decide +kernel
theorem dL_law_282 : decode cL_law 282 = .ok (.iload_n 3, 1) := by decide +kernel
theorem dL_law_283 : decode cL_law 283 = .ok (.iconst 1, 1) := by decide +kernel
theorem dL_law_284 : decode cL_law 284 = .ok (.iadd, 1) := by decide +kernel
theorem dL_law_285 : decode cL_law 285 = .ok (.iaload, 1) := by decide +kernel
theorem dL_law_286 : decode cL_law 286 = .ok (.aload_n 0, 1) := by decide +kernel
theorem dL_law_287 : decode cL_law 287 = .ok (.iload_n 3, 1) := by decide +kernel
theorem dL_law_288 : decode cL_law 288 = .ok (.iconst 2, 1) := by decide +kernel
theorem dL_law_289 : decode cL_law 289 = .ok (.iadd, 1) := by decide +kernel
theorem dL_law_290 : decode cL_law 290 = .ok (.iaload, 1) := by decide +kernel
theorem dL_law_291 : decode cL_law 291 = .ok (.invokevirtual 40, 3) := by decide +kernel
theorem dL_law_294 : decode cL_law 294 = .ok (.aload_n 2, 1) := by decide +kernel
theorem dL_law_295 : decode cL_law 295 = .ok (.aload_n 0, 1) := by decide +kernel
theorem dL_law_296 : decode cL_law 296 = .ok (.iload_n 3, 1) := by decide +kernel
theorem dL_law_297 : decode cL_law 297 = .ok (.iconst 1, 1) := by decide +kernel
theorem dL_law_298 : decode cL_law 298 = .ok (.iadd, 1) := by decide +kernel
theorem dL_law_299 : decode cL_law 299 = .ok (.iaload, 1) := by decide +kernel
theorem dL_law_300 : decode cL_law 300 = .ok (.aload_n 0, 1) := by decide +kernel
theorem dL_law_301 : decode cL_law 301 = .ok (.iload_n 3, 1) := by decide +kernel
theorem dL_law_302 : decode cL_law 302 = .ok (.iconst 2, 1) := by decide +kernel
theorem dL_law_303 : decode cL_law 303 = .ok (.iadd, 1) := by decide +kernel
theorem dL_law_304 : decode cL_law 304 = .ok (.iaload, 1) := by decide +kernel
theorem dL_law_305 : decode cL_law 305 = .ok (.invokevirtual 43, 3) := by decide +kernel
theorem dL_law_308 : decode cL_law 308 = .ok (.if_icmp .eq 437, 3) := by decide +kernel
theorem dL_law_311 : decode cL_law 311 = .ok (.iconst 0, 1) := by decide +kernel
theorem dL_law_312 : decode cL_law 312 = .ok (.ireturn, 1) := by decide +kernel
theorem dL_law_313 : decode cL_law 313 = .ok (.aload_n 1, 1) := by decide +kernel
theorem dL_law_314 : decode cL_law 314 = .ok (.aload_n 0, 1) := by decide +kernel
theorem dL_law_315 : decode cL_law 315 = .ok (.iload_n 3, 1) := by decide +kernel
theorem dL_law_316 : decode cL_law 316 = .ok (.iconst 1, 1) := by decide +kernel
theorem dL_law_317 : decode cL_law 317 = .ok (.iadd, 1) := by decide +kernel
theorem dL_law_318 : decode cL_law 318 = .ok (.iaload, 1) := by decide +kernel
theorem dL_law_319 : decode cL_law 319 = .ok (.aload_n 0, 1) := by decide +kernel
theorem dL_law_320 : decode cL_law 320 = .ok (.iload_n 3, 1) := by decide +kernel
theorem dL_law_321 : decode cL_law 321 = .ok (.iconst 2, 1) := by decide +kernel
theorem dL_law_322 : decode cL_law 322 = .ok (.iadd, 1) := by decide +kernel
theorem dL_law_323 : decode cL_law 323 = .ok (.iaload, 1) := by decide +kernel
theorem dL_law_324 : decode cL_law 324 = .ok (.aload_n 0, 1) := by decide +kernel
theorem dL_law_325 : decode cL_law 325 = .ok (.iload_n 3, 1) := by decide +kernel
theorem dL_law_326 : decode cL_law 326 = .ok (.iconst 3, 1) := by decide +kernel
theorem dL_law_327 : decode cL_law 327 = .ok (.iadd, 1) := by decide +kernel
theorem dL_law_328 : decode cL_law 328 = .ok (.iaload, 1) := by decide +kernel
theorem dL_law_329 : decode cL_law 329 = .ok (.invokevirtual 44, 3) := by decide +kernel
theorem dL_law_332 : decode cL_law 332 = .ok (.aload_n 2, 1) := by decide +kernel
theorem dL_law_333 : decode cL_law 333 = .ok (.aload_n 0, 1) := by decide +kernel
theorem dL_law_334 : decode cL_law 334 = .ok (.iload_n 3, 1) := by decide +kernel
theorem dL_law_335 : decode cL_law 335 = .ok (.iconst 1, 1) := by decide +kernel
theorem dL_law_336 : decode cL_law 336 = .ok (.iadd, 1) := by decide +kernel
theorem dL_law_337 : decode cL_law 337 = .ok (.iaload, 1) := by decide +kernel
theorem dL_law_338 : decode cL_law 338 = .ok (.aload_n 0, 1) := by decide +kernel
theorem dL_law_339 : decode cL_law 339 = .ok (.iload_n 3, 1) := by decide +kernel
theorem dL_law_340 : decode cL_law 340 = .ok (.iconst 2, 1) := by decide +kernel
theorem dL_law_341 : decode cL_law 341 = .ok (.iadd, 1) := by decide +kernel
theorem dL_law_342 : decode cL_law 342 = .ok (.iaload, 1) := by decide +kernel
theorem dL_law_343 : decode cL_law 343 = .ok (.aload_n 0, 1) := by decide +kernel
theorem dL_law_344 : decode cL_law 344 = .ok (.iload_n 3, 1) := by decide +kernel
theorem dL_law_345 : decode cL_law 345 = .ok (.iconst 3, 1) := by decide +kernel
theorem dL_law_346 : decode cL_law 346 = .ok (.iadd, 1) := by decide +kernel
theorem dL_law_347 : decode cL_law 347 = .ok (.iaload, 1) := by decide +kernel
theorem dL_law_348 : decode cL_law 348 = .ok (.invokevirtual 48, 3) := by decide +kernel
theorem dL_law_351 : decode cL_law 351 = .ok (.if_icmp .eq 394, 3) := by decide +kernel
theorem dL_law_354 : decode cL_law 354 = .ok (.iconst 0, 1) := by decide +kernel
theorem dL_law_355 : decode cL_law 355 = .ok (.ireturn, 1) := by decide +kernel
theorem dL_law_356 : decode cL_law 356 = .ok (.aload_n 1, 1) := by decide +kernel
theorem dL_law_357 : decode cL_law 357 = .ok (.aload_n 0, 1) := by decide +kernel
theorem dL_law_358 : decode cL_law 358 = .ok (.iload_n 3, 1) := by decide +kernel
theorem dL_law_359 : decode cL_law 359 = .ok (.iconst 1, 1) := by decide +kernel
theorem dL_law_360 : decode cL_law 360 = .ok (.iadd, 1) := by decide +kernel
theorem dL_law_361 : decode cL_law 361 = .ok (.iaload, 1) := by decide +kernel
theorem dL_law_362 : decode cL_law 362 = .ok (.aload_n 0, 1) := by decide +kernel
theorem dL_law_363 : decode cL_law 363 = .ok (.iload_n 3, 1) := by decide +kernel
theorem dL_law_364 : decode cL_law 364 = .ok (.iconst 2, 1) := by decide +kernel
theorem dL_law_365 : decode cL_law 365 = .ok (.iadd, 1) := by decide +kernel
theorem dL_law_366 : decode cL_law 366 = .ok (.iaload, 1) := by decide +kernel
theorem dL_law_367 : decode cL_law 367 = .ok (.aload_n 0, 1) := by decide +kernel
theorem dL_law_368 : decode cL_law 368 = .ok (.iload_n 3, 1) := by decide +kernel
theorem dL_law_369 : decode cL_law 369 = .ok (.iconst 3, 1) := by decide +kernel
theorem dL_law_370 : decode cL_law 370 = .ok (.iadd, 1) := by decide +kernel
theorem dL_law_371 : decode cL_law 371 = .ok (.iaload, 1) := by decide +kernel
theorem dL_law_372 : decode cL_law 372 = .ok (.aload_n 0, 1) := by decide +kernel
theorem dL_law_373 : decode cL_law 373 = .ok (.iload_n 3, 1) := by decide +kernel
theorem dL_law_374 : decode cL_law 374 = .ok (.iconst 4, 1) := by decide +kernel
theorem dL_law_375 : decode cL_law 375 = .ok (.iadd, 1) := by decide +kernel
theorem dL_law_376 : decode cL_law 376 = .ok (.iaload, 1) := by decide +kernel
theorem dL_law_377 : decode cL_law 377 = .ok (.invokevirtual 49, 3) := by decide +kernel
theorem dL_law_380 : decode cL_law 380 = .ok (.aload_n 2, 1) := by decide +kernel
theorem dL_law_381 : decode cL_law 381 = .ok (.aload_n 0, 1) := by decide +kernel
theorem dL_law_382 : decode cL_law 382 = .ok (.iload_n 3, 1) := by decide +kernel
theorem dL_law_383 : decode cL_law 383 = .ok (.iconst 1, 1) := by decide +kernel
theorem dL_law_384 : decode cL_law 384 = .ok (.iadd, 1) := by decide +kernel
theorem dL_law_385 : decode cL_law 385 = .ok (.iaload, 1) := by decide +kernel
theorem dL_law_386 : decode cL_law 386 = .ok (.aload_n 0, 1) := by decide +kernel
theorem dL_law_387 : decode cL_law 387 = .ok (.iload_n 3, 1) := by decide +kernel
theorem dL_law_388 : decode cL_law 388 = .ok (.iconst 2, 1) := by decide +kernel
theorem dL_law_389 : decode cL_law 389 = .ok (.iadd, 1) := by decide +kernel
theorem dL_law_390 : decode cL_law 390 = .ok (.iaload, 1) := by decide +kernel
theorem dL_law_391 : decode cL_law 391 = .ok (.aload_n 0, 1) := by decide +kernel
theorem dL_law_392 : decode cL_law 392 = .ok (.iload_n 3, 1) := by decide +kernel
theorem dL_law_393 : decode cL_law 393 = .ok (.iconst 3, 1) := by decide +kernel
theorem dL_law_394 : decode cL_law 394 = .ok (.iadd, 1) := by decide +kernel
theorem dL_law_395 : decode cL_law 395 = .ok (.iaload, 1) := by decide +kernel
theorem dL_law_396 : decode cL_law 396 = .ok (.aload_n 0, 1) := by decide +kernel
theorem dL_law_397 : decode cL_law 397 = .ok (.iload_n 3, 1) := by decide +kernel
theorem dL_law_398 : decode cL_law 398 = .ok (.iconst 4, 1) := by decide +kernel
theorem dL_law_399 : decode cL_law 399 = .ok (.iadd, 1) := by decide +kernel
theorem dL_law_400 : decode cL_law 400 = .ok (.iaload, 1) := by decide +kernel
theorem dL_law_401 : decode cL_law 401 = .ok (.invokevirtual 53, 3) := by decide +kernel
theorem dL_law_404 : decode cL_law 404 = .ok (.if_icmp .eq 341, 3) := by decide +kernel
theorem dL_law_407 : decode cL_law 407 = .ok (.iconst 0, 1) := by decide +kernel
theorem dL_law_408 : decode cL_law 408 = .ok (.ireturn, 1) := by decide +kernel
theorem dL_law_409 : decode cL_law 409 = .ok (.aload_n 1, 1) := by decide +kernel
theorem dL_law_410 : decode cL_law 410 = .ok (.aload_n 0, 1) := by decide +kernel
theorem dL_law_411 : decode cL_law 411 = .ok (.iload_n 3, 1) := by decide +kernel
theorem dL_law_412 : decode cL_law 412 = .ok (.iconst 1, 1) := by decide +kernel
theorem dL_law_413 : decode cL_law 413 = .ok (.iadd, 1) := by decide +kernel
theorem dL_law_414 : decode cL_law 414 = .ok (.iaload, 1) := by decide +kernel
theorem dL_law_415 : decode cL_law 415 = .ok (.aload_n 0, 1) := by decide +kernel
theorem dL_law_416 : decode cL_law 416 = .ok (.iload_n 3, 1) := by decide +kernel
theorem dL_law_417 : decode cL_law 417 = .ok (.iconst 2, 1) := by decide +kernel
theorem dL_law_418 : decode cL_law 418 = .ok (.iadd, 1) := by decide +kernel
theorem dL_law_419 : decode cL_law 419 = .ok (.iaload, 1) := by decide +kernel
theorem dL_law_420 : decode cL_law 420 = .ok (.aload_n 0, 1) := by decide +kernel
theorem dL_law_421 : decode cL_law 421 = .ok (.iload_n 3, 1) := by decide +kernel
theorem dL_law_422 : decode cL_law 422 = .ok (.iconst 3, 1) := by decide +kernel
theorem dL_law_423 : decode cL_law 423 = .ok (.iadd, 1) := by decide +kernel
theorem dL_law_424 : decode cL_law 424 = .ok (.iaload, 1) := by decide +kernel
theorem dL_law_425 : decode cL_law 425 = .ok (.aload_n 0, 1) := by decide +kernel
theorem dL_law_426 : decode cL_law 426 = .ok (.iload_n 3, 1) := by decide +kernel
theorem dL_law_427 : decode cL_law 427 = .ok (.iconst 4, 1) := by decide +kernel
theorem dL_law_428 : decode cL_law 428 = .ok (.iadd, 1) := by decide +kernel
theorem dL_law_429 : decode cL_law 429 = .ok (.iaload, 1) := by decide +kernel
theorem dL_law_430 : decode cL_law 430 = .ok (.invokevirtual 54, 3) := by decide +kernel
theorem dL_law_433 : decode cL_law 433 = .ok (.aload_n 2, 1) := by decide +kernel
theorem dL_law_434 : decode cL_law 434 = .ok (.aload_n 0, 1) := by decide +kernel
theorem dL_law_435 : decode cL_law 435 = .ok (.iload_n 3, 1) := by decide +kernel
theorem dL_law_436 : decode cL_law 436 = .ok (.iconst 1, 1) := by decide +kernel
theorem dL_law_437 : decode cL_law 437 = .ok (.iadd, 1) := by decide +kernel
theorem dL_law_438 : decode cL_law 438 = .ok (.iaload, 1) := by decide +kernel
theorem dL_law_439 : decode cL_law 439 = .ok (.aload_n 0, 1) := by decide +kernel
theorem dL_law_440 : decode cL_law 440 = .ok (.iload_n 3, 1) := by decide +kernel
theorem dL_law_441 : decode cL_law 441 = .ok (.iconst 2, 1) := by decide +kernel
theorem dL_law_442 : decode cL_law 442 = .ok (.iadd, 1) := by decide +kernel
theorem dL_law_443 : decode cL_law 443 = .ok (.iaload, 1) := by decide +kernel
theorem dL_law_444 : decode cL_law 444 = .ok (.aload_n 0, 1) := by decide +kernel
theorem dL_law_445 : decode cL_law 445 = .ok (.iload_n 3, 1) := by decide +kernel
theorem dL_law_446 : decode cL_law 446 = .ok (.iconst 3, 1) := by decide +kernel
theorem dL_law_447 : decode cL_law 447 = .ok (.iadd, 1) := by decide +kernel
theorem dL_law_448 : decode cL_law 448 = .ok (.iaload, 1) := by decide +kernel
theorem dL_law_449 : decode cL_law 449 = .ok (.aload_n 0, 1) := by decide +kernel
theorem dL_law_450 : decode cL_law 450 = .ok (.iload_n 3, 1) := by decide +kernel
theorem dL_law_451 : decode cL_law 451 = .ok (.iconst 4, 1) := by decide +kernel
theorem dL_law_452 : decode cL_law 452 = .ok (.iadd, 1) := by decide +kernel
theorem dL_law_453 : decode cL_law 453 = .ok (.iaload, 1) := by decide +kernel
theorem dL_law_454 : decode cL_law 454 = .ok (.invokevirtual 57, 3) := by decide +kernel
theorem dL_law_457 : decode cL_law 457 = .ok (.if_icmp .eq 288, 3) := by decide +kernel
theorem dL_law_460 : decode cL_law 460 = .ok (.iconst 0, 1) := by decide +kernel
theorem dL_law_461 : decode cL_law 461 = .ok (.ireturn, 1) := by decide +kernel
theorem dL_law_462 : decode cL_law 462 = .ok (.aload_n 1, 1) := by decide +kernel
theorem dL_law_463 : decode cL_law 463 = .ok (.aload_n 0, 1) := by decide +kernel
theorem dL_law_464 : decode cL_law 464 = .ok (.iload_n 3, 1) := by decide +kernel
theorem dL_law_465 : decode cL_law 465 = .ok (.iconst 1, 1) := by decide +kernel
theorem dL_law_466 : decode cL_law 466 = .ok (.iadd, 1) := by decide +kernel
theorem dL_law_467 : decode cL_law 467 = .ok (.iaload, 1) := by decide +kernel
theorem dL_law_468 : decode cL_law 468 = .ok (.aload_n 0, 1) := by decide +kernel
theorem dL_law_469 : decode cL_law 469 = .ok (.iload_n 3, 1) := by decide +kernel
theorem dL_law_470 : decode cL_law 470 = .ok (.iconst 2, 1) := by decide +kernel
theorem dL_law_471 : decode cL_law 471 = .ok (.iadd, 1) := by decide +kernel
theorem dL_law_472 : decode cL_law 472 = .ok (.iaload, 1) := by decide +kernel
theorem dL_law_473 : decode cL_law 473 = .ok (.invokevirtual 58, 3) := by decide +kernel
theorem dL_law_476 : decode cL_law 476 = .ok (.aload_n 2, 1) := by decide +kernel
theorem dL_law_477 : decode cL_law 477 = .ok (.aload_n 0, 1) := by decide +kernel
theorem dL_law_478 : decode cL_law 478 = .ok (.iload_n 3, 1) := by decide +kernel
theorem dL_law_479 : decode cL_law 479 = .ok (.iconst 1, 1) := by decide +kernel
theorem dL_law_480 : decode cL_law 480 = .ok (.iadd, 1) := by decide +kernel
theorem dL_law_481 : decode cL_law 481 = .ok (.iaload, 1) := by decide +kernel
theorem dL_law_482 : decode cL_law 482 = .ok (.aload_n 0, 1) := by decide +kernel
theorem dL_law_483 : decode cL_law 483 = .ok (.iload_n 3, 1) := by decide +kernel
theorem dL_law_484 : decode cL_law 484 = .ok (.iconst 2, 1) := by decide +kernel
theorem dL_law_485 : decode cL_law 485 = .ok (.iadd, 1) := by decide +kernel
theorem dL_law_486 : decode cL_law 486 = .ok (.iaload, 1) := by decide +kernel
theorem dL_law_487 : decode cL_law 487 = .ok (.invokevirtual 61, 3) := by decide +kernel
theorem dL_law_490 : decode cL_law 490 = .ok (.if_icmp .eq 255, 3) := by decide +kernel
theorem dL_law_493 : decode cL_law 493 = .ok (.iconst 0, 1) := by decide +kernel
theorem dL_law_494 : decode cL_law 494 = .ok (.ireturn, 1) := by decide +kernel
theorem dL_law_495 : decode cL_law 495 = .ok (.aload_n 1, 1) := by decide +kernel
theorem dL_law_496 : decode cL_law 496 = .ok (.aload_n 0, 1) := by decide +kernel
theorem dL_law_497 : decode cL_law 497 = .ok (.iload_n 3, 1) := by decide +kernel
theorem dL_law_498 : decode cL_law 498 = .ok (.iconst 1, 1) := by decide +kernel
theorem dL_law_499 : decode cL_law 499 = .ok (.iadd, 1) := by decide +kernel
theorem dL_law_500 : decode cL_law 500 = .ok (.iaload, 1) := by decide +kernel
theorem dL_law_501 : decode cL_law 501 = .ok (.aload_n 0, 1) := by decide +kernel
theorem dL_law_502 : decode cL_law 502 = .ok (.iload_n 3, 1) := by decide +kernel
theorem dL_law_503 : decode cL_law 503 = .ok (.iconst 2, 1) := by decide +kernel
theorem dL_law_504 : decode cL_law 504 = .ok (.iadd, 1) := by decide +kernel
theorem dL_law_505 : decode cL_law 505 = .ok (.iaload, 1) := by decide +kernel
theorem dL_law_506 : decode cL_law 506 = .ok (.aload_n 0, 1) := by decide +kernel
theorem dL_law_507 : decode cL_law 507 = .ok (.iload_n 3, 1) := by decide +kernel
theorem dL_law_508 : decode cL_law 508 = .ok (.iconst 3, 1) := by decide +kernel
theorem dL_law_509 : decode cL_law 509 = .ok (.iadd, 1) := by decide +kernel
theorem dL_law_510 : decode cL_law 510 = .ok (.iaload, 1) := by decide +kernel
theorem dL_law_511 : decode cL_law 511 = .ok (.invokevirtual 62, 3) := by decide +kernel
theorem dL_law_514 : decode cL_law 514 = .ok (.aload_n 2, 1) := by decide +kernel
theorem dL_law_515 : decode cL_law 515 = .ok (.aload_n 0, 1) := by decide +kernel
theorem dL_law_516 : decode cL_law 516 = .ok (.iload_n 3, 1) := by decide +kernel
theorem dL_law_517 : decode cL_law 517 = .ok (.iconst 1, 1) := by decide +kernel
theorem dL_law_518 : decode cL_law 518 = .ok (.iadd, 1) := by decide +kernel
theorem dL_law_519 : decode cL_law 519 = .ok (.iaload, 1) := by decide +kernel
theorem dL_law_520 : decode cL_law 520 = .ok (.aload_n 0, 1) := by decide +kernel
theorem dL_law_521 : decode cL_law 521 = .ok (.iload_n 3, 1) := by decide +kernel
theorem dL_law_522 : decode cL_law 522 = .ok (.iconst 2, 1) := by decide +kernel
theorem dL_law_523 : decode cL_law 523 = .ok (.iadd, 1) := by decide +kernel
theorem dL_law_524 : decode cL_law 524 = .ok (.iaload, 1) := by decide +kernel
theorem dL_law_525 : decode cL_law 525 = .ok (.aload_n 0, 1) := by decide +kernel
theorem dL_law_526 : decode cL_law 526 = .ok (.iload_n 3, 1) := by decide +kernel
theorem dL_law_527 : decode cL_law 527 = .ok (.iconst 3, 1) := by decide +kernel
theorem dL_law_528 : decode cL_law 528 = .ok (.iadd, 1) := by decide +kernel
theorem dL_law_529 : decode cL_law 529 = .ok (.iaload, 1) := by decide +kernel
theorem dL_law_530 : decode cL_law 530 = .ok (.invokevirtual 65, 3) := by decide +kernel
theorem dL_law_533 : decode cL_law 533 = .ok (.if_icmp .eq 212, 3) := by decide +kernel
theorem dL_law_536 : decode cL_law 536 = .ok (.iconst 0, 1) := by decide +kernel
theorem dL_law_537 : decode cL_law 537 = .ok (.ireturn, 1) := by decide +kernel
theorem dL_law_538 : decode cL_law 538 = .ok (.aload_n 1, 1) := by decide +kernel
theorem dL_law_539 : decode cL_law 539 = .ok (.aload_n 0, 1) := by decide +kernel
theorem dL_law_540 : decode cL_law 540 = .ok (.iload_n 3, 1) := by decide +kernel
theorem dL_law_541 : decode cL_law 541 = .ok (.iconst 1, 1) := by decide +kernel
theorem dL_law_542 : decode cL_law 542 = .ok (.iadd, 1) := by decide +kernel
theorem dL_law_543 : decode cL_law 543 = .ok (.iaload, 1) := by decide +kernel
theorem dL_law_544 : decode cL_law 544 = .ok (.aload_n 0, 1) := by decide +kernel
theorem dL_law_545 : decode cL_law 545 = .ok (.iload_n 3, 1) := by decide +kernel
theorem dL_law_546 : decode cL_law 546 = .ok (.iconst 2, 1) := by decide +kernel
theorem dL_law_547 : decode cL_law 547 = .ok (.iadd, 1) := by decide +kernel
theorem dL_law_548 : decode cL_law 548 = .ok (.iaload, 1) := by decide +kernel
theorem dL_law_549 : decode cL_law 549 = .ok (.invokevirtual 66, 3) := by decide +kernel
theorem dL_law_552 : decode cL_law 552 = .ok (.aload_n 2, 1) := by decide +kernel
theorem dL_law_553 : decode cL_law 553 = .ok (.aload_n 0, 1) := by decide +kernel
theorem dL_law_554 : decode cL_law 554 = .ok (.iload_n 3, 1) := by decide +kernel
theorem dL_law_555 : decode cL_law 555 = .ok (.iconst 1, 1) := by decide +kernel
theorem dL_law_556 : decode cL_law 556 = .ok (.iadd, 1) := by decide +kernel
theorem dL_law_557 : decode cL_law 557 = .ok (.iaload, 1) := by decide +kernel
theorem dL_law_558 : decode cL_law 558 = .ok (.aload_n 0, 1) := by decide +kernel
theorem dL_law_559 : decode cL_law 559 = .ok (.iload_n 3, 1) := by decide +kernel
theorem dL_law_560 : decode cL_law 560 = .ok (.iconst 2, 1) := by decide +kernel
theorem dL_law_561 : decode cL_law 561 = .ok (.iadd, 1) := by decide +kernel
theorem dL_law_562 : decode cL_law 562 = .ok (.iaload, 1) := by decide +kernel
theorem dL_law_563 : decode cL_law 563 = .ok (.invokevirtual 69, 3) := by decide +kernel
theorem dL_law_566 : decode cL_law 566 = .ok (.if_icmp .eq 179, 3) := by decide +kernel
theorem dL_law_569 : decode cL_law 569 = .ok (.iconst 0, 1) := by decide +kernel
theorem dL_law_570 : decode cL_law 570 = .ok (.ireturn, 1) := by decide +kernel
theorem dL_law_571 : decode cL_law 571 = .ok (.aload_n 1, 1) := by decide +kernel
theorem dL_law_572 : decode cL_law 572 = .ok (.aload_n 0, 1) := by decide +kernel
theorem dL_law_573 : decode cL_law 573 = .ok (.iload_n 3, 1) := by decide +kernel
theorem dL_law_574 : decode cL_law 574 = .ok (.iconst 1, 1) := by decide +kernel
theorem dL_law_575 : decode cL_law 575 = .ok (.iadd, 1) := by decide +kernel
theorem dL_law_576 : decode cL_law 576 = .ok (.iaload, 1) := by decide +kernel
theorem dL_law_577 : decode cL_law 577 = .ok (.invokevirtual 70, 3) := by decide +kernel
theorem dL_law_580 : decode cL_law 580 = .ok (.aload_n 2, 1) := by decide +kernel
theorem dL_law_581 : decode cL_law 581 = .ok (.aload_n 0, 1) := by decide +kernel
theorem dL_law_582 : decode cL_law 582 = .ok (.iload_n 3, 1) := by decide +kernel
theorem dL_law_583 : decode cL_law 583 = .ok (.iconst 1, 1) := by decide +kernel
theorem dL_law_584 : decode cL_law 584 = .ok (.iadd, 1) := by decide +kernel
theorem dL_law_585 : decode cL_law 585 = .ok (.iaload, 1) := by decide +kernel
theorem dL_law_586 : decode cL_law 586 = .ok (.invokevirtual 73, 3) := by decide +kernel
theorem dL_law_589 : decode cL_law 589 = .ok (.if_icmp .eq 156, 3) := by decide +kernel
theorem dL_law_592 : decode cL_law 592 = .ok (.iconst 0, 1) := by decide +kernel
theorem dL_law_593 : decode cL_law 593 = .ok (.ireturn, 1) := by decide +kernel
theorem dL_law_594 : decode cL_law 594 = .ok (.aload_n 1, 1) := by decide +kernel
theorem dL_law_595 : decode cL_law 595 = .ok (.aload_n 0, 1) := by decide +kernel
theorem dL_law_596 : decode cL_law 596 = .ok (.iload_n 3, 1) := by decide +kernel
theorem dL_law_597 : decode cL_law 597 = .ok (.iconst 1, 1) := by decide +kernel
theorem dL_law_598 : decode cL_law 598 = .ok (.iadd, 1) := by decide +kernel
theorem dL_law_599 : decode cL_law 599 = .ok (.iaload, 1) := by decide +kernel
theorem dL_law_600 : decode cL_law 600 = .ok (.aload_n 0, 1) := by decide +kernel
theorem dL_law_601 : decode cL_law 601 = .ok (.iload_n 3, 1) := by decide +kernel
theorem dL_law_602 : decode cL_law 602 = .ok (.iconst 2, 1) := by decide +kernel
theorem dL_law_603 : decode cL_law 603 = .ok (.iadd, 1) := by decide +kernel
theorem dL_law_604 : decode cL_law 604 = .ok (.iaload, 1) := by decide +kernel
theorem dL_law_605 : decode cL_law 605 = .ok (.invokevirtual 74, 3) := by decide +kernel
theorem dL_law_608 : decode cL_law 608 = .ok (.aload_n 2, 1) := by decide +kernel
theorem dL_law_609 : decode cL_law 609 = .ok (.aload_n 0, 1) := by decide +kernel
theorem dL_law_610 : decode cL_law 610 = .ok (.iload_n 3, 1) := by decide +kernel
theorem dL_law_611 : decode cL_law 611 = .ok (.iconst 1, 1) := by decide +kernel
theorem dL_law_612 : decode cL_law 612 = .ok (.iadd, 1) := by decide +kernel
theorem dL_law_613 : decode cL_law 613 = .ok (.iaload, 1) := by decide +kernel
theorem dL_law_614 : decode cL_law 614 = .ok (.aload_n 0, 1) := by decide +kernel
theorem dL_law_615 : decode cL_law 615 = .ok (.iload_n 3, 1) := by decide +kernel
theorem dL_law_616 : decode cL_law 616 = .ok (.iconst 2, 1) := by decide +kernel
theorem dL_law_617 : decode cL_law 617 = .ok (.iadd, 1) := by decide +kernel
theorem dL_law_618 : decode cL_law 618 = .ok (.iaload, 1) := by decide +kernel
theorem dL_law_619 : decode cL_law 619 = .ok (.invokevirtual 77, 3) := by decide +kernel
theorem dL_law_622 : decode cL_law 622 = .ok (.if_icmp .eq 123, 3) := by decide +kernel
theorem dL_law_625 : decode cL_law 625 = .ok (.iconst 0, 1) := by decide +kernel
theorem dL_law_626 : decode cL_law 626 = .ok (.ireturn, 1) := by decide +kernel
theorem dL_law_627 : decode cL_law 627 = .ok (.aload_n 1, 1) := by decide +kernel
theorem dL_law_628 : decode cL_law 628 = .ok (.invokevirtual 78, 3) := by decide +kernel
theorem dL_law_631 : decode cL_law 631 = .ok (.aload_n 2, 1) := by decide +kernel
theorem dL_law_632 : decode cL_law 632 = .ok (.invokevirtual 81, 3) := by decide +kernel
theorem dL_law_635 : decode cL_law 635 = .ok (.if_icmp .eq 110, 3) := by decide +kernel
theorem dL_law_638 : decode cL_law 638 = .ok (.iconst 0, 1) := by decide +kernel
theorem dL_law_639 : decode cL_law 639 = .ok (.ireturn, 1) := by decide +kernel
theorem dL_law_640 : decode cL_law 640 = .ok (.aload_n 1, 1) := by decide +kernel
theorem dL_law_641 : decode cL_law 641 = .ok (.aload_n 0, 1) := by decide +kernel
theorem dL_law_642 : decode cL_law 642 = .ok (.iload_n 3, 1) := by decide +kernel
theorem dL_law_643 : decode cL_law 643 = .ok (.iconst 1, 1) := by decide +kernel
theorem dL_law_644 : decode cL_law 644 = .ok (.iadd, 1) := by decide +kernel
theorem dL_law_645 : decode cL_law 645 = .ok (.iaload, 1) := by decide +kernel
theorem dL_law_646 : decode cL_law 646 = .ok (.invokevirtual 82, 3) := by decide +kernel
theorem dL_law_649 : decode cL_law 649 = .ok (.aload_n 2, 1) := by decide +kernel
theorem dL_law_650 : decode cL_law 650 = .ok (.aload_n 0, 1) := by decide +kernel
theorem dL_law_651 : decode cL_law 651 = .ok (.iload_n 3, 1) := by decide +kernel
theorem dL_law_652 : decode cL_law 652 = .ok (.iconst 1, 1) := by decide +kernel
theorem dL_law_653 : decode cL_law 653 = .ok (.iadd, 1) := by decide +kernel
theorem dL_law_654 : decode cL_law 654 = .ok (.iaload, 1) := by decide +kernel
theorem dL_law_655 : decode cL_law 655 = .ok (.invokevirtual 85, 3) := by decide +kernel
theorem dL_law_658 : decode cL_law 658 = .ok (.if_icmp .eq 87, 3) := by decide +kernel
theorem dL_law_661 : decode cL_law 661 = .ok (.iconst 0, 1) := by decide +kernel
theorem dL_law_662 : decode cL_law 662 = .ok (.ireturn, 1) := by decide +kernel
theorem dL_law_663 : decode cL_law 663 = .ok (.aload_n 1, 1) := by decide +kernel
theorem dL_law_664 : decode cL_law 664 = .ok (.invokevirtual 86, 3) := by decide +kernel
theorem dL_law_667 : decode cL_law 667 = .ok (.aload_n 2, 1) := by decide +kernel
theorem dL_law_668 : decode cL_law 668 = .ok (.invokevirtual 89, 3) := by decide +kernel
theorem dL_law_671 : decode cL_law 671 = .ok (.if_icmp .eq 74, 3) := by decide +kernel
theorem dL_law_674 : decode cL_law 674 = .ok (.iconst 0, 1) := by decide +kernel
theorem dL_law_675 : decode cL_law 675 = .ok (.ireturn, 1) := by decide +kernel
theorem dL_law_676 : decode cL_law 676 = .ok (.aload_n 1, 1) := by decide +kernel
theorem dL_law_677 : decode cL_law 677 = .ok (.aload_n 0, 1) := by decide +kernel
theorem dL_law_678 : decode cL_law 678 = .ok (.iload_n 3, 1) := by decide +kernel
theorem dL_law_679 : decode cL_law 679 = .ok (.iconst 1, 1) := by decide +kernel
theorem dL_law_680 : decode cL_law 680 = .ok (.iadd, 1) := by decide +kernel
theorem dL_law_681 : decode cL_law 681 = .ok (.iaload, 1) := by decide +kernel
theorem dL_law_682 : decode cL_law 682 = .ok (.invokevirtual 90, 3) := by decide +kernel
theorem dL_law_685 : decode cL_law 685 = .ok (.aload_n 2, 1) := by decide +kernel
theorem dL_law_686 : decode cL_law 686 = .ok (.aload_n 0, 1) := by decide +kernel
theorem dL_law_687 : decode cL_law 687 = .ok (.iload_n 3, 1) := by decide +kernel
theorem dL_law_688 : decode cL_law 688 = .ok (.iconst 1, 1) := by decide +kernel
theorem dL_law_689 : decode cL_law 689 = .ok (.iadd, 1) := by decide +kernel
theorem dL_law_690 : decode cL_law 690 = .ok (.iaload, 1) := by decide +kernel
theorem dL_law_691 : decode cL_law 691 = .ok (.invokevirtual 93, 3) := by decide +kernel
theorem dL_law_694 : decode cL_law 694 = .ok (.if_icmp .eq 51, 3) := by decide +kernel
theorem dL_law_697 : decode cL_law 697 = .ok (.iconst 0, 1) := by decide +kernel
theorem dL_law_698 : decode cL_law 698 = .ok (.ireturn, 1) := by decide +kernel
theorem dL_law_699 : decode cL_law 699 = .ok (.aload_n 1, 1) := by decide +kernel
theorem dL_law_700 : decode cL_law 700 = .ok (.aload_n 0, 1) := by decide +kernel
theorem dL_law_701 : decode cL_law 701 = .ok (.iload_n 3, 1) := by decide +kernel
theorem dL_law_702 : decode cL_law 702 = .ok (.iconst 1, 1) := by decide +kernel
theorem dL_law_703 : decode cL_law 703 = .ok (.iadd, 1) := by decide +kernel
theorem dL_law_704 : decode cL_law 704 = .ok (.iaload, 1) := by decide +kernel
theorem dL_law_705 : decode cL_law 705 = .ok (.invokevirtual 94, 3) := by decide +kernel
theorem dL_law_708 : decode cL_law 708 = .ok (.aload_n 2, 1) := by decide +kernel
theorem dL_law_709 : decode cL_law 709 = .ok (.aload_n 0, 1) := by decide +kernel
theorem dL_law_710 : decode cL_law 710 = .ok (.iload_n 3, 1) := by decide +kernel
theorem dL_law_711 : decode cL_law 711 = .ok (.iconst 1, 1) := by decide +kernel
theorem dL_law_712 : decode cL_law 712 = .ok (.iadd, 1) := by decide +kernel
theorem dL_law_713 : decode cL_law 713 = .ok (.iaload, 1) := by decide +kernel
theorem dL_law_714 : decode cL_law 714 = .ok (.invokevirtual 97, 3) := by decide +kernel
theorem dL_law_717 : decode cL_law 717 = .ok (.if_icmp .eq 28, 3) := by decide +kernel
theorem dL_law_720 : decode cL_law 720 = .ok (.iconst 0, 1) := by decide +kernel
theorem dL_law_721 : decode cL_law 721 = .ok (.ireturn, 1) := by decide +kernel
theorem dL_law_722 : decode cL_law 722 = .ok (.aload_n 1, 1) := by decide +kernel
theorem dL_law_723 : decode cL_law 723 = .ok (.aload_n 0, 1) := by decide +kernel
theorem dL_law_724 : decode cL_law 724 = .ok (.iload_n 3, 1) := by decide +kernel
theorem dL_law_725 : decode cL_law 725 = .ok (.iconst 1, 1) := by decide +kernel
theorem dL_law_726 : decode cL_law 726 = .ok (.iadd, 1) := by decide +kernel
theorem dL_law_727 : decode cL_law 727 = .ok (.iaload, 1) := by decide +kernel
theorem dL_law_728 : decode cL_law 728 = .ok (.invokevirtual 98, 3) := by decide +kernel
theorem dL_law_731 : decode cL_law 731 = .ok (.aload_n 2, 1) := by decide +kernel
theorem dL_law_732 : decode cL_law 732 = .ok (.aload_n 0, 1) := by decide +kernel
theorem dL_law_733 : decode cL_law 733 = .ok (.iload_n 3, 1) := by decide +kernel
theorem dL_law_734 : decode cL_law 734 = .ok (.iconst 1, 1) := by decide +kernel
theorem dL_law_735 : decode cL_law 735 = .ok (.iadd, 1) := by decide +kernel
theorem dL_law_736 : decode cL_law 736 = .ok (.iaload, 1) := by decide +kernel
theorem dL_law_737 : decode cL_law 737 = .ok (.invokevirtual 101, 3) := by decide +kernel
theorem dL_law_740 : decode cL_law 740 = .ok (.if_icmp .eq 5, 3) := by decide +kernel
theorem dL_law_743 : decode cL_law 743 = .ok (.iconst 0, 1) := by decide +kernel
theorem dL_law_744 : decode cL_law 744 = .ok (.ireturn, 1) := by decide +kernel
theorem dL_law_745 : decode cL_law 745 = .ok (.iinc 3 5, 3) := by decide +kernel
theorem dL_law_748 : decode cL_law 748 = .ok (.goto (-730), 3) := by decide +kernel
theorem dL_law_751 : decode cL_law 751 = .ok (.iconst 1, 1) := by decide +kernel
theorem dL_law_752 : decode cL_law 752 = .ok (.ireturn, 1) := by decide +kernel
end
section
/-! the system's cells by number: world a is 12a (the object) and 12a+1 .. 12a+11 (its arrays), a < 8 (0 now, 1..5 earlier, 6, 7 images);
96 the class's object, 97 earlier, 98 images, 99 seenSite, 100 seenReceipts, 101 keptBySet, 102 tally;
103 the reference's object, 104 now, 105 past, 106 images, 107 isKept, 108 seenSite, 109 seenMany, 110 kept, 111 tally -/
abbrev V : Type := Int32 ⊕ Nat
abbrev St : Type := Nat → Nat → Int32
abbrev GG : Type := (Nat → Nat) × va_G × ClassId × ClassId × ClassId
abbrev MD : Type := String × ByteArray × Nat × Option FieldType × Nat
def vl (g : GG) (v : V) : Value := match v with
  | .inl x => .int x
  | .inr k => .ref (g.1 k)
theorem vl_cat (g : GG) (v : V) : (vl g v).category = 1 := by cases v <;> rfl
abbrev cls3 : List vw_C := [(RX0, TX0, 14), (RX1, TX1, 11), (RX2, TX2, 10)]
abbrev tys (g : GG) : List (ClassId × FieldType) := [(g.2.2.1, .int), (g.2.2.2.1, .boolean), (g.2.2.2.2, .object "CarriedOrders$World")]
def wlen (j : Nat) : Nat := match j with
  | 1 => 4 | 2 => 32 | 3 => 32 | 4 => 32 | 5 => 32 | 6 => 20 | 7 => 160 | 8 => 160 | 9 => 160 | 10 => 640 | _ => 16
def alen (k : Nat) : Nat := match k with
  | 99 => 6 | 100 => 6 | 101 => 16 | 102 => 9 | 104 => 1263 | 105 => 6315 | 106 => 2526 | 107 => 2 | 108 => 6 | 109 => 6 | 110 => 4 | 111 => 9
  | k => wlen (k % 12)
/-- the cells that are int arrays -/
def isA (k : Nat) : Bool := (Nat.blt k 96 && !(Nat.beq (k % 12) 0)) || (Nat.ble 99 k && Nat.ble k 102) || (Nat.ble 104 k && Nat.ble k 111 && !(Nat.beq k 107))
/-- a World's fields -/
def fW (g : GG) (r : Nat → Int32) (k : Nat) : List Value := [.int (r 0), .int (r 1), .int (r 2), .ref (g.1 (k + 1)), .ref (g.1 (k + 2)), .ref (g.1 (k + 3)), .ref (g.1 (k + 4)), .ref (g.1 (k + 5)), .ref (g.1 (k + 6)), .ref (g.1 (k + 7)), .ref (g.1 (k + 8)), .ref (g.1 (k + 9)), .ref (g.1 (k + 10)), .ref (g.1 (k + 11))]
def fC (g : GG) (r : Nat → Int32) : List Value := [.ref (g.1 0), .ref (g.1 97), .int (r 2), .int (r 3), .ref (g.1 98), .int (r 5), .ref (g.1 99), .ref (g.1 100), .int (r 8), .ref (g.1 101), .ref (g.1 102)]
def fM (g : GG) (r : Nat → Int32) : List Value := [.ref (g.1 104), .ref (g.1 105), .int (r 2), .ref (g.1 106), .ref (g.1 107), .int (r 5), .ref (g.1 108), .ref (g.1 109), .ref (g.1 110), .ref (g.1 111)]
def ct (g : GG) (r : Nat → Int32) (k : Nat) : va_E :=
  bif isA k then .inl (g.2.2.1, alen k, .inl r) else
  bif Nat.blt k 96 then .inr (0, fW g r k) else
  bif Nat.beq k 96 then .inr (1, fC g r) else
  bif Nat.beq k 97 then .inl (g.2.2.2.2, 5, .inr (.inr (.inr (.inr (fun i => some (g.1 (12 * (1 + i)))))))) else
  bif Nat.beq k 98 then .inl (g.2.2.2.2, 2, .inr (.inr (.inr (.inr (fun i => some (g.1 (12 * (6 + i)))))))) else
  bif Nat.beq k 107 then .inl (g.2.2.2.1, 2, .inl r) else .inr (2, fM g r)
theorem ct_A {g : GG} {r : Nat → Int32} {k : Nat} (h : isA k = true) : ct g r k = .inl (g.2.2.1, alen k, .inl r) := by unfold ct; rw [h]; rfl
/-- an int array's contents beyond its length don't matter -/
def wl (ks : List Nat) (g : GG) (S : St) : va_W := ks.map fun k => (g.1 k, ct g (S k) k)
def AA (ks : List Nat) (g : GG) : Nat → Prop := fun q => ∃ k ∈ ks, g.1 k = q
def Rp (ks : List Nat) (g : GG) (S : St) (H : Heap) : Prop := va_P g.2.1 cls3 (wl ks g S) H ∧ va_D (AA ks g) (wl ks g S) ∧ ks.Nodup
/-- one place of the store -/
def st (S : St) (k i : Nat) (x : Int32) : St := fun k' => if k' = k then upd (S k) i x else S k'
def sr (S : St) (k : Nat) (r : Nat → Int32) : St := fun k' => if k' = k then r else S k'
theorem st_eq (S : St) (k i : Nat) (x : Int32) : st S k i x = sr S k (upd (S k) i x) := rfl
theorem sr_s (S : St) (k : Nat) (r : Nat → Int32) : sr S k r k = r := if_pos rfl
theorem sr_n {S : St} {k j : Nat} {r : Nat → Int32} (h : j ≠ k) : sr S k r j = S j := if_neg h
def rmv (n : Nat) : Room := { frames := n, cells := 0, slots := 0, locals := 40 * n }
def al (g : GG) : Nat → List (Option V) → List (Nat × Value)
  | _, [] => []
  | i, none :: t => al g (i + 1) t
  | i, some v :: t => (i, vl g v) :: al g (i + 1) t
theorem al_mem {g : GG} : ∀ {L : List (Option V)} {b : Nat} {q : Nat × Value}, q ∈ al g b L ↔ ∃ (j : Nat) (v : V), L[j]? = some (some v) ∧ q = (b + j, vl g v)
  | [], b, q => by simp [al]
  | none :: t, b, q => by
    rw [al, al_mem (L := t)]
    constructor
    · rintro ⟨j, v, h1, h2⟩
      exact ⟨j + 1, v, by simpa using h1, by rw [h2]; congr 1; omega⟩
    · rintro ⟨j, v, h1, h2⟩
      cases j with
      | zero => simp at h1
      | succ j => exact ⟨j, v, by simpa using h1, by rw [h2]; congr 1; omega⟩
  | some w :: t, b, q => by
    rw [al, List.mem_cons, al_mem (L := t)]
    constructor
    · rintro (h | ⟨j, v, h1, h2⟩)
      · exact ⟨0, w, rfl, by rw [h]; rfl⟩
      · exact ⟨j + 1, v, by simpa using h1, by rw [h2]; congr 1; omega⟩
    · rintro ⟨j, v, h1, h2⟩
      cases j with
      | zero =>
        simp at h1
        subst h1
        exact Or.inl h2
      | succ j => exact Or.inr ⟨j, v, by simpa using h1, by rw [h2]; congr 1; omega⟩
def lvr (g : GG) (n : Nat) (ls : Array Slot) (L : List (Option V)) : Prop := L.length = n ∧ lv_has ls n (al g 0 L)
theorem lvr_at {g : GG} {n : Nat} {ls : Array Slot} {L : List (Option V)} (h : lvr g n ls L) {i : Nat} {v : V} (hi : L[i]? = some (some v)) : ls[i]? = some (.val (vl g v)) := by
  have h1 := h.2.2.2 (i, vl g v) (al_mem.mpr ⟨i, v, hi, by simp⟩)
  exact h1
theorem lvr_set {g : GG} {n : Nat} {ls' : Array Slot} {L : List (Option V)} {i : Nat} {v : V} (hl : L.length = n) (hi : i < L.length)
    (h : lv_has ls' n ((i, vl g v) :: (al g 0 L).filter (fun q => !(q.1 == i) && !(q.1 + 1 == i && q.2.category == 2)))) : lvr g n ls' (L.set i (some v)) := by
  refine ⟨by rw [List.length_set]; exact hl, h.1, h.2.1, fun q hq => ?_⟩
  obtain ⟨j, w, h1, h2⟩ := al_mem.mp hq
  by_cases hj : j = i
  · subst hj
    rw [List.getElem?_set_self hi] at h1
    have h1 : v = w := Option.some.inj (Option.some.inj h1)
    subst h1
    refine h.2.2 q ?_
    rw [h2]
    simp
  · rw [List.getElem?_set_ne (Ne.symm hj)] at h1
    refine h.2.2 q (List.mem_cons_of_mem _ (List.mem_filter.mpr ⟨al_mem.mpr ⟨j, w, h1, h2⟩, ?_⟩))
    rw [h2]
    simp [vl_cat, hj]
def PQ (ks : List Nat) (g : GG) (Q : Option Int32 → St → Prop) : Array Value → State → Outcome → State → Prop := fun _ u oc t => (∃ (r : Option Int32) (S : St), oc = .returned (r.map Value.int) ∧ Q r S ∧ Rp ks g S t.heap ∧ va_K g.2.1 cls3 (tys g) t) ∧ va_F (AA ks g) u t
def Cx (g : GG) (p : Program) (s : State) (mi : MethodId) (args : Array Value) (meth : Method) (c : Code) (m : MD) : Prop :=
  p.tables.exec = Jvm.exec ∧ c.code = m.2.1 ∧ c.maxLocals = m.2.2.1 ∧ s.vm.findClass m.1 = some mi.cls ∧ meth.sig.returnType = m.2.2.2.1 ∧ meth.locks = false ∧ (∀ w ∈ gw, w.before args s = true) ∧ va_K g.2.1 cls3 (tys g) s
/-- from here the method comes to its end with Q, whatever the machine around it is -/
def Ev (ks : List Nat) (m : MD) (pc : Nat) (L : List (Option V)) (sk : List V) (S : St) (Q : Option Int32 → St → Prop) : Prop :=
  ∀ (l : Launch) (g : GG) (p : Program) (e : Env) (s : State) (mi : MethodId) (args : Array Value) (below : List Frame) (meth : Method) (c : Code) (H : Heap) (locs : List Loc) (ls : Array Slot),
    Cx g p s mi args meth c m → Rp ks g S H → va_S (AA ks g) s.heap H locs → lvr g m.2.2.1 ls L →
    W p l e (rmv m.2.2.2.2) s mi args below meth c H locs 0 0 (MQ below (PQ ks g Q) args s 0 0 (AA ks g)) (F0 mi pc ls (sk.map (vl g)))
/-- the contract of a method at given arguments and store -/
def Cn (ks : List Nat) (m : MD) (y : MethodName) (av : List V) (S : St) (Q : Option Int32 → St → Prop) : Prop :=
  ∀ (l : Launch) (g : GG), Met l y (.code y m.2.1 m.2.2.1 m.2.2.2.1 :: gw) (rmv m.2.2.2.2) (va_Pc (av.map (vl g)) (fun U => Rp ks g S U.heap ∧ va_K g.2.1 cls3 (tys g) U)) (PQ ks g Q) 0 0 (AA ks g)
theorem lg_sl_vl (g : GG) : ∀ (av : List V), lg_sl (av.map (vl g)) = av.map fun v => Slot.val (vl g v)
  | [] => rfl
  | v :: t => by
    have h := lg_sl_vl g t
    unfold lg_sl at h ⊢
    rw [List.map_cons, List.flatMap_cons, h, vl_cat]
    rfl
theorem args_al (g : GG) (k : Nat) : ∀ (av : List V) (i : Nat), lv_args i (av.map (vl g)) = al g i (av.map some ++ List.replicate k none)
  | [], i => by
    show [] = al g i (List.replicate k none)
    induction k generalizing i with
    | zero => rfl
    | succ k ih => rw [List.replicate_succ, al]; exact ih (i + 1)
  | v :: t, i => by
    rw [List.map_cons, lv_args, vl_cat, List.map_cons, List.cons_append, al]
    rw [← args_al g k t (i + 1)]
    rfl
theorem Cn.of {ks : List Nat} {m : MD} {y : MethodName} {av : List V} {S : St} {Q : Option Int32 → St → Prop} (hy : plainName y.cls = true) (hc : y.cls = m.1) (k : Nat) (hk : av.length + k = m.2.2.1) (h : Ev ks m 0 (av.map some ++ List.replicate k none) [] S Q) : Cn ks m y av S Q := by
  intro l g
  refine Met.ofW (cc := m.2.1) (maxL := m.2.2.1) (ret := m.2.2.2.1) hy rfl ?_
  intro p e s mi args below meth c s₁ B hml hv
  obtain ⟨rfl, hR, hK⟩ := hv
  have hts := atoms_spec (ws := .code y m.2.1 m.2.2.1 m.2.2.2.1 :: gw) B.pre
  have hown : s.vm.findClass m.1 = some mi.cls := hc ▸ findClass_of_methodNamed B.named
  have hl := lv_entry (av.map (vl g)) (n := m.2.2.1) (by rw [lg_sl_vl, List.length_map]; omega)
  rw [lg_entry_eq]
  generalize (lg_sl (av.map (vl g)) ++ List.replicate (m.2.2.1 - (lg_sl (av.map (vl g))).length) Slot.unset).toArray = ls at hl ⊢
  rw [args_al g k] at hl
  exact h l g p e s mi _ below meth c s.heap [] ls ⟨B.exec, B.bytes, hml, hown, B.returns, B.notSynchronized, fun w hw => hts w (List.mem_cons_of_mem _ hw), hK⟩ hR va_S.rf ⟨by simp; omega, hl⟩
end
section
section EV
variable {ks : List Nat} {m : MD} {pc : Nat} {L : List (Option V)} {sk : List V} {S : St} {Q : Option Int32 → St → Prop}
theorem ev_iadd {x y : Int32} (hd : decode m.2.1 pc = .ok (.iadd, 1)) (kk : Ev ks m (pc + 1) L (.inl (x + y) :: sk) S Q) : Ev ks m pc L (.inl y :: .inl x :: sk) S Q := fun l g p e s mi args below meth c H locs ls C R1 S1 L1 => lv_iadd C.1 C.2.1 hd (kk l g p e s mi args below meth c H locs ls C R1 S1 L1)
theorem ev_isub {x y : Int32} (hd : decode m.2.1 pc = .ok (.isub, 1)) (kk : Ev ks m (pc + 1) L (.inl (x - y) :: sk) S Q) : Ev ks m pc L (.inl y :: .inl x :: sk) S Q := fun l g p e s mi args below meth c H locs ls C R1 S1 L1 => lv_isub C.1 C.2.1 hd (kk l g p e s mi args below meth c H locs ls C R1 S1 L1)
theorem ev_imul {x y : Int32} (hd : decode m.2.1 pc = .ok (.imul, 1)) (kk : Ev ks m (pc + 1) L (.inl (x * y) :: sk) S Q) : Ev ks m pc L (.inl y :: .inl x :: sk) S Q := fun l g p e s mi args below meth c H locs ls C R1 S1 L1 => lv_imul C.1 C.2.1 hd (kk l g p e s mi args below meth c H locs ls C R1 S1 L1)
theorem ev_iand {x y : Int32} (hd : decode m.2.1 pc = .ok (.iand, 1)) (kk : Ev ks m (pc + 1) L (.inl (x &&& y) :: sk) S Q) : Ev ks m pc L (.inl y :: .inl x :: sk) S Q := fun l g p e s mi args below meth c H locs ls C R1 S1 L1 => lv_iand C.1 C.2.1 hd (kk l g p e s mi args below meth c H locs ls C R1 S1 L1)
theorem ev_ior {x y : Int32} (hd : decode m.2.1 pc = .ok (.ior, 1)) (kk : Ev ks m (pc + 1) L (.inl (x ||| y) :: sk) S Q) : Ev ks m pc L (.inl y :: .inl x :: sk) S Q := fun l g p e s mi args below meth c H locs ls C R1 S1 L1 => lv_ior C.1 C.2.1 hd (kk l g p e s mi args below meth c H locs ls C R1 S1 L1)
theorem ev_ixor {x y : Int32} (hd : decode m.2.1 pc = .ok (.ixor, 1)) (kk : Ev ks m (pc + 1) L (.inl (x ^^^ y) :: sk) S Q) : Ev ks m pc L (.inl y :: .inl x :: sk) S Q := fun l g p e s mi args below meth c H locs ls C R1 S1 L1 => lv_ixor C.1 C.2.1 hd (kk l g p e s mi args below meth c H locs ls C R1 S1 L1)
theorem ev_ishl {x y : Int32} (hd : decode m.2.1 pc = .ok (.ishl, 1)) (kk : Ev ks m (pc + 1) L (.inl (x <<< (y &&& 31)) :: sk) S Q) : Ev ks m pc L (.inl y :: .inl x :: sk) S Q := fun l g p e s mi args below meth c H locs ls C R1 S1 L1 => lv_ishl C.1 C.2.1 hd (kk l g p e s mi args below meth c H locs ls C R1 S1 L1)
theorem ev_ishr {x y : Int32} (hd : decode m.2.1 pc = .ok (.ishr, 1)) (kk : Ev ks m (pc + 1) L (.inl (x >>> (y &&& 31)) :: sk) S Q) : Ev ks m pc L (.inl y :: .inl x :: sk) S Q := fun l g p e s mi args below meth c H locs ls C R1 S1 L1 => lv_ishr C.1 C.2.1 hd (kk l g p e s mi args below meth c H locs ls C R1 S1 L1)
def ush (x y : Int32) : Int32 := (x.toUInt32 >>> (y.toUInt32 &&& Int32.toUInt32 31)).toInt32
theorem ev_iushr {x y : Int32} (hd : decode m.2.1 pc = .ok (.iushr, 1)) (kk : Ev ks m (pc + 1) L (.inl (ush x y) :: sk) S Q) : Ev ks m pc L (.inl y :: .inl x :: sk) S Q := fun l g p e s mi args below meth c H locs ls C R1 S1 L1 => lv_iushr C.1 C.2.1 hd rfl (kk l g p e s mi args below meth c H locs ls C R1 S1 L1)
theorem ev_idiv {x y : Int32} (hne : ¬ y = 0) (hd : decode m.2.1 pc = .ok (.idiv, 1)) (kk : Ev ks m (pc + 1) L (.inl (x / y) :: sk) S Q) : Ev ks m pc L (.inl y :: .inl x :: sk) S Q := fun l g p e s mi args below meth c H locs ls C R1 S1 L1 => lv_idiv C.1 C.2.1 hd hne (kk l g p e s mi args below meth c H locs ls C R1 S1 L1)
theorem ev_irem {x y : Int32} (hne : ¬ y = 0) (hd : decode m.2.1 pc = .ok (.irem, 1)) (kk : Ev ks m (pc + 1) L (.inl (x - x / y * y) :: sk) S Q) : Ev ks m pc L (.inl y :: .inl x :: sk) S Q := fun l g p e s mi args below meth c H locs ls C R1 S1 L1 => lv_irem C.1 C.2.1 hd hne (kk l g p e s mi args below meth c H locs ls C R1 S1 L1)
theorem ev_iaddN {a b : Nat} (hd : decode m.2.1 pc = .ok (.iadd, 1)) (kk : Ev ks m (pc + 1) L (.inl (nI (a + b)) :: sk) S Q) : Ev ks m pc L (.inl (nI b) :: .inl (nI a) :: sk) S Q := ev_iadd hd (by rw [nI_add]; exact kk)
theorem ev_imulN {a b : Nat} (hd : decode m.2.1 pc = .ok (.imul, 1)) (kk : Ev ks m (pc + 1) L (.inl (nI (a * b)) :: sk) S Q) : Ev ks m pc L (.inl (nI b) :: .inl (nI a) :: sk) S Q := ev_imul hd (by rw [pk_mul]; exact kk)
theorem ev_isubN {a b : Nat} (h : b ≤ a) (hd : decode m.2.1 pc = .ok (.isub, 1)) (kk : Ev ks m (pc + 1) L (.inl (nI (a - b)) :: sk) S Q) : Ev ks m pc L (.inl (nI b) :: .inl (nI a) :: sk) S Q := ev_isub hd (by rw [pk_sub h]; exact kk)
theorem ev_iremN {a b : Nat} (h0 : 0 < b) (ha : a < 2147483648) (hb : b < 2147483648) (hd : decode m.2.1 pc = .ok (.irem, 1)) (kk : Ev ks m (pc + 1) L (.inl (nI (a % b)) :: sk) S Q) : Ev ks m pc L (.inl (nI b) :: .inl (nI a) :: sk) S Q := ev_irem (nI_ne0 h0 (by omega)) hd (by rw [pk_rem (by omega) h0 (by omega)]; exact kk)
theorem ev_idivN {a b : Nat} (h0 : 0 < b) (ha : a < 2147483648) (hb : b < 2147483648) (hd : decode m.2.1 pc = .ok (.idiv, 1)) (kk : Ev ks m (pc + 1) L (.inl (nI (a / b)) :: sk) S Q) : Ev ks m pc L (.inl (nI b) :: .inl (nI a) :: sk) S Q := ev_idiv (nI_ne0 h0 (by omega)) hd (by rw [pk_div (by omega) h0 (by omega)]; exact kk)
theorem ev_c0 (hd : decode m.2.1 pc = .ok (.iconst 0, 1)) (kk : Ev ks m (pc + 1) L (.inl (nI 0) :: sk) S Q) : Ev ks m pc L sk S Q := fun l g p e s mi args below meth c H locs ls C R1 S1 L1 => lv_iconst C.1 C.2.1 hd (by decide +kernel) (kk l g p e s mi args below meth c H locs ls C R1 S1 L1)
theorem ev_c1 (hd : decode m.2.1 pc = .ok (.iconst 1, 1)) (kk : Ev ks m (pc + 1) L (.inl (nI 1) :: sk) S Q) : Ev ks m pc L sk S Q := fun l g p e s mi args below meth c H locs ls C R1 S1 L1 => lv_iconst C.1 C.2.1 hd (by decide +kernel) (kk l g p e s mi args below meth c H locs ls C R1 S1 L1)
theorem ev_c2 (hd : decode m.2.1 pc = .ok (.iconst 2, 1)) (kk : Ev ks m (pc + 1) L (.inl (nI 2) :: sk) S Q) : Ev ks m pc L sk S Q := fun l g p e s mi args below meth c H locs ls C R1 S1 L1 => lv_iconst C.1 C.2.1 hd (by decide +kernel) (kk l g p e s mi args below meth c H locs ls C R1 S1 L1)
theorem ev_c3 (hd : decode m.2.1 pc = .ok (.iconst 3, 1)) (kk : Ev ks m (pc + 1) L (.inl (nI 3) :: sk) S Q) : Ev ks m pc L sk S Q := fun l g p e s mi args below meth c H locs ls C R1 S1 L1 => lv_iconst C.1 C.2.1 hd (by decide +kernel) (kk l g p e s mi args below meth c H locs ls C R1 S1 L1)
theorem ev_c4 (hd : decode m.2.1 pc = .ok (.iconst 4, 1)) (kk : Ev ks m (pc + 1) L (.inl (nI 4) :: sk) S Q) : Ev ks m pc L sk S Q := fun l g p e s mi args below meth c H locs ls C R1 S1 L1 => lv_iconst C.1 C.2.1 hd (by decide +kernel) (kk l g p e s mi args below meth c H locs ls C R1 S1 L1)
theorem ev_c5 (hd : decode m.2.1 pc = .ok (.iconst 5, 1)) (kk : Ev ks m (pc + 1) L (.inl (nI 5) :: sk) S Q) : Ev ks m pc L sk S Q := fun l g p e s mi args below meth c H locs ls C R1 S1 L1 => lv_iconst C.1 C.2.1 hd (by decide +kernel) (kk l g p e s mi args below meth c H locs ls C R1 S1 L1)
theorem ev_cm1 (hd : decode m.2.1 pc = .ok (.iconst (-1), 1)) (kk : Ev ks m (pc + 1) L (.inl (-1) :: sk) S Q) : Ev ks m pc L sk S Q := fun l g p e s mi args below meth c H locs ls C R1 S1 L1 => lv_iconst C.1 C.2.1 hd (by decide +kernel) (kk l g p e s mi args below meth c H locs ls C R1 S1 L1)
theorem ev_bipush {n : Int} (v : Int32) (hv : (Int8.ofInt n).toInt32 = v) (hd : decode m.2.1 pc = .ok (.bipush n, 2)) (kk : Ev ks m (pc + 2) L (.inl v :: sk) S Q) : Ev ks m pc L sk S Q := fun l g p e s mi args below meth c H locs ls C R1 S1 L1 => lv_bipush C.1 C.2.1 hd hv (kk l g p e s mi args below meth c H locs ls C R1 S1 L1)
theorem ev_sipush {n : Int} (v : Int32) (hv : (Int16.ofInt n).toInt32 = v) (hd : decode m.2.1 pc = .ok (.sipush n, 3)) (kk : Ev ks m (pc + 3) L (.inl v :: sk) S Q) : Ev ks m pc L sk S Q := fun l g p e s mi args below meth c H locs ls C R1 S1 L1 => lv_sipush C.1 C.2.1 hd hv (kk l g p e s mi args below meth c H locs ls C R1 S1 L1)
theorem ev_ldcw {i : Nat} (v : Int32) (hw : Cond.constant m.1 i v ∈ gw) (hd : decode m.2.1 pc = .ok (.ldc_w i, 3)) (kk : Ev ks m (pc + 3) L (.inl v :: sk) S Q) : Ev ks m pc L sk S Q := fun l g p e s mi args below meth c H locs ls C R1 S1 L1 => lv_ldcw C.1 C.2.1 C.2.2.2.1 (C.2.2.2.2.2.2.1 _ hw) hd (kk l g p e s mi args below meth c H locs ls C R1 S1 L1)
theorem ev_iload_n {k : Fin 4} {x : Int32} (hL : L[(k : Nat)]? = some (some (.inl x))) (hd : decode m.2.1 pc = .ok (.iload_n k, 1)) (kk : Ev ks m (pc + 1) L (.inl x :: sk) S Q) : Ev ks m pc L sk S Q := fun l g p e s mi args below meth c H locs ls C R1 S1 L1 => lv_iload_n C.1 C.2.1 hd rfl (lvr_at L1 hL) (kk l g p e s mi args below meth c H locs ls C R1 S1 L1)
theorem ev_iload {i : Nat} {x : Int32} (hL : L[i]? = some (some (.inl x))) (hd : decode m.2.1 pc = .ok (.iload i, 2)) (kk : Ev ks m (pc + 2) L (.inl x :: sk) S Q) : Ev ks m pc L sk S Q := fun l g p e s mi args below meth c H locs ls C R1 S1 L1 => lv_iload C.1 C.2.1 hd (lvr_at L1 hL) (kk l g p e s mi args below meth c H locs ls C R1 S1 L1)
theorem ev_aload_n {k : Fin 4} {x : Nat} (hL : L[(k : Nat)]? = some (some (.inr x))) (hd : decode m.2.1 pc = .ok (.aload_n k, 1)) (kk : Ev ks m (pc + 1) L (.inr x :: sk) S Q) : Ev ks m pc L sk S Q := fun l g p e s mi args below meth c H locs ls C R1 S1 L1 => lv_aload_n C.1 C.2.1 hd rfl (lvr_at L1 hL) (kk l g p e s mi args below meth c H locs ls C R1 S1 L1)
theorem ev_istore_n {k : Fin 4} {x : Int32} (hL : (k : Nat) < L.length) (hd : decode m.2.1 pc = .ok (.istore_n k, 1)) (kk : Ev ks m (pc + 1) (L.set k (some (.inl x))) sk S Q) : Ev ks m pc L (.inl x :: sk) S Q := fun l g p e s mi args below meth c H locs ls C R1 S1 L1 => lv_istore_n C.1 C.2.1 hd rfl L1.2 (by rw [← L1.1]; exact hL) rfl (fun ls2 h2 => kk l g p e s mi args below meth c H locs ls2 C R1 S1 (lvr_set (v := .inl x) L1.1 hL h2))
theorem ev_istore {i : Nat} {x : Int32} (hL : i < L.length) (hd : decode m.2.1 pc = .ok (.istore i, 2)) (kk : Ev ks m (pc + 2) (L.set i (some (.inl x))) sk S Q) : Ev ks m pc L (.inl x :: sk) S Q := fun l g p e s mi args below meth c H locs ls C R1 S1 L1 => lv_istore C.1 C.2.1 hd L1.2 (by rw [← L1.1]; exact hL) rfl (fun ls2 h2 => kk l g p e s mi args below meth c H locs ls2 C R1 S1 (lvr_set (v := .inl x) L1.1 hL h2))
theorem ev_iinc {i : Nat} {n : Int} {x : Int32} (v : Int32) (hv : x + Int32.ofInt n = v) (hL : L[i]? = some (some (.inl x))) (hd : decode m.2.1 pc = .ok (.iinc i n, 3)) (kk : Ev ks m (pc + 3) (L.set i (some (.inl v))) sk S Q) : Ev ks m pc L sk S Q := by
  intro l g p e s mi args below meth c H locs ls C R1 S1 L1
  have hi : i < L.length := (List.getElem?_eq_some_iff.mp hL).1
  obtain ⟨k, hk⟩ := List.getElem?_of_mem (al_mem.mpr ⟨i, .inl x, hL, rfl⟩ : ((0 + i, vl g (.inl x)) : Nat × Value) ∈ al g 0 L)
  rw [Nat.zero_add] at hk
  exact lv_iinc (k := k) C.1 C.2.1 hd L1.2 hk hv (by rw [← L1.1]; exact hi) rfl (fun ls2 h2 => kk l g p e s mi args below meth c H locs ls2 C R1 S1 (lvr_set (v := .inl v) L1.1 hi h2))
theorem ev_iload_n0 {T : List (Option V)} {x : Int32} (hd : decode m.2.1 pc = .ok (.iload_n 0, 1)) (kk : Ev ks m (pc + 1) (some (.inl x) :: T) (.inl x :: sk) S Q) : Ev ks m pc (some (.inl x) :: T) sk S Q := ev_iload_n (k := 0) rfl hd kk
theorem ev_aload_n0 {T : List (Option V)} {x : Nat} (hd : decode m.2.1 pc = .ok (.aload_n 0, 1)) (kk : Ev ks m (pc + 1) (some (.inr x) :: T) (.inr x :: sk) S Q) : Ev ks m pc (some (.inr x) :: T) sk S Q := ev_aload_n (k := 0) rfl hd kk
theorem ev_istore_n0 {T : List (Option V)} {z : Option V} {x : Int32} (hd : decode m.2.1 pc = .ok (.istore_n 0, 1)) (kk : Ev ks m (pc + 1) (some (.inl x) :: T) sk S Q) : Ev ks m pc (z :: T) (.inl x :: sk) S Q := ev_istore_n (k := 0) (by show 0 < _; simp only [List.length_cons]; omega) hd kk
theorem ev_iinc0 {T : List (Option V)} {a : Nat} (hd : decode m.2.1 pc = .ok (.iinc 0 1, 3)) (kk : Ev ks m (pc + 3) (some (.inl (nI (a + 1))) :: T) sk S Q) : Ev ks m pc (some (.inl (nI a)) :: T) sk S Q := ev_iinc (nI (a + 1)) (nI_1 a) rfl hd kk
theorem ev_idec0 {T : List (Option V)} {x : Int32} (hd : decode m.2.1 pc = .ok (.iinc 0 (-1), 3)) (kk : Ev ks m (pc + 3) (some (.inl (x - 1)) :: T) sk S Q) : Ev ks m pc (some (.inl x) :: T) sk S Q := ev_iinc (x - 1) (by rw [Int32.sub_eq_add_neg]; rfl) rfl hd kk
theorem ev_iload_n1 {a0 : Option V} {T : List (Option V)} {x : Int32} (hd : decode m.2.1 pc = .ok (.iload_n 1, 1)) (kk : Ev ks m (pc + 1) (a0 :: some (.inl x) :: T) (.inl x :: sk) S Q) : Ev ks m pc (a0 :: some (.inl x) :: T) sk S Q := ev_iload_n (k := 1) rfl hd kk
theorem ev_aload_n1 {a0 : Option V} {T : List (Option V)} {x : Nat} (hd : decode m.2.1 pc = .ok (.aload_n 1, 1)) (kk : Ev ks m (pc + 1) (a0 :: some (.inr x) :: T) (.inr x :: sk) S Q) : Ev ks m pc (a0 :: some (.inr x) :: T) sk S Q := ev_aload_n (k := 1) rfl hd kk
theorem ev_istore_n1 {a0 : Option V} {T : List (Option V)} {z : Option V} {x : Int32} (hd : decode m.2.1 pc = .ok (.istore_n 1, 1)) (kk : Ev ks m (pc + 1) (a0 :: some (.inl x) :: T) sk S Q) : Ev ks m pc (a0 :: z :: T) (.inl x :: sk) S Q := ev_istore_n (k := 1) (by show 1 < _; simp only [List.length_cons]; omega) hd kk
theorem ev_iinc1 {a0 : Option V} {T : List (Option V)} {a : Nat} (hd : decode m.2.1 pc = .ok (.iinc 1 1, 3)) (kk : Ev ks m (pc + 3) (a0 :: some (.inl (nI (a + 1))) :: T) sk S Q) : Ev ks m pc (a0 :: some (.inl (nI a)) :: T) sk S Q := ev_iinc (nI (a + 1)) (nI_1 a) rfl hd kk
theorem ev_idec1 {a0 : Option V} {T : List (Option V)} {x : Int32} (hd : decode m.2.1 pc = .ok (.iinc 1 (-1), 3)) (kk : Ev ks m (pc + 3) (a0 :: some (.inl (x - 1)) :: T) sk S Q) : Ev ks m pc (a0 :: some (.inl x) :: T) sk S Q := ev_iinc (x - 1) (by rw [Int32.sub_eq_add_neg]; rfl) rfl hd kk
theorem ev_iload_n2 {a0 a1 : Option V} {T : List (Option V)} {x : Int32} (hd : decode m.2.1 pc = .ok (.iload_n 2, 1)) (kk : Ev ks m (pc + 1) (a0 :: a1 :: some (.inl x) :: T) (.inl x :: sk) S Q) : Ev ks m pc (a0 :: a1 :: some (.inl x) :: T) sk S Q := ev_iload_n (k := 2) rfl hd kk
theorem ev_aload_n2 {a0 a1 : Option V} {T : List (Option V)} {x : Nat} (hd : decode m.2.1 pc = .ok (.aload_n 2, 1)) (kk : Ev ks m (pc + 1) (a0 :: a1 :: some (.inr x) :: T) (.inr x :: sk) S Q) : Ev ks m pc (a0 :: a1 :: some (.inr x) :: T) sk S Q := ev_aload_n (k := 2) rfl hd kk
theorem ev_istore_n2 {a0 a1 : Option V} {T : List (Option V)} {z : Option V} {x : Int32} (hd : decode m.2.1 pc = .ok (.istore_n 2, 1)) (kk : Ev ks m (pc + 1) (a0 :: a1 :: some (.inl x) :: T) sk S Q) : Ev ks m pc (a0 :: a1 :: z :: T) (.inl x :: sk) S Q := ev_istore_n (k := 2) (by show 2 < _; simp only [List.length_cons]; omega) hd kk
theorem ev_iinc2 {a0 a1 : Option V} {T : List (Option V)} {a : Nat} (hd : decode m.2.1 pc = .ok (.iinc 2 1, 3)) (kk : Ev ks m (pc + 3) (a0 :: a1 :: some (.inl (nI (a + 1))) :: T) sk S Q) : Ev ks m pc (a0 :: a1 :: some (.inl (nI a)) :: T) sk S Q := ev_iinc (nI (a + 1)) (nI_1 a) rfl hd kk
theorem ev_idec2 {a0 a1 : Option V} {T : List (Option V)} {x : Int32} (hd : decode m.2.1 pc = .ok (.iinc 2 (-1), 3)) (kk : Ev ks m (pc + 3) (a0 :: a1 :: some (.inl (x - 1)) :: T) sk S Q) : Ev ks m pc (a0 :: a1 :: some (.inl x) :: T) sk S Q := ev_iinc (x - 1) (by rw [Int32.sub_eq_add_neg]; rfl) rfl hd kk
theorem ev_iload_n3 {a0 a1 a2 : Option V} {T : List (Option V)} {x : Int32} (hd : decode m.2.1 pc = .ok (.iload_n 3, 1)) (kk : Ev ks m (pc + 1) (a0 :: a1 :: a2 :: some (.inl x) :: T) (.inl x :: sk) S Q) : Ev ks m pc (a0 :: a1 :: a2 :: some (.inl x) :: T) sk S Q := ev_iload_n (k := 3) rfl hd kk
theorem ev_aload_n3 {a0 a1 a2 : Option V} {T : List (Option V)} {x : Nat} (hd : decode m.2.1 pc = .ok (.aload_n 3, 1)) (kk : Ev ks m (pc + 1) (a0 :: a1 :: a2 :: some (.inr x) :: T) (.inr x :: sk) S Q) : Ev ks m pc (a0 :: a1 :: a2 :: some (.inr x) :: T) sk S Q := ev_aload_n (k := 3) rfl hd kk
theorem ev_istore_n3 {a0 a1 a2 : Option V} {T : List (Option V)} {z : Option V} {x : Int32} (hd : decode m.2.1 pc = .ok (.istore_n 3, 1)) (kk : Ev ks m (pc + 1) (a0 :: a1 :: a2 :: some (.inl x) :: T) sk S Q) : Ev ks m pc (a0 :: a1 :: a2 :: z :: T) (.inl x :: sk) S Q := ev_istore_n (k := 3) (by show 3 < _; simp only [List.length_cons]; omega) hd kk
theorem ev_iinc3 {a0 a1 a2 : Option V} {T : List (Option V)} {a : Nat} (hd : decode m.2.1 pc = .ok (.iinc 3 1, 3)) (kk : Ev ks m (pc + 3) (a0 :: a1 :: a2 :: some (.inl (nI (a + 1))) :: T) sk S Q) : Ev ks m pc (a0 :: a1 :: a2 :: some (.inl (nI a)) :: T) sk S Q := ev_iinc (nI (a + 1)) (nI_1 a) rfl hd kk
theorem ev_idec3 {a0 a1 a2 : Option V} {T : List (Option V)} {x : Int32} (hd : decode m.2.1 pc = .ok (.iinc 3 (-1), 3)) (kk : Ev ks m (pc + 3) (a0 :: a1 :: a2 :: some (.inl (x - 1)) :: T) sk S Q) : Ev ks m pc (a0 :: a1 :: a2 :: some (.inl x) :: T) sk S Q := ev_iinc (x - 1) (by rw [Int32.sub_eq_add_neg]; rfl) rfl hd kk
theorem ev_iload4 {a0 a1 a2 a3 : Option V} {T : List (Option V)} {x : Int32} (hd : decode m.2.1 pc = .ok (.iload 4, 2)) (kk : Ev ks m (pc + 2) (a0 :: a1 :: a2 :: a3 :: some (.inl x) :: T) (.inl x :: sk) S Q) : Ev ks m pc (a0 :: a1 :: a2 :: a3 :: some (.inl x) :: T) sk S Q := ev_iload rfl hd kk
theorem ev_istore4 {a0 a1 a2 a3 : Option V} {T : List (Option V)} {z : Option V} {x : Int32} (hd : decode m.2.1 pc = .ok (.istore 4, 2)) (kk : Ev ks m (pc + 2) (a0 :: a1 :: a2 :: a3 :: some (.inl x) :: T) sk S Q) : Ev ks m pc (a0 :: a1 :: a2 :: a3 :: z :: T) (.inl x :: sk) S Q := ev_istore (by simp only [List.length_cons]; omega) hd kk
theorem ev_iinc4 {a0 a1 a2 a3 : Option V} {T : List (Option V)} {a : Nat} (hd : decode m.2.1 pc = .ok (.iinc 4 1, 3)) (kk : Ev ks m (pc + 3) (a0 :: a1 :: a2 :: a3 :: some (.inl (nI (a + 1))) :: T) sk S Q) : Ev ks m pc (a0 :: a1 :: a2 :: a3 :: some (.inl (nI a)) :: T) sk S Q := ev_iinc (nI (a + 1)) (nI_1 a) rfl hd kk
theorem ev_idec4 {a0 a1 a2 a3 : Option V} {T : List (Option V)} {x : Int32} (hd : decode m.2.1 pc = .ok (.iinc 4 (-1), 3)) (kk : Ev ks m (pc + 3) (a0 :: a1 :: a2 :: a3 :: some (.inl (x - 1)) :: T) sk S Q) : Ev ks m pc (a0 :: a1 :: a2 :: a3 :: some (.inl x) :: T) sk S Q := ev_iinc (x - 1) (by rw [Int32.sub_eq_add_neg]; rfl) rfl hd kk
theorem ev_iload5 {a0 a1 a2 a3 a4 : Option V} {T : List (Option V)} {x : Int32} (hd : decode m.2.1 pc = .ok (.iload 5, 2)) (kk : Ev ks m (pc + 2) (a0 :: a1 :: a2 :: a3 :: a4 :: some (.inl x) :: T) (.inl x :: sk) S Q) : Ev ks m pc (a0 :: a1 :: a2 :: a3 :: a4 :: some (.inl x) :: T) sk S Q := ev_iload rfl hd kk
theorem ev_istore5 {a0 a1 a2 a3 a4 : Option V} {T : List (Option V)} {z : Option V} {x : Int32} (hd : decode m.2.1 pc = .ok (.istore 5, 2)) (kk : Ev ks m (pc + 2) (a0 :: a1 :: a2 :: a3 :: a4 :: some (.inl x) :: T) sk S Q) : Ev ks m pc (a0 :: a1 :: a2 :: a3 :: a4 :: z :: T) (.inl x :: sk) S Q := ev_istore (by simp only [List.length_cons]; omega) hd kk
theorem ev_iinc5 {a0 a1 a2 a3 a4 : Option V} {T : List (Option V)} {a : Nat} (hd : decode m.2.1 pc = .ok (.iinc 5 1, 3)) (kk : Ev ks m (pc + 3) (a0 :: a1 :: a2 :: a3 :: a4 :: some (.inl (nI (a + 1))) :: T) sk S Q) : Ev ks m pc (a0 :: a1 :: a2 :: a3 :: a4 :: some (.inl (nI a)) :: T) sk S Q := ev_iinc (nI (a + 1)) (nI_1 a) rfl hd kk
theorem ev_idec5 {a0 a1 a2 a3 a4 : Option V} {T : List (Option V)} {x : Int32} (hd : decode m.2.1 pc = .ok (.iinc 5 (-1), 3)) (kk : Ev ks m (pc + 3) (a0 :: a1 :: a2 :: a3 :: a4 :: some (.inl (x - 1)) :: T) sk S Q) : Ev ks m pc (a0 :: a1 :: a2 :: a3 :: a4 :: some (.inl x) :: T) sk S Q := ev_iinc (x - 1) (by rw [Int32.sub_eq_add_neg]; rfl) rfl hd kk
theorem ev_iload6 {a0 a1 a2 a3 a4 a5 : Option V} {T : List (Option V)} {x : Int32} (hd : decode m.2.1 pc = .ok (.iload 6, 2)) (kk : Ev ks m (pc + 2) (a0 :: a1 :: a2 :: a3 :: a4 :: a5 :: some (.inl x) :: T) (.inl x :: sk) S Q) : Ev ks m pc (a0 :: a1 :: a2 :: a3 :: a4 :: a5 :: some (.inl x) :: T) sk S Q := ev_iload rfl hd kk
theorem ev_istore6 {a0 a1 a2 a3 a4 a5 : Option V} {T : List (Option V)} {z : Option V} {x : Int32} (hd : decode m.2.1 pc = .ok (.istore 6, 2)) (kk : Ev ks m (pc + 2) (a0 :: a1 :: a2 :: a3 :: a4 :: a5 :: some (.inl x) :: T) sk S Q) : Ev ks m pc (a0 :: a1 :: a2 :: a3 :: a4 :: a5 :: z :: T) (.inl x :: sk) S Q := ev_istore (by simp only [List.length_cons]; omega) hd kk
theorem ev_iinc6 {a0 a1 a2 a3 a4 a5 : Option V} {T : List (Option V)} {a : Nat} (hd : decode m.2.1 pc = .ok (.iinc 6 1, 3)) (kk : Ev ks m (pc + 3) (a0 :: a1 :: a2 :: a3 :: a4 :: a5 :: some (.inl (nI (a + 1))) :: T) sk S Q) : Ev ks m pc (a0 :: a1 :: a2 :: a3 :: a4 :: a5 :: some (.inl (nI a)) :: T) sk S Q := ev_iinc (nI (a + 1)) (nI_1 a) rfl hd kk
theorem ev_idec6 {a0 a1 a2 a3 a4 a5 : Option V} {T : List (Option V)} {x : Int32} (hd : decode m.2.1 pc = .ok (.iinc 6 (-1), 3)) (kk : Ev ks m (pc + 3) (a0 :: a1 :: a2 :: a3 :: a4 :: a5 :: some (.inl (x - 1)) :: T) sk S Q) : Ev ks m pc (a0 :: a1 :: a2 :: a3 :: a4 :: a5 :: some (.inl x) :: T) sk S Q := ev_iinc (x - 1) (by rw [Int32.sub_eq_add_neg]; rfl) rfl hd kk
theorem ev_iload7 {a0 a1 a2 a3 a4 a5 a6 : Option V} {T : List (Option V)} {x : Int32} (hd : decode m.2.1 pc = .ok (.iload 7, 2)) (kk : Ev ks m (pc + 2) (a0 :: a1 :: a2 :: a3 :: a4 :: a5 :: a6 :: some (.inl x) :: T) (.inl x :: sk) S Q) : Ev ks m pc (a0 :: a1 :: a2 :: a3 :: a4 :: a5 :: a6 :: some (.inl x) :: T) sk S Q := ev_iload rfl hd kk
theorem ev_istore7 {a0 a1 a2 a3 a4 a5 a6 : Option V} {T : List (Option V)} {z : Option V} {x : Int32} (hd : decode m.2.1 pc = .ok (.istore 7, 2)) (kk : Ev ks m (pc + 2) (a0 :: a1 :: a2 :: a3 :: a4 :: a5 :: a6 :: some (.inl x) :: T) sk S Q) : Ev ks m pc (a0 :: a1 :: a2 :: a3 :: a4 :: a5 :: a6 :: z :: T) (.inl x :: sk) S Q := ev_istore (by simp only [List.length_cons]; omega) hd kk
theorem ev_iinc7 {a0 a1 a2 a3 a4 a5 a6 : Option V} {T : List (Option V)} {a : Nat} (hd : decode m.2.1 pc = .ok (.iinc 7 1, 3)) (kk : Ev ks m (pc + 3) (a0 :: a1 :: a2 :: a3 :: a4 :: a5 :: a6 :: some (.inl (nI (a + 1))) :: T) sk S Q) : Ev ks m pc (a0 :: a1 :: a2 :: a3 :: a4 :: a5 :: a6 :: some (.inl (nI a)) :: T) sk S Q := ev_iinc (nI (a + 1)) (nI_1 a) rfl hd kk
theorem ev_idec7 {a0 a1 a2 a3 a4 a5 a6 : Option V} {T : List (Option V)} {x : Int32} (hd : decode m.2.1 pc = .ok (.iinc 7 (-1), 3)) (kk : Ev ks m (pc + 3) (a0 :: a1 :: a2 :: a3 :: a4 :: a5 :: a6 :: some (.inl (x - 1)) :: T) sk S Q) : Ev ks m pc (a0 :: a1 :: a2 :: a3 :: a4 :: a5 :: a6 :: some (.inl x) :: T) sk S Q := ev_iinc (x - 1) (by rw [Int32.sub_eq_add_neg]; rfl) rfl hd kk
theorem ev_iload8 {a0 a1 a2 a3 a4 a5 a6 a7 : Option V} {T : List (Option V)} {x : Int32} (hd : decode m.2.1 pc = .ok (.iload 8, 2)) (kk : Ev ks m (pc + 2) (a0 :: a1 :: a2 :: a3 :: a4 :: a5 :: a6 :: a7 :: some (.inl x) :: T) (.inl x :: sk) S Q) : Ev ks m pc (a0 :: a1 :: a2 :: a3 :: a4 :: a5 :: a6 :: a7 :: some (.inl x) :: T) sk S Q := ev_iload rfl hd kk
theorem ev_istore8 {a0 a1 a2 a3 a4 a5 a6 a7 : Option V} {T : List (Option V)} {z : Option V} {x : Int32} (hd : decode m.2.1 pc = .ok (.istore 8, 2)) (kk : Ev ks m (pc + 2) (a0 :: a1 :: a2 :: a3 :: a4 :: a5 :: a6 :: a7 :: some (.inl x) :: T) sk S Q) : Ev ks m pc (a0 :: a1 :: a2 :: a3 :: a4 :: a5 :: a6 :: a7 :: z :: T) (.inl x :: sk) S Q := ev_istore (by simp only [List.length_cons]; omega) hd kk
theorem ev_iinc8 {a0 a1 a2 a3 a4 a5 a6 a7 : Option V} {T : List (Option V)} {a : Nat} (hd : decode m.2.1 pc = .ok (.iinc 8 1, 3)) (kk : Ev ks m (pc + 3) (a0 :: a1 :: a2 :: a3 :: a4 :: a5 :: a6 :: a7 :: some (.inl (nI (a + 1))) :: T) sk S Q) : Ev ks m pc (a0 :: a1 :: a2 :: a3 :: a4 :: a5 :: a6 :: a7 :: some (.inl (nI a)) :: T) sk S Q := ev_iinc (nI (a + 1)) (nI_1 a) rfl hd kk
theorem ev_idec8 {a0 a1 a2 a3 a4 a5 a6 a7 : Option V} {T : List (Option V)} {x : Int32} (hd : decode m.2.1 pc = .ok (.iinc 8 (-1), 3)) (kk : Ev ks m (pc + 3) (a0 :: a1 :: a2 :: a3 :: a4 :: a5 :: a6 :: a7 :: some (.inl (x - 1)) :: T) sk S Q) : Ev ks m pc (a0 :: a1 :: a2 :: a3 :: a4 :: a5 :: a6 :: a7 :: some (.inl x) :: T) sk S Q := ev_iinc (x - 1) (by rw [Int32.sub_eq_add_neg]; rfl) rfl hd kk
theorem ev_iload9 {a0 a1 a2 a3 a4 a5 a6 a7 a8 : Option V} {T : List (Option V)} {x : Int32} (hd : decode m.2.1 pc = .ok (.iload 9, 2)) (kk : Ev ks m (pc + 2) (a0 :: a1 :: a2 :: a3 :: a4 :: a5 :: a6 :: a7 :: a8 :: some (.inl x) :: T) (.inl x :: sk) S Q) : Ev ks m pc (a0 :: a1 :: a2 :: a3 :: a4 :: a5 :: a6 :: a7 :: a8 :: some (.inl x) :: T) sk S Q := ev_iload rfl hd kk
theorem ev_istore9 {a0 a1 a2 a3 a4 a5 a6 a7 a8 : Option V} {T : List (Option V)} {z : Option V} {x : Int32} (hd : decode m.2.1 pc = .ok (.istore 9, 2)) (kk : Ev ks m (pc + 2) (a0 :: a1 :: a2 :: a3 :: a4 :: a5 :: a6 :: a7 :: a8 :: some (.inl x) :: T) sk S Q) : Ev ks m pc (a0 :: a1 :: a2 :: a3 :: a4 :: a5 :: a6 :: a7 :: a8 :: z :: T) (.inl x :: sk) S Q := ev_istore (by simp only [List.length_cons]; omega) hd kk
theorem ev_iinc9 {a0 a1 a2 a3 a4 a5 a6 a7 a8 : Option V} {T : List (Option V)} {a : Nat} (hd : decode m.2.1 pc = .ok (.iinc 9 1, 3)) (kk : Ev ks m (pc + 3) (a0 :: a1 :: a2 :: a3 :: a4 :: a5 :: a6 :: a7 :: a8 :: some (.inl (nI (a + 1))) :: T) sk S Q) : Ev ks m pc (a0 :: a1 :: a2 :: a3 :: a4 :: a5 :: a6 :: a7 :: a8 :: some (.inl (nI a)) :: T) sk S Q := ev_iinc (nI (a + 1)) (nI_1 a) rfl hd kk
theorem ev_idec9 {a0 a1 a2 a3 a4 a5 a6 a7 a8 : Option V} {T : List (Option V)} {x : Int32} (hd : decode m.2.1 pc = .ok (.iinc 9 (-1), 3)) (kk : Ev ks m (pc + 3) (a0 :: a1 :: a2 :: a3 :: a4 :: a5 :: a6 :: a7 :: a8 :: some (.inl (x - 1)) :: T) sk S Q) : Ev ks m pc (a0 :: a1 :: a2 :: a3 :: a4 :: a5 :: a6 :: a7 :: a8 :: some (.inl x) :: T) sk S Q := ev_iinc (x - 1) (by rw [Int32.sub_eq_add_neg]; rfl) rfl hd kk
theorem ev_iload10 {a0 a1 a2 a3 a4 a5 a6 a7 a8 a9 : Option V} {T : List (Option V)} {x : Int32} (hd : decode m.2.1 pc = .ok (.iload 10, 2)) (kk : Ev ks m (pc + 2) (a0 :: a1 :: a2 :: a3 :: a4 :: a5 :: a6 :: a7 :: a8 :: a9 :: some (.inl x) :: T) (.inl x :: sk) S Q) : Ev ks m pc (a0 :: a1 :: a2 :: a3 :: a4 :: a5 :: a6 :: a7 :: a8 :: a9 :: some (.inl x) :: T) sk S Q := ev_iload rfl hd kk
theorem ev_istore10 {a0 a1 a2 a3 a4 a5 a6 a7 a8 a9 : Option V} {T : List (Option V)} {z : Option V} {x : Int32} (hd : decode m.2.1 pc = .ok (.istore 10, 2)) (kk : Ev ks m (pc + 2) (a0 :: a1 :: a2 :: a3 :: a4 :: a5 :: a6 :: a7 :: a8 :: a9 :: some (.inl x) :: T) sk S Q) : Ev ks m pc (a0 :: a1 :: a2 :: a3 :: a4 :: a5 :: a6 :: a7 :: a8 :: a9 :: z :: T) (.inl x :: sk) S Q := ev_istore (by simp only [List.length_cons]; omega) hd kk
theorem ev_iinc10 {a0 a1 a2 a3 a4 a5 a6 a7 a8 a9 : Option V} {T : List (Option V)} {a : Nat} (hd : decode m.2.1 pc = .ok (.iinc 10 1, 3)) (kk : Ev ks m (pc + 3) (a0 :: a1 :: a2 :: a3 :: a4 :: a5 :: a6 :: a7 :: a8 :: a9 :: some (.inl (nI (a + 1))) :: T) sk S Q) : Ev ks m pc (a0 :: a1 :: a2 :: a3 :: a4 :: a5 :: a6 :: a7 :: a8 :: a9 :: some (.inl (nI a)) :: T) sk S Q := ev_iinc (nI (a + 1)) (nI_1 a) rfl hd kk
theorem ev_idec10 {a0 a1 a2 a3 a4 a5 a6 a7 a8 a9 : Option V} {T : List (Option V)} {x : Int32} (hd : decode m.2.1 pc = .ok (.iinc 10 (-1), 3)) (kk : Ev ks m (pc + 3) (a0 :: a1 :: a2 :: a3 :: a4 :: a5 :: a6 :: a7 :: a8 :: a9 :: some (.inl (x - 1)) :: T) sk S Q) : Ev ks m pc (a0 :: a1 :: a2 :: a3 :: a4 :: a5 :: a6 :: a7 :: a8 :: a9 :: some (.inl x) :: T) sk S Q := ev_iinc (x - 1) (by rw [Int32.sub_eq_add_neg]; rfl) rfl hd kk
theorem ev_iload11 {a0 a1 a2 a3 a4 a5 a6 a7 a8 a9 a10 : Option V} {T : List (Option V)} {x : Int32} (hd : decode m.2.1 pc = .ok (.iload 11, 2)) (kk : Ev ks m (pc + 2) (a0 :: a1 :: a2 :: a3 :: a4 :: a5 :: a6 :: a7 :: a8 :: a9 :: a10 :: some (.inl x) :: T) (.inl x :: sk) S Q) : Ev ks m pc (a0 :: a1 :: a2 :: a3 :: a4 :: a5 :: a6 :: a7 :: a8 :: a9 :: a10 :: some (.inl x) :: T) sk S Q := ev_iload rfl hd kk
theorem ev_istore11 {a0 a1 a2 a3 a4 a5 a6 a7 a8 a9 a10 : Option V} {T : List (Option V)} {z : Option V} {x : Int32} (hd : decode m.2.1 pc = .ok (.istore 11, 2)) (kk : Ev ks m (pc + 2) (a0 :: a1 :: a2 :: a3 :: a4 :: a5 :: a6 :: a7 :: a8 :: a9 :: a10 :: some (.inl x) :: T) sk S Q) : Ev ks m pc (a0 :: a1 :: a2 :: a3 :: a4 :: a5 :: a6 :: a7 :: a8 :: a9 :: a10 :: z :: T) (.inl x :: sk) S Q := ev_istore (by simp only [List.length_cons]; omega) hd kk
theorem ev_iinc11 {a0 a1 a2 a3 a4 a5 a6 a7 a8 a9 a10 : Option V} {T : List (Option V)} {a : Nat} (hd : decode m.2.1 pc = .ok (.iinc 11 1, 3)) (kk : Ev ks m (pc + 3) (a0 :: a1 :: a2 :: a3 :: a4 :: a5 :: a6 :: a7 :: a8 :: a9 :: a10 :: some (.inl (nI (a + 1))) :: T) sk S Q) : Ev ks m pc (a0 :: a1 :: a2 :: a3 :: a4 :: a5 :: a6 :: a7 :: a8 :: a9 :: a10 :: some (.inl (nI a)) :: T) sk S Q := ev_iinc (nI (a + 1)) (nI_1 a) rfl hd kk
theorem ev_idec11 {a0 a1 a2 a3 a4 a5 a6 a7 a8 a9 a10 : Option V} {T : List (Option V)} {x : Int32} (hd : decode m.2.1 pc = .ok (.iinc 11 (-1), 3)) (kk : Ev ks m (pc + 3) (a0 :: a1 :: a2 :: a3 :: a4 :: a5 :: a6 :: a7 :: a8 :: a9 :: a10 :: some (.inl (x - 1)) :: T) sk S Q) : Ev ks m pc (a0 :: a1 :: a2 :: a3 :: a4 :: a5 :: a6 :: a7 :: a8 :: a9 :: a10 :: some (.inl x) :: T) sk S Q := ev_iinc (x - 1) (by rw [Int32.sub_eq_add_neg]; rfl) rfl hd kk
theorem ev_dup {v : V} (hd : decode m.2.1 pc = .ok (.dup, 1)) (kk : Ev ks m (pc + 1) L (v :: v :: sk) S Q) : Ev ks m pc L (v :: sk) S Q := fun l g p e s mi args below meth c H locs ls C R1 S1 L1 => lv_dup C.1 C.2.1 hd (vl_cat g v) (kk l g p e s mi args below meth c H locs ls C R1 S1 L1)
theorem ev_dup2 {v w : V} (hd : decode m.2.1 pc = .ok (.dup2, 1)) (kk : Ev ks m (pc + 1) L (v :: w :: v :: w :: sk) S Q) : Ev ks m pc L (v :: w :: sk) S Q := fun l g p e s mi args below meth c H locs ls C R1 S1 L1 => lv_dup2_11 C.1 C.2.1 hd (vl_cat g v) (vl_cat g w) (kk l g p e s mi args below meth c H locs ls C R1 S1 L1)
theorem ev_goto {off : Int} (tgt : Nat) (ht : (pc : Int) + off = (tgt : Int)) (hd : decode m.2.1 pc = .ok (.goto off, 3)) (kk : Ev ks m tgt L sk S Q) : Ev ks m pc L sk S Q := fun l g p e s mi args below meth c H locs ls C R1 S1 L1 => lv_goto C.1 C.2.1 hd ht (kk l g p e s mi args below meth c H locs ls C R1 S1 L1)
theorem ev_icmp_eq {x y : Int32} {off : Int} (tgt : Nat) (ht : (pc : Int) + off = (tgt : Int)) (hd : decode m.2.1 pc = .ok (.if_icmp .eq off, 3)) (kt : x = y → Ev ks m tgt L sk S Q) (kf : ¬ x = y → Ev ks m (pc + 3) L sk S Q) : Ev ks m pc L (.inl y :: .inl x :: sk) S Q := fun l g p e s mi args below meth c H locs ls C R1 S1 L1 => lv_icmp_eq C.1 C.2.1 hd ht (fun h => kt h l g p e s mi args below meth c H locs ls C R1 S1 L1) (fun h => kf h l g p e s mi args below meth c H locs ls C R1 S1 L1)
theorem ev_if_eq {x : Int32} {off : Int} (tgt : Nat) (ht : (pc : Int) + off = (tgt : Int)) (hd : decode m.2.1 pc = .ok (.ifCond .eq off, 3)) (kt : x = 0 → Ev ks m tgt L sk S Q) (kf : ¬ x = 0 → Ev ks m (pc + 3) L sk S Q) : Ev ks m pc L (.inl x :: sk) S Q := fun l g p e s mi args below meth c H locs ls C R1 S1 L1 => lv_if_eq C.1 C.2.1 hd ht (fun h => kt h l g p e s mi args below meth c H locs ls C R1 S1 L1) (fun h => kf h l g p e s mi args below meth c H locs ls C R1 S1 L1)
theorem ev_icmp_ne {x y : Int32} {off : Int} (tgt : Nat) (ht : (pc : Int) + off = (tgt : Int)) (hd : decode m.2.1 pc = .ok (.if_icmp .ne off, 3)) (kt : ¬ x = y → Ev ks m tgt L sk S Q) (kf : x = y → Ev ks m (pc + 3) L sk S Q) : Ev ks m pc L (.inl y :: .inl x :: sk) S Q := fun l g p e s mi args below meth c H locs ls C R1 S1 L1 => lv_icmp_ne C.1 C.2.1 hd ht (fun h => kt h l g p e s mi args below meth c H locs ls C R1 S1 L1) (fun h => kf h l g p e s mi args below meth c H locs ls C R1 S1 L1)
theorem ev_if_ne {x : Int32} {off : Int} (tgt : Nat) (ht : (pc : Int) + off = (tgt : Int)) (hd : decode m.2.1 pc = .ok (.ifCond .ne off, 3)) (kt : ¬ x = 0 → Ev ks m tgt L sk S Q) (kf : x = 0 → Ev ks m (pc + 3) L sk S Q) : Ev ks m pc L (.inl x :: sk) S Q := fun l g p e s mi args below meth c H locs ls C R1 S1 L1 => lv_if_ne C.1 C.2.1 hd ht (fun h => kt h l g p e s mi args below meth c H locs ls C R1 S1 L1) (fun h => kf h l g p e s mi args below meth c H locs ls C R1 S1 L1)
theorem ev_icmp_lt {x y : Int32} {off : Int} (tgt : Nat) (ht : (pc : Int) + off = (tgt : Int)) (hd : decode m.2.1 pc = .ok (.if_icmp .lt off, 3)) (kt : x < y → Ev ks m tgt L sk S Q) (kf : ¬ x < y → Ev ks m (pc + 3) L sk S Q) : Ev ks m pc L (.inl y :: .inl x :: sk) S Q := fun l g p e s mi args below meth c H locs ls C R1 S1 L1 => lv_icmp_lt C.1 C.2.1 hd ht (fun h => kt h l g p e s mi args below meth c H locs ls C R1 S1 L1) (fun h => kf h l g p e s mi args below meth c H locs ls C R1 S1 L1)
theorem ev_if_lt {x : Int32} {off : Int} (tgt : Nat) (ht : (pc : Int) + off = (tgt : Int)) (hd : decode m.2.1 pc = .ok (.ifCond .lt off, 3)) (kt : x < 0 → Ev ks m tgt L sk S Q) (kf : ¬ x < 0 → Ev ks m (pc + 3) L sk S Q) : Ev ks m pc L (.inl x :: sk) S Q := fun l g p e s mi args below meth c H locs ls C R1 S1 L1 => lv_if_lt C.1 C.2.1 hd ht (fun h => kt h l g p e s mi args below meth c H locs ls C R1 S1 L1) (fun h => kf h l g p e s mi args below meth c H locs ls C R1 S1 L1)
theorem ev_icmp_ge {x y : Int32} {off : Int} (tgt : Nat) (ht : (pc : Int) + off = (tgt : Int)) (hd : decode m.2.1 pc = .ok (.if_icmp .ge off, 3)) (kt : y ≤ x → Ev ks m tgt L sk S Q) (kf : ¬ y ≤ x → Ev ks m (pc + 3) L sk S Q) : Ev ks m pc L (.inl y :: .inl x :: sk) S Q := fun l g p e s mi args below meth c H locs ls C R1 S1 L1 => lv_icmp_ge C.1 C.2.1 hd ht (fun h => kt h l g p e s mi args below meth c H locs ls C R1 S1 L1) (fun h => kf h l g p e s mi args below meth c H locs ls C R1 S1 L1)
theorem ev_if_ge {x : Int32} {off : Int} (tgt : Nat) (ht : (pc : Int) + off = (tgt : Int)) (hd : decode m.2.1 pc = .ok (.ifCond .ge off, 3)) (kt : 0 ≤ x → Ev ks m tgt L sk S Q) (kf : ¬ 0 ≤ x → Ev ks m (pc + 3) L sk S Q) : Ev ks m pc L (.inl x :: sk) S Q := fun l g p e s mi args below meth c H locs ls C R1 S1 L1 => lv_if_ge C.1 C.2.1 hd ht (fun h => kt h l g p e s mi args below meth c H locs ls C R1 S1 L1) (fun h => kf h l g p e s mi args below meth c H locs ls C R1 S1 L1)
theorem ev_icmp_gt {x y : Int32} {off : Int} (tgt : Nat) (ht : (pc : Int) + off = (tgt : Int)) (hd : decode m.2.1 pc = .ok (.if_icmp .gt off, 3)) (kt : y < x → Ev ks m tgt L sk S Q) (kf : ¬ y < x → Ev ks m (pc + 3) L sk S Q) : Ev ks m pc L (.inl y :: .inl x :: sk) S Q := fun l g p e s mi args below meth c H locs ls C R1 S1 L1 => lv_icmp_gt C.1 C.2.1 hd ht (fun h => kt h l g p e s mi args below meth c H locs ls C R1 S1 L1) (fun h => kf h l g p e s mi args below meth c H locs ls C R1 S1 L1)
theorem ev_if_gt {x : Int32} {off : Int} (tgt : Nat) (ht : (pc : Int) + off = (tgt : Int)) (hd : decode m.2.1 pc = .ok (.ifCond .gt off, 3)) (kt : 0 < x → Ev ks m tgt L sk S Q) (kf : ¬ 0 < x → Ev ks m (pc + 3) L sk S Q) : Ev ks m pc L (.inl x :: sk) S Q := fun l g p e s mi args below meth c H locs ls C R1 S1 L1 => lv_if_gt C.1 C.2.1 hd ht (fun h => kt h l g p e s mi args below meth c H locs ls C R1 S1 L1) (fun h => kf h l g p e s mi args below meth c H locs ls C R1 S1 L1)
theorem ev_icmp_le {x y : Int32} {off : Int} (tgt : Nat) (ht : (pc : Int) + off = (tgt : Int)) (hd : decode m.2.1 pc = .ok (.if_icmp .le off, 3)) (kt : x ≤ y → Ev ks m tgt L sk S Q) (kf : ¬ x ≤ y → Ev ks m (pc + 3) L sk S Q) : Ev ks m pc L (.inl y :: .inl x :: sk) S Q := fun l g p e s mi args below meth c H locs ls C R1 S1 L1 => lv_icmp_le C.1 C.2.1 hd ht (fun h => kt h l g p e s mi args below meth c H locs ls C R1 S1 L1) (fun h => kf h l g p e s mi args below meth c H locs ls C R1 S1 L1)
theorem ev_if_le {x : Int32} {off : Int} (tgt : Nat) (ht : (pc : Int) + off = (tgt : Int)) (hd : decode m.2.1 pc = .ok (.ifCond .le off, 3)) (kt : x ≤ 0 → Ev ks m tgt L sk S Q) (kf : ¬ x ≤ 0 → Ev ks m (pc + 3) L sk S Q) : Ev ks m pc L (.inl x :: sk) S Q := fun l g p e s mi args below meth c H locs ls C R1 S1 L1 => lv_if_le C.1 C.2.1 hd ht (fun h => kt h l g p e s mi args below meth c H locs ls C R1 S1 L1) (fun h => kf h l g p e s mi args below meth c H locs ls C R1 S1 L1)
theorem ev_icmp_eqN {a b : Nat} {off : Int} (tgt : Nat) (ha : a < 2147483648) (hb : b < 2147483648) (ht : (pc : Int) + off = (tgt : Int)) (hd : decode m.2.1 pc = .ok (.if_icmp .eq off, 3)) (kt : a = b → Ev ks m tgt L sk S Q) (kf : ¬ a = b → Ev ks m (pc + 3) L sk S Q) : Ev ks m pc L (.inl (nI b) :: .inl (nI a) :: sk) S Q := ev_icmp_eq tgt ht hd (fun h => kt ((nI_eq (by omega) (by omega)).mp h)) (fun h => kf (fun q => h ((nI_eq (by omega) (by omega)).mpr q)))
theorem ev_icmp_neN {a b : Nat} {off : Int} (tgt : Nat) (ha : a < 2147483648) (hb : b < 2147483648) (ht : (pc : Int) + off = (tgt : Int)) (hd : decode m.2.1 pc = .ok (.if_icmp .ne off, 3)) (kt : ¬ a = b → Ev ks m tgt L sk S Q) (kf : a = b → Ev ks m (pc + 3) L sk S Q) : Ev ks m pc L (.inl (nI b) :: .inl (nI a) :: sk) S Q := ev_icmp_ne tgt ht hd (fun h => kt (fun q => h (by rw [q]))) (fun h => kf ((nI_eq (by omega) (by omega)).mp h))
theorem ev_icmp_ltN {a b : Nat} {off : Int} (tgt : Nat) (ha : a < 2147483648) (hb : b < 2147483648) (ht : (pc : Int) + off = (tgt : Int)) (hd : decode m.2.1 pc = .ok (.if_icmp .lt off, 3)) (kt : a < b → Ev ks m tgt L sk S Q) (kf : b ≤ a → Ev ks m (pc + 3) L sk S Q) : Ev ks m pc L (.inl (nI b) :: .inl (nI a) :: sk) S Q := ev_icmp_lt tgt ht hd (fun h => kt ((nI_ltI (by omega) (by omega)).mp h)) (fun h => kf (Nat.not_lt.mp fun q => h ((nI_ltI (by omega) (by omega)).mpr q)))
theorem ev_icmp_geN {a b : Nat} {off : Int} (tgt : Nat) (ha : a < 2147483648) (hb : b < 2147483648) (ht : (pc : Int) + off = (tgt : Int)) (hd : decode m.2.1 pc = .ok (.if_icmp .ge off, 3)) (kt : b ≤ a → Ev ks m tgt L sk S Q) (kf : a < b → Ev ks m (pc + 3) L sk S Q) : Ev ks m pc L (.inl (nI b) :: .inl (nI a) :: sk) S Q := ev_icmp_ge tgt ht hd (fun h => kt ((nI_leI (by omega) (by omega)).mp h)) (fun h => kf (Nat.not_le.mp fun q => h ((nI_leI (by omega) (by omega)).mpr q)))
theorem ev_icmp_gtN {a b : Nat} {off : Int} (tgt : Nat) (ha : a < 2147483648) (hb : b < 2147483648) (ht : (pc : Int) + off = (tgt : Int)) (hd : decode m.2.1 pc = .ok (.if_icmp .gt off, 3)) (kt : b < a → Ev ks m tgt L sk S Q) (kf : a ≤ b → Ev ks m (pc + 3) L sk S Q) : Ev ks m pc L (.inl (nI b) :: .inl (nI a) :: sk) S Q := ev_icmp_gt tgt ht hd (fun h => kt ((nI_ltI (by omega) (by omega)).mp h)) (fun h => kf (Nat.not_lt.mp fun q => h ((nI_ltI (by omega) (by omega)).mpr q)))
theorem ev_icmp_leN {a b : Nat} {off : Int} (tgt : Nat) (ha : a < 2147483648) (hb : b < 2147483648) (ht : (pc : Int) + off = (tgt : Int)) (hd : decode m.2.1 pc = .ok (.if_icmp .le off, 3)) (kt : a ≤ b → Ev ks m tgt L sk S Q) (kf : b < a → Ev ks m (pc + 3) L sk S Q) : Ev ks m pc L (.inl (nI b) :: .inl (nI a) :: sk) S Q := ev_icmp_le tgt ht hd (fun h => kt ((nI_leI (by omega) (by omega)).mp h)) (fun h => kf (Nat.not_le.mp fun q => h ((nI_leI (by omega) (by omega)).mpr q)))
theorem ev_if_eqN {a : Nat} {off : Int} (tgt : Nat) (ha : a < 2147483648) (ht : (pc : Int) + off = (tgt : Int)) (hd : decode m.2.1 pc = .ok (.ifCond .eq off, 3)) (kt : a = 0 → Ev ks m tgt L sk S Q) (kf : 0 < a → Ev ks m (pc + 3) L sk S Q) : Ev ks m pc L (.inl (nI a) :: sk) S Q := ev_if_eq tgt ht hd (fun h => kt ((nI_eq (by omega) (by omega)).mp (h.trans nI_0.symm))) (fun h => kf (Nat.pos_of_ne_zero fun q => h (by rw [q]; exact nI_0)))
theorem ev_if_neN {a : Nat} {off : Int} (tgt : Nat) (ha : a < 2147483648) (ht : (pc : Int) + off = (tgt : Int)) (hd : decode m.2.1 pc = .ok (.ifCond .ne off, 3)) (kt : 0 < a → Ev ks m tgt L sk S Q) (kf : a = 0 → Ev ks m (pc + 3) L sk S Q) : Ev ks m pc L (.inl (nI a) :: sk) S Q := ev_if_ne tgt ht hd (fun h => kt (Nat.pos_of_ne_zero fun q => h (by rw [q]; exact nI_0))) (fun h => kf ((nI_eq (by omega) (by omega)).mp (h.trans nI_0.symm)))
theorem ev_if_ltN {a : Nat} {off : Int} (tgt : Nat) (ha : a < 2147483648) (ht : (pc : Int) + off = (tgt : Int)) (hd : decode m.2.1 pc = .ok (.ifCond .lt off, 3)) (kk : Ev ks m (pc + 3) L sk S Q) : Ev ks m pc L (.inl (nI a) :: sk) S Q := ev_if_lt tgt ht hd (fun h => absurd h (nI_pos (by omega))) (fun _ => kk)
theorem ev_if_geN {a : Nat} {off : Int} (tgt : Nat) (ha : a < 2147483648) (ht : (pc : Int) + off = (tgt : Int)) (hd : decode m.2.1 pc = .ok (.ifCond .ge off, 3)) (kk : Ev ks m tgt L sk S Q) : Ev ks m pc L (.inl (nI a) :: sk) S Q := ev_if_ge tgt ht hd (fun _ => kk) (fun h => absurd (nI_pos' (by omega)) h)
def bI (b : Bool) : Int32 := bif b then 1 else 0
theorem bI_01 (b : Bool) : bI b = 0 ∨ bI b = 1 := by cases b; exact Or.inl rfl; exact Or.inr rfl
theorem bI_0 (b : Bool) : bI b = 0 ↔ b = false := by cases b <;> decide
theorem ev_if_eqB {b : Bool} {off : Int} (tgt : Nat) (ht : (pc : Int) + off = (tgt : Int)) (hd : decode m.2.1 pc = .ok (.ifCond .eq off, 3)) (kt : b = false → Ev ks m tgt L sk S Q) (kf : b = true → Ev ks m (pc + 3) L sk S Q) : Ev ks m pc L (.inl (bI b) :: sk) S Q := ev_if_eq tgt ht hd (fun h => kt ((bI_0 b).mp h)) (fun h => kf (by cases b; exact absurd rfl h; rfl))
theorem ev_if_neB {b : Bool} {off : Int} (tgt : Nat) (ht : (pc : Int) + off = (tgt : Int)) (hd : decode m.2.1 pc = .ok (.ifCond .ne off, 3)) (kt : b = true → Ev ks m tgt L sk S Q) (kf : b = false → Ev ks m (pc + 3) L sk S Q) : Ev ks m pc L (.inl (bI b) :: sk) S Q := ev_if_ne tgt ht hd (fun h => kt (by cases b; exact absurd rfl h; rfl)) (fun h => kf ((bI_0 b).mp h))
theorem ev_tsOut {x : Int32} {dflt lo hi : Int} {offs : Array Int} {len : Nat} (tgt : Nat) (h : x.toInt < lo ∨ hi < x.toInt) (ht : (pc : Int) + dflt = (tgt : Int)) (hd : decode m.2.1 pc = .ok (.tableswitch dflt lo hi offs, len)) (kk : Ev ks m tgt L sk S Q) : Ev ks m pc L (.inl x :: sk) S Q := fun l g p e s mi args below meth c H locs ls C R1 S1 L1 => lv_tableOut C.1 C.2.1 hd h ht (kk l g p e s mi args below meth c H locs ls C R1 S1 L1)
theorem ev_tsIn {x : Int32} {dflt lo hi : Int} {offs : Array Int} {len : Nat} (off : Int) (tgt : Nat) (h1 : ¬ x.toInt < lo) (h2 : ¬ hi < x.toInt) (ho : offs[(x.toInt - lo).toNat]? = some off) (ht : (pc : Int) + off = (tgt : Int)) (hd : decode m.2.1 pc = .ok (.tableswitch dflt lo hi offs, len)) (kk : Ev ks m tgt L sk S Q) : Ev ks m pc L (.inl x :: sk) S Q := fun l g p e s mi args below meth c H locs ls C R1 S1 L1 => lv_tableIn C.1 C.2.1 hd h1 h2 ho ht (kk l g p e s mi args below meth c H locs ls C R1 S1 L1)
theorem sw_cases (x : Int32) (n : Nat) (hn : n < 2147483648) : (∃ c : Nat, c < n ∧ x = nI c) ∨ (x.toInt < 0 ∨ (n : Int) - 1 < x.toInt) := by
  rcases pk_ix x (n := n) (by omega) with h | h | ⟨j, h1, h2⟩
  · refine Or.inr (Or.inl ?_)
    have := Int32.lt_iff_toInt_lt.mp h
    simpa using this
  · refine Or.inr (Or.inr ?_)
    have := Int32.le_iff_toInt_le.mp h
    rw [nI_toInt (by omega)] at this
    omega
  · exact Or.inl ⟨j, h1, h2⟩
theorem ev_ireturn {v : Int32} (hr : m.2.2.2.1 = some .int) (hd : decode m.2.1 pc = .ok (.ireturn, 1)) (hq : Q (some v) S) : Ev ks m pc L [.inl v] S Q := fun l g p e s mi args below meth c H locs ls C R1 S1 L1 => W.iret C.1 C.2.1 (C.2.2.2.2.1.trans hr) (fun t ht hW => ⟨⟨some v, S, rfl, hq, by rw [ht]; exact R1, va_K.moved hW.alike C.2.2.2.2.2.2.2⟩, S1.F ht⟩) S1.2.2 hd (hlocks := C.2.2.2.2.2.1)
theorem ev_zreturn {v : Int32} (hv : v = 0 ∨ v = 1) (hr : m.2.2.2.1 = some .boolean) (hd : decode m.2.1 pc = .ok (.ireturn, 1)) (hq : Q (some v) S) : Ev ks m pc L [.inl v] S Q := fun l g p e s mi args below meth c H locs ls C R1 S1 L1 => W.zret C.1 C.2.1 (C.2.2.2.2.1.trans hr) (by rcases hv with rfl | rfl <;> rfl) (fun t ht hW => ⟨⟨some v, S, rfl, hq, by rw [ht]; exact R1, va_K.moved hW.alike C.2.2.2.2.2.2.2⟩, S1.F ht⟩) S1.2.2 hd (hlocks := C.2.2.2.2.2.1)
theorem ev_return (hr : m.2.2.2.1 = none) (hd : decode m.2.1 pc = .ok (.return_, 1)) (hq : Q none S) : Ev ks m pc L [] S Q := fun l g p e s mi args below meth c H locs ls C R1 S1 L1 => W.vret C.1 C.2.1 (C.2.2.2.2.1.trans hr) (fun t ht hW => ⟨⟨none, S, rfl, hq, by rw [ht]; exact R1, va_K.moved hW.alike C.2.2.2.2.2.2.2⟩, S1.F ht⟩) S1.2.2 hd (hlocks := C.2.2.2.2.2.1)
end EV
end
section
theorem wlen_le (j : Nat) : wlen j ≤ 640 := by
  unfold wlen
  split <;> omega
theorem alen_le (k : Nat) : alen k ≤ 6315 := by
  unfold alen
  split <;> first | omega | (have := wlen_le; rename_i k' _ _ _ _ _ _ _ _ _ _ _ _; exact Nat.le_trans (wlen_le _) (by omega))
theorem wl_at {ks : List Nat} {g : GG} {S : St} {k : Nat} (h : k ∈ ks) : ∃ i : Nat, ks[i]? = some k ∧ (wl ks g S)[i]? = some (g.1 k, ct g (S k) k) := by
  obtain ⟨i, hi⟩ := List.getElem?_of_mem h
  exact ⟨i, hi, by unfold wl; rw [List.getElem?_map, hi]; rfl⟩
theorem nodup_at : ∀ {ks : List Nat}, ks.Nodup → ∀ {i j k : Nat}, ks[i]? = some k → ks[j]? = some k → i = j
  | [], _, i, j, k, h, _ => by simp at h
  | a :: t, hn, i, j, k, h1, h2 => by
    rw [List.nodup_cons] at hn
    cases i with
    | zero =>
      cases j with
      | zero => rfl
      | succ j =>
        rw [List.getElem?_cons_zero] at h1
        rw [List.getElem?_cons_succ] at h2
        cases h1
        exact absurd (List.mem_of_getElem? h2) hn.1
    | succ i =>
      rw [List.getElem?_cons_succ] at h1
      cases j with
      | zero =>
        rw [List.getElem?_cons_zero] at h2
        cases h2
        exact absurd (List.mem_of_getElem? h1) hn.1
      | succ j =>
        rw [List.getElem?_cons_succ] at h2
        rw [nodup_at hn.2 h1 h2]
theorem wl_set {ks : List Nat} {g : GG} {S : St} {k i : Nat} {r : Nat → Int32} {x : va_E} (hn : ks.Nodup) (hi : ks[i]? = some k) (hx : x = ct g r k) : (wl ks g S).set i (g.1 k, x) = wl ks g (sr S k r) := by
  subst hx
  have hl : i < ks.length := (List.getElem?_eq_some_iff.mp hi).1
  apply List.ext_getElem?
  intro j
  by_cases hj : j = i
  · subst hj
    rw [List.getElem?_set_self (by unfold wl; rw [List.length_map]; exact hl)]
    unfold wl
    rw [List.getElem?_map, hi]
    dsimp only [Option.map]
    rw [sr_s]
  · rw [List.getElem?_set_ne (Ne.symm hj)]
    unfold wl
    rw [List.getElem?_map, List.getElem?_map]
    cases hq : ks[j]? with
    | none => rfl
    | some q =>
      have hne : q ≠ k := fun e => hj (nodup_at hn (by rw [hq, e]) hi)
      dsimp only [Option.map]
      rw [sr_n hne]
section EV
variable {ks : List Nat} {m : MD} {pc : Nat} {L : List (Option V)} {sk : List V} {S : St} {Q : Option Int32 → St → Prop}
theorem ev_getf {own C : String} {T : u_T} {N ci idx f k : Nat} {v : V} (hm : m.1 = own) (hl : Cond.fieldLink own idx C (T f).2.1 (T f).2.2.1 ∈ gw) (hT : (T f).1 = C) (hin : ∀ w ∈ u_ws C T N, w ∈ gw) (hc : cls3[ci]? = some (C, T, N)) (hf : f < N) (hk : k ∈ ks)
    (hv : ∀ g : GG, ∃ fs, ct g (S k) k = .inr (ci, fs) ∧ fs[f]? = some (vl g v)) (hd : decode m.2.1 pc = .ok (.getfield idx, 3)) (kk : Ev ks m (pc + 3) L (v :: sk) S Q) : Ev ks m pc L (.inr k :: sk) S Q := by
  intro l g p e s mi args below meth c H locs ls C0 R1 S1 L1
  obtain ⟨i, h1, h2⟩ := wl_at (g := g) (S := S) hk
  obtain ⟨fs, h3, h4⟩ := hv g
  rw [h3] at h2
  exact va_get (D := g.2.1) (cl := cls3) C0.1 C0.2.1 C0.2.2.2.2.2.2.1 hin (hm ▸ C0.2.2.2.1) C0.2.2.2.2.2.2.2 R1.1 i h2 hc f hf (C0.2.2.2.2.2.2.1 _ hl) (fun x h => by rw [hT] at h; exact h) h4 hd (kk l g p e s mi args below meth c H locs ls C0 R1 S1 L1)
theorem ev_putf {own C : String} {T : u_T} {ty0 : Nat → FieldType} {N ci idx f k : Nat} {x : Int32} (hm : m.1 = own) (hl : Cond.fieldLink own idx C (T f).2.1 (T f).2.2.1 ∈ gw) (hT : (T f).1 = C) (hin : ∀ w ∈ u_ws C T N, w ∈ gw) (hc : cls3[ci]? = some (C, T, N)) (hty : ∀ k, k < N → parseFieldDescriptor (T k).2.2.1 = some (ty0 k)) (hnm : ∀ a, a < N → ∀ b, b < N → a ≠ b → (T a).2.1 ≠ (T b).2.1) (hfin : (T f).2.2.2 = false) (hti : (T f).2.2.1 = "I") (hf : f < N) (hk : k ∈ ks)
    (hv : ∀ g : GG, ∃ fs, ct g (S k) k = .inr (ci, fs) ∧ f < fs.length ∧ ct g (upd (S k) f x) k = .inr (ci, fs.set f (.int x))) (hd : decode m.2.1 pc = .ok (.putfield idx, 3)) (kk : Ev ks m (pc + 3) L sk (st S k f x) Q) : Ev ks m pc L (.inl x :: .inr k :: sk) S Q := by
  intro l g p e s mi args below meth c H locs ls C0 R1 S1 L1
  obtain ⟨i, h1, h2⟩ := wl_at (g := g) (S := S) hk
  obtain ⟨fs, h3, h4, h5⟩ := hv g
  rw [h3] at h2
  refine va_put (D := g.2.1) (cl := cls3) (A := AA ks g) (ty := .int) (v := .int x) C0.1 C0.2.1 C0.2.2.2.2.2.2.1 hin ty0 hty hnm (hm ▸ C0.2.2.2.1) C0.2.2.2.2.2.2.2 R1.1 R1.2.1 S1 i h2 hc f hf (C0.2.2.2.2.2.2.1 _ hl) (fun x h => by rw [hT] at h; exact h) hfin (by rw [hti]; decide +kernel) rfl rfl h4 hd (fun H1 locs1 hP hD hS => ?_)
  rw [wl_set R1.2.2 h1 h5.symm] at hP hD
  exact kk l g p e s mi args below meth c H1 locs1 ls C0 ⟨hP, hD, R1.2.2⟩ hS L1
theorem ev_iald {k i : Nat} (N : Nat) (hN : alen k = N) (ha : isA k = true) (hk : k ∈ ks) (hi : i < N) (hd : decode m.2.1 pc = .ok (.iaload, 1)) (kk : Ev ks m (pc + 1) L (.inl (S k i) :: sk) S Q) : Ev ks m pc L (.inl (nI i) :: .inr k :: sk) S Q := by
  intro l g p e s mi args below meth c H locs ls C0 R1 S1 L1
  obtain ⟨j, h1, h2⟩ := wl_at (g := g) (S := S) hk
  rw [ct_A ha] at h2
  subst hN
  have hb := alen_le k
  refine va_iald (D := g.2.1) (cl := cls3) C0.1 C0.2.1 C0.2.2.2.2.2.2.2 R1.1 j 0 h2 rfl (vp_in_nI hi (by omega)) hd ?_
  rw [nI_clamp (by omega)]
  exact kk l g p e s mi args below meth c H locs ls C0 R1 S1 L1
theorem ev_iast {k i : Nat} {x : Int32} (N : Nat) (hN : alen k = N) (ha : isA k = true) (hk : k ∈ ks) (hi : i < N) (hd : decode m.2.1 pc = .ok (.iastore, 1)) (kk : Ev ks m (pc + 1) L sk (st S k i x) Q) : Ev ks m pc L (.inl x :: .inl (nI i) :: .inr k :: sk) S Q := by
  intro l g p e s mi args below meth c H locs ls C0 R1 S1 L1
  obtain ⟨j, h1, h2⟩ := wl_at (g := g) (S := S) hk
  rw [ct_A ha] at h2
  subst hN
  have hb := alen_le k
  refine va_iast (D := g.2.1) (cl := cls3) (A := AA ks g) C0.1 C0.2.1 C0.2.2.2.2.2.2.2 R1.1 R1.2.1 S1 j 0 h2 rfl (vp_in_nI hi (by omega)) hd (fun H1 locs1 hP hD hS => ?_)
  rw [nI_clamp (by omega)] at hP hD
  rw [wl_set R1.2.2 h1 (ct_A ha).symm] at hP hD
  exact kk l g p e s mi args below meth c H1 locs1 ls C0 ⟨hP, hD, R1.2.2⟩ hS L1
theorem ct_107 {g : GG} {r : Nat → Int32} : ct g r 107 = .inl (g.2.2.2.1, 2, .inl r) := rfl
theorem ev_zald {i : Nat} (hk : 107 ∈ ks) (hi : i < 2) (hd : decode m.2.1 pc = .ok (.baload, 1)) (kk : Ev ks m (pc + 1) L (.inl (S 107 i) :: sk) S Q) : Ev ks m pc L (.inl (nI i) :: .inr 107 :: sk) S Q := by
  intro l g p e s mi args below meth c H locs ls C0 R1 S1 L1
  obtain ⟨j, h1, h2⟩ := wl_at (g := g) (S := S) hk
  rw [ct_107] at h2
  refine va_zald (D := g.2.1) (cl := cls3) C0.1 C0.2.1 C0.2.2.2.2.2.2.2 R1.1 j 1 h2 rfl (vp_in_nI hi (by omega)) hd ?_
  rw [nI_clamp (by omega)]
  exact kk l g p e s mi args below meth c H locs ls C0 R1 S1 L1
theorem ev_zast {i : Nat} {x : Int32} (hx : vp_nar .boolean x = x) (hk : 107 ∈ ks) (hi : i < 2) (hd : decode m.2.1 pc = .ok (.bastore, 1)) (kk : Ev ks m (pc + 1) L sk (st S 107 i x) Q) : Ev ks m pc L (.inl x :: .inl (nI i) :: .inr 107 :: sk) S Q := by
  intro l g p e s mi args below meth c H locs ls C0 R1 S1 L1
  obtain ⟨j, h1, h2⟩ := wl_at (g := g) (S := S) hk
  rw [ct_107] at h2
  refine va_zast (D := g.2.1) (cl := cls3) (A := AA ks g) C0.1 C0.2.1 C0.2.2.2.2.2.2.2 R1.1 R1.2.1 S1 j 1 h2 rfl (vp_in_nI hi (by omega)) hd (fun H1 locs1 hP hD hS => ?_)
  rw [nI_clamp (by omega), hx] at hP hD
  rw [wl_set R1.2.2 h1 ct_107.symm] at hP hD
  exact kk l g p e s mi args below meth c H1 locs1 ls C0 ⟨hP, hD, R1.2.2⟩ hS L1
theorem ev_aald97 {i : Nat} (hk : 97 ∈ ks) (hi : i < 5) (hd : decode m.2.1 pc = .ok (.aaload, 1)) (kk : Ev ks m (pc + 1) L (.inr (12 * (1 + i)) :: sk) S Q) : Ev ks m pc L (.inl (nI i) :: .inr 97 :: sk) S Q := by
  intro l g p e s mi args below meth c H locs ls C0 R1 S1 L1
  obtain ⟨j, h1, h2⟩ := wl_at (g := g) (S := S) hk
  refine va_aldq (D := g.2.1) (cl := cls3) (C := "CarriedOrders$World") C0.1 C0.2.1 C0.2.2.2.2.2.2.2 R1.1 j 2 h2 rfl (vp_in_nI hi (by omega)) hd ?_
  rw [nI_clamp (by omega)]
  exact kk l g p e s mi args below meth c H locs ls C0 R1 S1 L1
theorem ev_aald98 {i : Nat} (hk : 98 ∈ ks) (hi : i < 2) (hd : decode m.2.1 pc = .ok (.aaload, 1)) (kk : Ev ks m (pc + 1) L (.inr (12 * (6 + i)) :: sk) S Q) : Ev ks m pc L (.inl (nI i) :: .inr 98 :: sk) S Q := by
  intro l g p e s mi args below meth c H locs ls C0 R1 S1 L1
  obtain ⟨j, h1, h2⟩ := wl_at (g := g) (S := S) hk
  refine va_aldq (D := g.2.1) (cl := cls3) (C := "CarriedOrders$World") C0.1 C0.2.1 C0.2.2.2.2.2.2.2 R1.1 j 2 h2 rfl (vp_in_nI hi (by omega)) hd ?_
  rw [nI_clamp (by omega)]
  exact kk l g p e s mi args below meth c H locs ls C0 R1 S1 L1
theorem ev_alen {k : Nat} (N : Nat) (hN : alen k = N) (ha : isA k = true) (hk : k ∈ ks) (hd : decode m.2.1 pc = .ok (.arraylength, 1)) (kk : Ev ks m (pc + 1) L (.inl (nI N) :: sk) S Q) : Ev ks m pc L (.inr k :: sk) S Q := by
  intro l g p e s mi args below meth c H locs ls C0 R1 S1 L1
  obtain ⟨j, h1, h2⟩ := wl_at (g := g) (S := S) hk
  rw [ct_A ha] at h2
  subst hN
  exact va_alen (D := g.2.1) (cl := cls3) C0.1 C0.2.1 C0.2.2.2.2.2.2.2 R1.1 j 0 h2 rfl rfl hd (kk l g p e s mi args below meth c H locs ls C0 R1 S1 L1)
/-- what may differ in the store without a cell's differing -/
def wid (k : Nat) : Nat := bif isA k then alen k else bif Nat.blt k 96 then 3 else 9
def Eqv (ks : List Nat) (S S' : St) : Prop := ∀ k ∈ ks, ∀ i, i < wid k → S k i = S' k i
theorem arrV_cong {cA : ClassId} {n : Nat} {f f' : Nat → Value} (h : ∀ i, i < n → f i = f' i) : arrV cA n f = arrV cA n f' := by
  unfold arrV
  congr 1
  congr 1
  funext j
  exact h j.1 j.2
theorem ct_cong {g : GG} {D : va_G} {H : Heap} {r r' : Nat → Int32} {k : Nat} (h : ∀ i, i < wid k → r i = r' i) (hp : va_at D cls3 (g.1 k, ct g r k) H) : va_at D cls3 (g.1 k, ct g r' k) H := by
  by_cases ha : isA k = true
  · rw [ct_A ha] at hp ⊢
    show H[g.1 k]? = some (vp_cell _ _)
    rw [vp_cell_i, ← arrV_cong (f := fun j => Value.int (r j)) (fun i hi => by rw [h i (by unfold wid; rw [ha]; exact hi)])]
    exact hp
  · have ha : isA k = false := by simpa using ha
    have hw : ∀ i, i < 3 → r i = r' i := fun i hi => h i (by unfold wid; rw [ha]; show i < bif _ then 3 else 9; cases Nat.blt k 96 <;> simp <;> omega)
    by_cases h7 : k = 107
    · subst h7
      rw [ct_107] at hp ⊢
      show H[g.1 107]? = some (vp_cell _ _)
      rw [vp_cell_i, ← arrV_cong (f := fun j => Value.int (r j)) (fun i hi => by rw [hw i (by omega)])]
      exact hp
    have hc : Nat.beq k 107 = false := by
      cases hc : Nat.beq k 107 with
      | false => rfl
      | true => exact absurd (Nat.eq_of_beq_eq_true hc) h7
    have e : ct g r k = ct g r' k := by
      unfold ct
      rw [ha, hc]
      cases hb : Nat.blt k 96 with
      | true => simp only [cond_true, cond_false, fW, hw 0 (by omega), hw 1 (by omega), hw 2 (by omega)]
      | false =>
        have h9 : ∀ i, i < 9 → r i = r' i := fun i hi => h i (by unfold wid; rw [ha, hb]; exact hi)
        simp only [cond_false, fC, fM, h9 2 (by omega), h9 3 (by omega), h9 5 (by omega), h9 8 (by omega)]
    rw [← e]; exact hp
theorem Rp_cong {g : GG} {S S' : St} {H : Heap} (h : Eqv ks S S') (hR : Rp ks g S H) : Rp ks g S' H := by
  obtain ⟨hP, hD, hn⟩ := hR
  have key : ∀ (i : Nat) (q : Nat × va_E), (wl ks g S')[i]? = some q → ∃ k, ks[i]? = some k ∧ q = (g.1 k, ct g (S' k) k) ∧ (wl ks g S)[i]? = some (g.1 k, ct g (S k) k) := by
    intro i q hq
    unfold wl at hq ⊢
    rw [List.getElem?_map] at hq ⊢
    cases hk : ks[i]? with
    | none => rw [hk] at hq; cases hq
    | some k => rw [hk] at hq; exact ⟨k, rfl, (Option.some.inj hq).symm, rfl⟩
  refine ⟨fun i q hq => ?_, ⟨fun i j a b ha hb hab => ?_, fun i q hq => ?_⟩, hn⟩
  · obtain ⟨k, h1, rfl, h3⟩ := key i q hq
    exact ct_cong (h k (List.mem_of_getElem? h1)) (hP i _ h3)
  · obtain ⟨k, h1, rfl, h3⟩ := key i a ha
    obtain ⟨k', h1', rfl, h3'⟩ := key j b hb
    exact hD.1 i j _ _ h3 h3' hab
  · obtain ⟨k, h1, rfl, h3⟩ := key i q hq
    exact hD.2 i (g.1 k, ct g (S k) k) h3
theorem ev_cong {S' : St} (h : Eqv ks S S') (kk : Ev ks m pc L sk S' Q) : Ev ks m pc L sk S Q := fun l g p e s mi args below meth c H locs ls C R1 S1 L1 => kk l g p e s mi args below meth c H locs ls C (Rp_cong h R1) S1 L1
end EV
end
section
/-- what the tables say of a method that is called: its code, that it is there, how many it takes -/
def OkM (y : MethodName) (m : MD) (n : Nat) : Prop := Cond.code y m.2.1 m.2.2.1 m.2.2.2.1 ∈ gw ∧ Cond.initialized y.cls ∈ gw ∧ (y.cls ≠ "java/lang/invoke/MethodHandle" ∧ y.cls ≠ "java/lang/invoke/VarHandle" ∧ (parseMethodDescriptor y.desc).map (fun d => d.parameters.length) = some n) ∧ m.2.2.1 ≤ 21 ∧ plainName y.cls = true ∧ y.cls = m.1
def OkV (y : MethodName) (m : MD) (n : Nat) : Prop := OkM y m n ∧ Cond.instanceMethod y ∈ gw ∧ Cond.selects y.cls y y ∈ gw
def OkS (y : MethodName) (m : MD) (n : Nat) : Prop := OkM y m n ∧ Cond.static y ∈ gw
theorem gwc_in {y : MethodName} {m : MD} (h : Cond.code y m.2.1 m.2.2.1 m.2.2.2.1 ∈ gw) : GoodIn gw (.code y m.2.1 m.2.2.1 m.2.2.2.1 :: gw) := fun w hw => by
  rcases List.mem_cons.mp hw with rfl | hw
  · exact gw_in _ h
  · exact gw_in _ hw
/-- an object's class -/
def isO (k : Nat) (C : String) : Prop := ∀ (g : GG) (r : Nat → Int32), ∃ (ci : Nat) (fs : List Value) (q : vw_C), ct g r k = .inr (ci, fs) ∧ cls3[ci]? = some q ∧ q.1 = C
theorem ct_W {g : GG} {r : Nat → Int32} {k : Nat} (h : k < 96) (h0 : k % 12 = 0) : ct g r k = .inr (0, fW g r k) := by
  have h1 : Nat.blt k 96 = true := by rw [Nat.blt, Nat.ble_eq]; omega
  have h2 : isA k = false := by
    unfold isA
    rw [h1, h0]
    have h3 : Nat.ble 99 k = false := by rw [← Bool.not_eq_true, Nat.ble_eq]; omega
    have h4 : Nat.ble 104 k = false := by rw [← Bool.not_eq_true, Nat.ble_eq]; omega
    rw [h3, h4]
    rfl
  unfold ct
  rw [h2, h1]
  rfl
theorem isO_W {k : Nat} (h : k < 96) (h0 : k % 12 = 0) : isO k RX0 := fun _ _ => ⟨0, _, _, ct_W h h0, rfl, rfl⟩
theorem isO_0 : isO 0 RX0 := fun _ _ => ⟨0, _, _, rfl, rfl, rfl⟩
theorem isO_96 : isO 96 RX1 := fun _ _ => ⟨1, _, _, rfl, rfl, rfl⟩
theorem isO_103 : isO 103 RX2 := fun _ _ => ⟨2, _, _, rfl, rfl, rfl⟩
section CL
variable {p : Program} {l : Launch} {e : Env} {R : Room} {s : State} {mi : MethodId} {args : Array Value} {below : List Frame} {meth : Method} {c : Code} {H : Heap} {locs : List Loc} {cells slots : Nat} {QQ : State → Prop}
variable {pc : Nat} {ls : Array Slot} {rest st0 : List Value} {a : Array Value} {H0 : Heap}
/-- behind a call of a contract of ours -/
theorem cl_go {ks : List Nat} {g : GG} {A0 : Nat → Prop} {Q : Option Int32 → St → Prop} (hr : va_Run p l e R s mi args below meth c H locs cells slots 0 0 (F0 mi pc ls st0) rest (PQ ks g Q a) (AA ks g)) (hS : va_S A0 H0 H locs) (hA : ∀ q, AA ks g q → A0 q)
    (kk : ∀ (r : Option Int32) (S : St) (H1 : Heap) (locs1 : List Loc), Q r S → Rp ks g S H1 → va_S A0 H0 H1 locs1 → W p l e R s mi args below meth c H1 locs1 cells slots QQ (F0 mi (pc + 3) ls ((r.map Value.int).toList ++ rest))) : W p l e R s mi args below meth c H locs cells slots QQ (F0 mi pc ls st0) := by
  intro T hT X
  obtain ⟨v, st₀, t, T', L, h0, X', hL, e1, e2, ⟨⟨r, S, hv, hq, hR, hK⟩, hz, hk⟩, st⟩ := hr T hT X
  cases hv
  rw [h0] at hz hk
  obtain ⟨t2, a1, b1⟩ := kk r S T'.heap (locs ++ L) hq (by rw [e1]; exact hR)
    ⟨Nat.le_trans hS.1 (by rw [e1]; exact hz), fun q h1 h2 => by rw [e1, hk q (Nat.lt_of_lt_of_le h1 hS.1) (fun z => h2 (hA q z))]; exact hS.2.1 q h1 h2, fun q hq => by
      rcases List.mem_append.mp hq with h | h
      · exact hS.2.2 q h
      · exact hA _ (hL q h)⟩ T' rfl X'
  exact ⟨t2, st t2 a1, b1⟩
end CL
theorem cats (g : GG) : ∀ (sk : List V), ((sk.map (vl g)).map fun v => v.category).sum = sk.length
  | [] => rfl
  | v :: t => by
    have h := cats g t
    simp only [List.map_cons, List.sum_cons, vl_cat, List.length_cons]
    omega
theorem opt_vl (g : GG) (r : Option Int32) (sk : List V) : (r.map Value.int).toList ++ sk.map (vl g) = ((r.map Sum.inl).toList ++ sk).map (vl g) := by
  cases r <;> rfl
/-- a contract's start holds at a call -/
theorem pre_blind {ks : List Nat} {g : GG} {S : St} {av : List V} : FrameBlind (va_Pc (av.map (vl g)) (fun U => Rp ks g S U.heap ∧ va_K g.2.1 cls3 (tys g) U)) := fun a U gg mk q => by
  obtain ⟨q0, q1, q2⟩ := q
  exact ⟨q0, q1, va_K.moved (u := U) (U := U.calling gg mk a) (Vm.Alike.refl U.vm) q2⟩
section EV
variable {ks : List Nat} {m : MD} {pc : Nat} {L : List (Option V)} {sk : List V} {S : St} {Q : Option Int32 → St → Prop}
theorem ev_callV {y : MethodName} {m' : MD} {idx n o : Nat} {av : List V} {Q' : Option Int32 → St → Prop} (ok : OkV y m' n) (hl : Cond.methodLink m.1 idx y ∈ gw) (hlev : m'.2.2.2.2 < m.2.2.2.2) (hn : av.length = n) (hs : sk.length ≤ 8) (ho : o ∈ ks) (hO : isO o y.cls)
    (hC : Cn ks m' y (.inr o :: av) S Q') (hd : decode m.2.1 pc = .ok (.invokevirtual idx, 3)) (kk : ∀ (r : Option Int32) (S' : St), Q' r S' → Ev ks m (pc + 3) L ((r.map Sum.inl).toList ++ sk) S' Q) : Ev ks m pc L (av.reverse ++ .inr o :: sk) S Q := by
  intro l g p e s mi args below meth c H locs ls C0 R1 S1 L1
  obtain ⟨⟨o1, o2, o3, o4, o5, o6⟩, o7, o8⟩ := ok
  have ht := C0.2.2.2.2.2.2.1
  have hK := C0.2.2.2.2.2.2.2
  obtain ⟨j, h1, h2⟩ := wl_at (g := g) (S := S) ho
  obtain ⟨ci, fs, q, h3, h4, h5⟩ := hO g (S o)
  rw [h3] at h2
  have hrecv := va_recv hK R1.1 h4 h2
  rw [h5] at hrecv
  have hrun := va_runV (e := e) (below := below) (meth := meth) (locs := locs) (cells := 0) (slots := 0) (R := rmv m.2.2.2.2) (n := n) (As := av.map (vl g)) (rest := sk.map (vl g)) (g := F0 mi pc ls ((av.reverse ++ .inr o :: sk).map (vl g))) (cc := m.2.1) (nL := m.2.2.1) (Ts := gw) (own := m.1) (index := idx) ⟨C0.1, C0.2.1, C0.2.2.1, C0.2.2.2.1, ht⟩ (hC l g)
    ⟨callB_of (Ts := gw) (bytes := m'.2.1) (maxL := m'.2.2.1) (ret := m'.2.2.2.1) n ht (gwc_in o1) rfl rfl rfl (ht _ o2) (ht _ hl) o3 ⟨hlev, by show 8 + (m'.2.2.1 + 11) + 40 * m'.2.2.2.2 ≤ 40 * m.2.2.2.2; omega⟩, ht _ o7, ht _ o8⟩
    ⟨pre_blind, hrecv, fun U hU hW => ⟨rfl, by rw [hU]; exact R1, va_K.moved hW.alike hK⟩⟩ rfl (by rw [List.length_map]; exact hn) L1.2.1 (by rw [List.map_append, List.map_reverse]; rfl) (lv_room (by rw [cats]; exact hs)) hd ⟨Nat.zero_le _, Nat.zero_le _⟩
  refine cl_go hrun S1 (fun q h => h) (fun r S' H1 locs1 hq hR hS => ?_)
  rw [opt_vl]
  exact kk r S' hq l g p e s mi args below meth c H1 locs1 ls C0 hR hS L1
theorem ev_callS {y : MethodName} {m' : MD} {idx n : Nat} {av : List V} {Q' : Option Int32 → St → Prop} (ok : OkS y m' n) (hl : Cond.methodLink m.1 idx y ∈ gw) (hlev : m'.2.2.2.2 < m.2.2.2.2) (hn : av.length = n) (hs : sk.length ≤ 8)
    (hC : Cn ks m' y av S Q') (hd : decode m.2.1 pc = .ok (.invokestatic idx, 3)) (kk : ∀ (r : Option Int32) (S' : St), Q' r S' → Ev ks m (pc + 3) L ((r.map Sum.inl).toList ++ sk) S' Q) : Ev ks m pc L (av.reverse ++ sk) S Q := by
  intro l g p e s mi args below meth c H locs ls C0 R1 S1 L1
  obtain ⟨⟨o1, o2, o3, o4, o5, o6⟩, o7⟩ := ok
  have ht := C0.2.2.2.2.2.2.1
  have hK := C0.2.2.2.2.2.2.2
  have hrun := va_runS (e := e) (below := below) (meth := meth) (locs := locs) (cells := 0) (slots := 0) (R := rmv m.2.2.2.2) (n := n) (As := av.map (vl g)) (rest := sk.map (vl g)) (g := F0 mi pc ls ((av.reverse ++ sk).map (vl g))) (cc := m.2.1) (nL := m.2.2.1) (Ts := gw) (own := m.1) (index := idx) ⟨C0.1, C0.2.1, C0.2.2.1, C0.2.2.2.1, ht⟩ (hC l g)
    ⟨callB_of (Ts := gw) (bytes := m'.2.1) (maxL := m'.2.2.1) (ret := m'.2.2.2.1) n ht (gwc_in o1) rfl rfl rfl (ht _ o2) (ht _ hl) o3 ⟨hlev, by show 8 + (m'.2.2.1 + 11) + 40 * m'.2.2.2.2 ≤ 40 * m.2.2.2.2; omega⟩, ht _ o7⟩
    ⟨pre_blind, fun U hU hW => ⟨rfl, by rw [hU]; exact R1, va_K.moved hW.alike hK⟩⟩ rfl (by rw [List.length_map]; exact hn) L1.2.1 (by rw [List.map_append, List.map_reverse]) (lv_room (by rw [cats]; exact hs)) hd ⟨Nat.zero_le _, Nat.zero_le _⟩
  refine cl_go hrun S1 (fun q h => h) (fun r S' H1 locs1 hq hR hS => ?_)
  rw [opt_vl]
  exact kk r S' hq l g p e s mi args below meth c H1 locs1 ls C0 hR hS L1
end EV
/-- the answer, and what holds of the store then -/
def Gi (v : Int32) (P : St → Prop) : Option Int32 → St → Prop := fun r S => r = some v ∧ P S
def Gv (P : St → Prop) : Option Int32 → St → Prop := fun r S => r = none ∧ P S
/-- the answer; nothing has changed -/
def Ri (v : Int32) (S : St) : Option Int32 → St → Prop := fun r S' => r = some v ∧ S' = S
def Rv (S : St) : Option Int32 → St → Prop := fun r S' => r = none ∧ S' = S
end
section
section EV
variable {ks : List Nat} {m : MD} {pc : Nat} {L : List (Option V)} {sk : List V} {S : St} {Q : Option Int32 → St → Prop}
theorem ev_cV0f {y : MethodName} {m' : MD} {idx o : Nat} {v : Int32} {S2 : St} (ok : OkV y m' 0) (hl : Cond.methodLink m.1 idx y ∈ gw) (hlev : m'.2.2.2.2 < m.2.2.2.2) (hs : sk.length ≤ 8) (ho : o ∈ ks) (hO : isO o y.cls) (hC : Cn ks m' y [.inr o] S (Ri v S2)) (hd : decode m.2.1 pc = .ok (.invokevirtual idx, 3)) (kk : Ev ks m (pc + 3) L (.inl v :: sk) S2 Q) : Ev ks m pc L (.inr o :: sk) S Q := ev_callV (av := []) ok hl hlev rfl hs ho hO hC hd (fun r S' h => by obtain ⟨rfl, rfl⟩ := h; exact kk)
theorem ev_cV0v {y : MethodName} {m' : MD} {idx o : Nat} {S2 : St} (ok : OkV y m' 0) (hl : Cond.methodLink m.1 idx y ∈ gw) (hlev : m'.2.2.2.2 < m.2.2.2.2) (hs : sk.length ≤ 8) (ho : o ∈ ks) (hO : isO o y.cls) (hC : Cn ks m' y [.inr o] S (Rv S2)) (hd : decode m.2.1 pc = .ok (.invokevirtual idx, 3)) (kk : Ev ks m (pc + 3) L sk S2 Q) : Ev ks m pc L (.inr o :: sk) S Q := ev_callV (av := []) ok hl hlev rfl hs ho hO hC hd (fun r S' h => by obtain ⟨rfl, rfl⟩ := h; exact kk)
theorem ev_cV0p {y : MethodName} {m' : MD} {idx o : Nat} {v : Int32} {P : St → Prop} (ok : OkV y m' 0) (hl : Cond.methodLink m.1 idx y ∈ gw) (hlev : m'.2.2.2.2 < m.2.2.2.2) (hs : sk.length ≤ 8) (ho : o ∈ ks) (hO : isO o y.cls) (hC : Cn ks m' y [.inr o] S (Gi v P)) (hd : decode m.2.1 pc = .ok (.invokevirtual idx, 3)) (kk : ∀ S2, P S2 → Ev ks m (pc + 3) L (.inl v :: sk) S2 Q) : Ev ks m pc L (.inr o :: sk) S Q := ev_callV (av := []) ok hl hlev rfl hs ho hO hC hd (fun r S' h => by obtain ⟨rfl, h2⟩ := h; exact kk S' h2)
theorem ev_cV0q {y : MethodName} {m' : MD} {idx o : Nat} {P : St → Prop} (ok : OkV y m' 0) (hl : Cond.methodLink m.1 idx y ∈ gw) (hlev : m'.2.2.2.2 < m.2.2.2.2) (hs : sk.length ≤ 8) (ho : o ∈ ks) (hO : isO o y.cls) (hC : Cn ks m' y [.inr o] S (Gv P)) (hd : decode m.2.1 pc = .ok (.invokevirtual idx, 3)) (kk : ∀ S2, P S2 → Ev ks m (pc + 3) L sk S2 Q) : Ev ks m pc L (.inr o :: sk) S Q := ev_callV (av := []) ok hl hlev rfl hs ho hO hC hd (fun r S' h => by obtain ⟨rfl, h2⟩ := h; exact kk S' h2)
theorem ev_cV1f {y : MethodName} {m' : MD} {idx o : Nat} {x1 : Int32} {v : Int32} {S2 : St} (ok : OkV y m' 1) (hl : Cond.methodLink m.1 idx y ∈ gw) (hlev : m'.2.2.2.2 < m.2.2.2.2) (hs : sk.length ≤ 8) (ho : o ∈ ks) (hO : isO o y.cls) (hC : Cn ks m' y [.inr o, .inl x1] S (Ri v S2)) (hd : decode m.2.1 pc = .ok (.invokevirtual idx, 3)) (kk : Ev ks m (pc + 3) L (.inl v :: sk) S2 Q) : Ev ks m pc L (.inl x1 :: .inr o :: sk) S Q := ev_callV (av := [.inl x1]) ok hl hlev rfl hs ho hO hC hd (fun r S' h => by obtain ⟨rfl, rfl⟩ := h; exact kk)
theorem ev_cS1f {y : MethodName} {m' : MD} {idx : Nat} {x1 : Int32} {v : Int32} {S2 : St} (ok : OkS y m' 1) (hl : Cond.methodLink m.1 idx y ∈ gw) (hlev : m'.2.2.2.2 < m.2.2.2.2) (hs : sk.length ≤ 8) (hC : Cn ks m' y [.inl x1] S (Ri v S2)) (hd : decode m.2.1 pc = .ok (.invokestatic idx, 3)) (kk : Ev ks m (pc + 3) L (.inl v :: sk) S2 Q) : Ev ks m pc L (.inl x1 :: sk) S Q := ev_callS (av := [.inl x1]) ok hl hlev rfl hs hC hd (fun r S' h => by obtain ⟨rfl, rfl⟩ := h; exact kk)
theorem ev_cV1v {y : MethodName} {m' : MD} {idx o : Nat} {x1 : Int32} {S2 : St} (ok : OkV y m' 1) (hl : Cond.methodLink m.1 idx y ∈ gw) (hlev : m'.2.2.2.2 < m.2.2.2.2) (hs : sk.length ≤ 8) (ho : o ∈ ks) (hO : isO o y.cls) (hC : Cn ks m' y [.inr o, .inl x1] S (Rv S2)) (hd : decode m.2.1 pc = .ok (.invokevirtual idx, 3)) (kk : Ev ks m (pc + 3) L sk S2 Q) : Ev ks m pc L (.inl x1 :: .inr o :: sk) S Q := ev_callV (av := [.inl x1]) ok hl hlev rfl hs ho hO hC hd (fun r S' h => by obtain ⟨rfl, rfl⟩ := h; exact kk)
theorem ev_cS1v {y : MethodName} {m' : MD} {idx : Nat} {x1 : Int32} {S2 : St} (ok : OkS y m' 1) (hl : Cond.methodLink m.1 idx y ∈ gw) (hlev : m'.2.2.2.2 < m.2.2.2.2) (hs : sk.length ≤ 8) (hC : Cn ks m' y [.inl x1] S (Rv S2)) (hd : decode m.2.1 pc = .ok (.invokestatic idx, 3)) (kk : Ev ks m (pc + 3) L sk S2 Q) : Ev ks m pc L (.inl x1 :: sk) S Q := ev_callS (av := [.inl x1]) ok hl hlev rfl hs hC hd (fun r S' h => by obtain ⟨rfl, rfl⟩ := h; exact kk)
theorem ev_cV1p {y : MethodName} {m' : MD} {idx o : Nat} {x1 : Int32} {v : Int32} {P : St → Prop} (ok : OkV y m' 1) (hl : Cond.methodLink m.1 idx y ∈ gw) (hlev : m'.2.2.2.2 < m.2.2.2.2) (hs : sk.length ≤ 8) (ho : o ∈ ks) (hO : isO o y.cls) (hC : Cn ks m' y [.inr o, .inl x1] S (Gi v P)) (hd : decode m.2.1 pc = .ok (.invokevirtual idx, 3)) (kk : ∀ S2, P S2 → Ev ks m (pc + 3) L (.inl v :: sk) S2 Q) : Ev ks m pc L (.inl x1 :: .inr o :: sk) S Q := ev_callV (av := [.inl x1]) ok hl hlev rfl hs ho hO hC hd (fun r S' h => by obtain ⟨rfl, h2⟩ := h; exact kk S' h2)
theorem ev_cS1p {y : MethodName} {m' : MD} {idx : Nat} {x1 : Int32} {v : Int32} {P : St → Prop} (ok : OkS y m' 1) (hl : Cond.methodLink m.1 idx y ∈ gw) (hlev : m'.2.2.2.2 < m.2.2.2.2) (hs : sk.length ≤ 8) (hC : Cn ks m' y [.inl x1] S (Gi v P)) (hd : decode m.2.1 pc = .ok (.invokestatic idx, 3)) (kk : ∀ S2, P S2 → Ev ks m (pc + 3) L (.inl v :: sk) S2 Q) : Ev ks m pc L (.inl x1 :: sk) S Q := ev_callS (av := [.inl x1]) ok hl hlev rfl hs hC hd (fun r S' h => by obtain ⟨rfl, h2⟩ := h; exact kk S' h2)
theorem ev_cV1q {y : MethodName} {m' : MD} {idx o : Nat} {x1 : Int32} {P : St → Prop} (ok : OkV y m' 1) (hl : Cond.methodLink m.1 idx y ∈ gw) (hlev : m'.2.2.2.2 < m.2.2.2.2) (hs : sk.length ≤ 8) (ho : o ∈ ks) (hO : isO o y.cls) (hC : Cn ks m' y [.inr o, .inl x1] S (Gv P)) (hd : decode m.2.1 pc = .ok (.invokevirtual idx, 3)) (kk : ∀ S2, P S2 → Ev ks m (pc + 3) L sk S2 Q) : Ev ks m pc L (.inl x1 :: .inr o :: sk) S Q := ev_callV (av := [.inl x1]) ok hl hlev rfl hs ho hO hC hd (fun r S' h => by obtain ⟨rfl, h2⟩ := h; exact kk S' h2)
theorem ev_cS1q {y : MethodName} {m' : MD} {idx : Nat} {x1 : Int32} {P : St → Prop} (ok : OkS y m' 1) (hl : Cond.methodLink m.1 idx y ∈ gw) (hlev : m'.2.2.2.2 < m.2.2.2.2) (hs : sk.length ≤ 8) (hC : Cn ks m' y [.inl x1] S (Gv P)) (hd : decode m.2.1 pc = .ok (.invokestatic idx, 3)) (kk : ∀ S2, P S2 → Ev ks m (pc + 3) L sk S2 Q) : Ev ks m pc L (.inl x1 :: sk) S Q := ev_callS (av := [.inl x1]) ok hl hlev rfl hs hC hd (fun r S' h => by obtain ⟨rfl, h2⟩ := h; exact kk S' h2)
theorem ev_cV2f {y : MethodName} {m' : MD} {idx o : Nat} {x1 x2 : Int32} {v : Int32} {S2 : St} (ok : OkV y m' 2) (hl : Cond.methodLink m.1 idx y ∈ gw) (hlev : m'.2.2.2.2 < m.2.2.2.2) (hs : sk.length ≤ 8) (ho : o ∈ ks) (hO : isO o y.cls) (hC : Cn ks m' y [.inr o, .inl x1, .inl x2] S (Ri v S2)) (hd : decode m.2.1 pc = .ok (.invokevirtual idx, 3)) (kk : Ev ks m (pc + 3) L (.inl v :: sk) S2 Q) : Ev ks m pc L (.inl x2 :: .inl x1 :: .inr o :: sk) S Q := ev_callV (av := [.inl x1, .inl x2]) ok hl hlev rfl hs ho hO hC hd (fun r S' h => by obtain ⟨rfl, rfl⟩ := h; exact kk)
theorem ev_cS2f {y : MethodName} {m' : MD} {idx : Nat} {x1 x2 : Int32} {v : Int32} {S2 : St} (ok : OkS y m' 2) (hl : Cond.methodLink m.1 idx y ∈ gw) (hlev : m'.2.2.2.2 < m.2.2.2.2) (hs : sk.length ≤ 8) (hC : Cn ks m' y [.inl x1, .inl x2] S (Ri v S2)) (hd : decode m.2.1 pc = .ok (.invokestatic idx, 3)) (kk : Ev ks m (pc + 3) L (.inl v :: sk) S2 Q) : Ev ks m pc L (.inl x2 :: .inl x1 :: sk) S Q := ev_callS (av := [.inl x1, .inl x2]) ok hl hlev rfl hs hC hd (fun r S' h => by obtain ⟨rfl, rfl⟩ := h; exact kk)
theorem ev_cV2v {y : MethodName} {m' : MD} {idx o : Nat} {x1 x2 : Int32} {S2 : St} (ok : OkV y m' 2) (hl : Cond.methodLink m.1 idx y ∈ gw) (hlev : m'.2.2.2.2 < m.2.2.2.2) (hs : sk.length ≤ 8) (ho : o ∈ ks) (hO : isO o y.cls) (hC : Cn ks m' y [.inr o, .inl x1, .inl x2] S (Rv S2)) (hd : decode m.2.1 pc = .ok (.invokevirtual idx, 3)) (kk : Ev ks m (pc + 3) L sk S2 Q) : Ev ks m pc L (.inl x2 :: .inl x1 :: .inr o :: sk) S Q := ev_callV (av := [.inl x1, .inl x2]) ok hl hlev rfl hs ho hO hC hd (fun r S' h => by obtain ⟨rfl, rfl⟩ := h; exact kk)
theorem ev_cS2v {y : MethodName} {m' : MD} {idx : Nat} {x1 x2 : Int32} {S2 : St} (ok : OkS y m' 2) (hl : Cond.methodLink m.1 idx y ∈ gw) (hlev : m'.2.2.2.2 < m.2.2.2.2) (hs : sk.length ≤ 8) (hC : Cn ks m' y [.inl x1, .inl x2] S (Rv S2)) (hd : decode m.2.1 pc = .ok (.invokestatic idx, 3)) (kk : Ev ks m (pc + 3) L sk S2 Q) : Ev ks m pc L (.inl x2 :: .inl x1 :: sk) S Q := ev_callS (av := [.inl x1, .inl x2]) ok hl hlev rfl hs hC hd (fun r S' h => by obtain ⟨rfl, rfl⟩ := h; exact kk)
theorem ev_cV2p {y : MethodName} {m' : MD} {idx o : Nat} {x1 x2 : Int32} {v : Int32} {P : St → Prop} (ok : OkV y m' 2) (hl : Cond.methodLink m.1 idx y ∈ gw) (hlev : m'.2.2.2.2 < m.2.2.2.2) (hs : sk.length ≤ 8) (ho : o ∈ ks) (hO : isO o y.cls) (hC : Cn ks m' y [.inr o, .inl x1, .inl x2] S (Gi v P)) (hd : decode m.2.1 pc = .ok (.invokevirtual idx, 3)) (kk : ∀ S2, P S2 → Ev ks m (pc + 3) L (.inl v :: sk) S2 Q) : Ev ks m pc L (.inl x2 :: .inl x1 :: .inr o :: sk) S Q := ev_callV (av := [.inl x1, .inl x2]) ok hl hlev rfl hs ho hO hC hd (fun r S' h => by obtain ⟨rfl, h2⟩ := h; exact kk S' h2)
theorem ev_cS2p {y : MethodName} {m' : MD} {idx : Nat} {x1 x2 : Int32} {v : Int32} {P : St → Prop} (ok : OkS y m' 2) (hl : Cond.methodLink m.1 idx y ∈ gw) (hlev : m'.2.2.2.2 < m.2.2.2.2) (hs : sk.length ≤ 8) (hC : Cn ks m' y [.inl x1, .inl x2] S (Gi v P)) (hd : decode m.2.1 pc = .ok (.invokestatic idx, 3)) (kk : ∀ S2, P S2 → Ev ks m (pc + 3) L (.inl v :: sk) S2 Q) : Ev ks m pc L (.inl x2 :: .inl x1 :: sk) S Q := ev_callS (av := [.inl x1, .inl x2]) ok hl hlev rfl hs hC hd (fun r S' h => by obtain ⟨rfl, h2⟩ := h; exact kk S' h2)
theorem ev_cV2q {y : MethodName} {m' : MD} {idx o : Nat} {x1 x2 : Int32} {P : St → Prop} (ok : OkV y m' 2) (hl : Cond.methodLink m.1 idx y ∈ gw) (hlev : m'.2.2.2.2 < m.2.2.2.2) (hs : sk.length ≤ 8) (ho : o ∈ ks) (hO : isO o y.cls) (hC : Cn ks m' y [.inr o, .inl x1, .inl x2] S (Gv P)) (hd : decode m.2.1 pc = .ok (.invokevirtual idx, 3)) (kk : ∀ S2, P S2 → Ev ks m (pc + 3) L sk S2 Q) : Ev ks m pc L (.inl x2 :: .inl x1 :: .inr o :: sk) S Q := ev_callV (av := [.inl x1, .inl x2]) ok hl hlev rfl hs ho hO hC hd (fun r S' h => by obtain ⟨rfl, h2⟩ := h; exact kk S' h2)
theorem ev_cS2q {y : MethodName} {m' : MD} {idx : Nat} {x1 x2 : Int32} {P : St → Prop} (ok : OkS y m' 2) (hl : Cond.methodLink m.1 idx y ∈ gw) (hlev : m'.2.2.2.2 < m.2.2.2.2) (hs : sk.length ≤ 8) (hC : Cn ks m' y [.inl x1, .inl x2] S (Gv P)) (hd : decode m.2.1 pc = .ok (.invokestatic idx, 3)) (kk : ∀ S2, P S2 → Ev ks m (pc + 3) L sk S2 Q) : Ev ks m pc L (.inl x2 :: .inl x1 :: sk) S Q := ev_callS (av := [.inl x1, .inl x2]) ok hl hlev rfl hs hC hd (fun r S' h => by obtain ⟨rfl, h2⟩ := h; exact kk S' h2)
theorem ev_cV3f {y : MethodName} {m' : MD} {idx o : Nat} {x1 x2 x3 : Int32} {v : Int32} {S2 : St} (ok : OkV y m' 3) (hl : Cond.methodLink m.1 idx y ∈ gw) (hlev : m'.2.2.2.2 < m.2.2.2.2) (hs : sk.length ≤ 8) (ho : o ∈ ks) (hO : isO o y.cls) (hC : Cn ks m' y [.inr o, .inl x1, .inl x2, .inl x3] S (Ri v S2)) (hd : decode m.2.1 pc = .ok (.invokevirtual idx, 3)) (kk : Ev ks m (pc + 3) L (.inl v :: sk) S2 Q) : Ev ks m pc L (.inl x3 :: .inl x2 :: .inl x1 :: .inr o :: sk) S Q := ev_callV (av := [.inl x1, .inl x2, .inl x3]) ok hl hlev rfl hs ho hO hC hd (fun r S' h => by obtain ⟨rfl, rfl⟩ := h; exact kk)
theorem ev_cS3f {y : MethodName} {m' : MD} {idx : Nat} {x1 x2 x3 : Int32} {v : Int32} {S2 : St} (ok : OkS y m' 3) (hl : Cond.methodLink m.1 idx y ∈ gw) (hlev : m'.2.2.2.2 < m.2.2.2.2) (hs : sk.length ≤ 8) (hC : Cn ks m' y [.inl x1, .inl x2, .inl x3] S (Ri v S2)) (hd : decode m.2.1 pc = .ok (.invokestatic idx, 3)) (kk : Ev ks m (pc + 3) L (.inl v :: sk) S2 Q) : Ev ks m pc L (.inl x3 :: .inl x2 :: .inl x1 :: sk) S Q := ev_callS (av := [.inl x1, .inl x2, .inl x3]) ok hl hlev rfl hs hC hd (fun r S' h => by obtain ⟨rfl, rfl⟩ := h; exact kk)
theorem ev_cV3v {y : MethodName} {m' : MD} {idx o : Nat} {x1 x2 x3 : Int32} {S2 : St} (ok : OkV y m' 3) (hl : Cond.methodLink m.1 idx y ∈ gw) (hlev : m'.2.2.2.2 < m.2.2.2.2) (hs : sk.length ≤ 8) (ho : o ∈ ks) (hO : isO o y.cls) (hC : Cn ks m' y [.inr o, .inl x1, .inl x2, .inl x3] S (Rv S2)) (hd : decode m.2.1 pc = .ok (.invokevirtual idx, 3)) (kk : Ev ks m (pc + 3) L sk S2 Q) : Ev ks m pc L (.inl x3 :: .inl x2 :: .inl x1 :: .inr o :: sk) S Q := ev_callV (av := [.inl x1, .inl x2, .inl x3]) ok hl hlev rfl hs ho hO hC hd (fun r S' h => by obtain ⟨rfl, rfl⟩ := h; exact kk)
theorem ev_cS3v {y : MethodName} {m' : MD} {idx : Nat} {x1 x2 x3 : Int32} {S2 : St} (ok : OkS y m' 3) (hl : Cond.methodLink m.1 idx y ∈ gw) (hlev : m'.2.2.2.2 < m.2.2.2.2) (hs : sk.length ≤ 8) (hC : Cn ks m' y [.inl x1, .inl x2, .inl x3] S (Rv S2)) (hd : decode m.2.1 pc = .ok (.invokestatic idx, 3)) (kk : Ev ks m (pc + 3) L sk S2 Q) : Ev ks m pc L (.inl x3 :: .inl x2 :: .inl x1 :: sk) S Q := ev_callS (av := [.inl x1, .inl x2, .inl x3]) ok hl hlev rfl hs hC hd (fun r S' h => by obtain ⟨rfl, rfl⟩ := h; exact kk)
theorem ev_cV3p {y : MethodName} {m' : MD} {idx o : Nat} {x1 x2 x3 : Int32} {v : Int32} {P : St → Prop} (ok : OkV y m' 3) (hl : Cond.methodLink m.1 idx y ∈ gw) (hlev : m'.2.2.2.2 < m.2.2.2.2) (hs : sk.length ≤ 8) (ho : o ∈ ks) (hO : isO o y.cls) (hC : Cn ks m' y [.inr o, .inl x1, .inl x2, .inl x3] S (Gi v P)) (hd : decode m.2.1 pc = .ok (.invokevirtual idx, 3)) (kk : ∀ S2, P S2 → Ev ks m (pc + 3) L (.inl v :: sk) S2 Q) : Ev ks m pc L (.inl x3 :: .inl x2 :: .inl x1 :: .inr o :: sk) S Q := ev_callV (av := [.inl x1, .inl x2, .inl x3]) ok hl hlev rfl hs ho hO hC hd (fun r S' h => by obtain ⟨rfl, h2⟩ := h; exact kk S' h2)
theorem ev_cS3p {y : MethodName} {m' : MD} {idx : Nat} {x1 x2 x3 : Int32} {v : Int32} {P : St → Prop} (ok : OkS y m' 3) (hl : Cond.methodLink m.1 idx y ∈ gw) (hlev : m'.2.2.2.2 < m.2.2.2.2) (hs : sk.length ≤ 8) (hC : Cn ks m' y [.inl x1, .inl x2, .inl x3] S (Gi v P)) (hd : decode m.2.1 pc = .ok (.invokestatic idx, 3)) (kk : ∀ S2, P S2 → Ev ks m (pc + 3) L (.inl v :: sk) S2 Q) : Ev ks m pc L (.inl x3 :: .inl x2 :: .inl x1 :: sk) S Q := ev_callS (av := [.inl x1, .inl x2, .inl x3]) ok hl hlev rfl hs hC hd (fun r S' h => by obtain ⟨rfl, h2⟩ := h; exact kk S' h2)
theorem ev_cV3q {y : MethodName} {m' : MD} {idx o : Nat} {x1 x2 x3 : Int32} {P : St → Prop} (ok : OkV y m' 3) (hl : Cond.methodLink m.1 idx y ∈ gw) (hlev : m'.2.2.2.2 < m.2.2.2.2) (hs : sk.length ≤ 8) (ho : o ∈ ks) (hO : isO o y.cls) (hC : Cn ks m' y [.inr o, .inl x1, .inl x2, .inl x3] S (Gv P)) (hd : decode m.2.1 pc = .ok (.invokevirtual idx, 3)) (kk : ∀ S2, P S2 → Ev ks m (pc + 3) L sk S2 Q) : Ev ks m pc L (.inl x3 :: .inl x2 :: .inl x1 :: .inr o :: sk) S Q := ev_callV (av := [.inl x1, .inl x2, .inl x3]) ok hl hlev rfl hs ho hO hC hd (fun r S' h => by obtain ⟨rfl, h2⟩ := h; exact kk S' h2)
theorem ev_cS3q {y : MethodName} {m' : MD} {idx : Nat} {x1 x2 x3 : Int32} {P : St → Prop} (ok : OkS y m' 3) (hl : Cond.methodLink m.1 idx y ∈ gw) (hlev : m'.2.2.2.2 < m.2.2.2.2) (hs : sk.length ≤ 8) (hC : Cn ks m' y [.inl x1, .inl x2, .inl x3] S (Gv P)) (hd : decode m.2.1 pc = .ok (.invokestatic idx, 3)) (kk : ∀ S2, P S2 → Ev ks m (pc + 3) L sk S2 Q) : Ev ks m pc L (.inl x3 :: .inl x2 :: .inl x1 :: sk) S Q := ev_callS (av := [.inl x1, .inl x2, .inl x3]) ok hl hlev rfl hs hC hd (fun r S' h => by obtain ⟨rfl, h2⟩ := h; exact kk S' h2)
theorem ev_cV4f {y : MethodName} {m' : MD} {idx o : Nat} {x1 x2 x3 x4 : Int32} {v : Int32} {S2 : St} (ok : OkV y m' 4) (hl : Cond.methodLink m.1 idx y ∈ gw) (hlev : m'.2.2.2.2 < m.2.2.2.2) (hs : sk.length ≤ 8) (ho : o ∈ ks) (hO : isO o y.cls) (hC : Cn ks m' y [.inr o, .inl x1, .inl x2, .inl x3, .inl x4] S (Ri v S2)) (hd : decode m.2.1 pc = .ok (.invokevirtual idx, 3)) (kk : Ev ks m (pc + 3) L (.inl v :: sk) S2 Q) : Ev ks m pc L (.inl x4 :: .inl x3 :: .inl x2 :: .inl x1 :: .inr o :: sk) S Q := ev_callV (av := [.inl x1, .inl x2, .inl x3, .inl x4]) ok hl hlev rfl hs ho hO hC hd (fun r S' h => by obtain ⟨rfl, rfl⟩ := h; exact kk)
theorem ev_cS4f {y : MethodName} {m' : MD} {idx : Nat} {x1 x2 x3 x4 : Int32} {v : Int32} {S2 : St} (ok : OkS y m' 4) (hl : Cond.methodLink m.1 idx y ∈ gw) (hlev : m'.2.2.2.2 < m.2.2.2.2) (hs : sk.length ≤ 8) (hC : Cn ks m' y [.inl x1, .inl x2, .inl x3, .inl x4] S (Ri v S2)) (hd : decode m.2.1 pc = .ok (.invokestatic idx, 3)) (kk : Ev ks m (pc + 3) L (.inl v :: sk) S2 Q) : Ev ks m pc L (.inl x4 :: .inl x3 :: .inl x2 :: .inl x1 :: sk) S Q := ev_callS (av := [.inl x1, .inl x2, .inl x3, .inl x4]) ok hl hlev rfl hs hC hd (fun r S' h => by obtain ⟨rfl, rfl⟩ := h; exact kk)
theorem ev_cV4v {y : MethodName} {m' : MD} {idx o : Nat} {x1 x2 x3 x4 : Int32} {S2 : St} (ok : OkV y m' 4) (hl : Cond.methodLink m.1 idx y ∈ gw) (hlev : m'.2.2.2.2 < m.2.2.2.2) (hs : sk.length ≤ 8) (ho : o ∈ ks) (hO : isO o y.cls) (hC : Cn ks m' y [.inr o, .inl x1, .inl x2, .inl x3, .inl x4] S (Rv S2)) (hd : decode m.2.1 pc = .ok (.invokevirtual idx, 3)) (kk : Ev ks m (pc + 3) L sk S2 Q) : Ev ks m pc L (.inl x4 :: .inl x3 :: .inl x2 :: .inl x1 :: .inr o :: sk) S Q := ev_callV (av := [.inl x1, .inl x2, .inl x3, .inl x4]) ok hl hlev rfl hs ho hO hC hd (fun r S' h => by obtain ⟨rfl, rfl⟩ := h; exact kk)
theorem ev_cS4v {y : MethodName} {m' : MD} {idx : Nat} {x1 x2 x3 x4 : Int32} {S2 : St} (ok : OkS y m' 4) (hl : Cond.methodLink m.1 idx y ∈ gw) (hlev : m'.2.2.2.2 < m.2.2.2.2) (hs : sk.length ≤ 8) (hC : Cn ks m' y [.inl x1, .inl x2, .inl x3, .inl x4] S (Rv S2)) (hd : decode m.2.1 pc = .ok (.invokestatic idx, 3)) (kk : Ev ks m (pc + 3) L sk S2 Q) : Ev ks m pc L (.inl x4 :: .inl x3 :: .inl x2 :: .inl x1 :: sk) S Q := ev_callS (av := [.inl x1, .inl x2, .inl x3, .inl x4]) ok hl hlev rfl hs hC hd (fun r S' h => by obtain ⟨rfl, rfl⟩ := h; exact kk)
theorem ev_cV4p {y : MethodName} {m' : MD} {idx o : Nat} {x1 x2 x3 x4 : Int32} {v : Int32} {P : St → Prop} (ok : OkV y m' 4) (hl : Cond.methodLink m.1 idx y ∈ gw) (hlev : m'.2.2.2.2 < m.2.2.2.2) (hs : sk.length ≤ 8) (ho : o ∈ ks) (hO : isO o y.cls) (hC : Cn ks m' y [.inr o, .inl x1, .inl x2, .inl x3, .inl x4] S (Gi v P)) (hd : decode m.2.1 pc = .ok (.invokevirtual idx, 3)) (kk : ∀ S2, P S2 → Ev ks m (pc + 3) L (.inl v :: sk) S2 Q) : Ev ks m pc L (.inl x4 :: .inl x3 :: .inl x2 :: .inl x1 :: .inr o :: sk) S Q := ev_callV (av := [.inl x1, .inl x2, .inl x3, .inl x4]) ok hl hlev rfl hs ho hO hC hd (fun r S' h => by obtain ⟨rfl, h2⟩ := h; exact kk S' h2)
theorem ev_cS4p {y : MethodName} {m' : MD} {idx : Nat} {x1 x2 x3 x4 : Int32} {v : Int32} {P : St → Prop} (ok : OkS y m' 4) (hl : Cond.methodLink m.1 idx y ∈ gw) (hlev : m'.2.2.2.2 < m.2.2.2.2) (hs : sk.length ≤ 8) (hC : Cn ks m' y [.inl x1, .inl x2, .inl x3, .inl x4] S (Gi v P)) (hd : decode m.2.1 pc = .ok (.invokestatic idx, 3)) (kk : ∀ S2, P S2 → Ev ks m (pc + 3) L (.inl v :: sk) S2 Q) : Ev ks m pc L (.inl x4 :: .inl x3 :: .inl x2 :: .inl x1 :: sk) S Q := ev_callS (av := [.inl x1, .inl x2, .inl x3, .inl x4]) ok hl hlev rfl hs hC hd (fun r S' h => by obtain ⟨rfl, h2⟩ := h; exact kk S' h2)
theorem ev_cV4q {y : MethodName} {m' : MD} {idx o : Nat} {x1 x2 x3 x4 : Int32} {P : St → Prop} (ok : OkV y m' 4) (hl : Cond.methodLink m.1 idx y ∈ gw) (hlev : m'.2.2.2.2 < m.2.2.2.2) (hs : sk.length ≤ 8) (ho : o ∈ ks) (hO : isO o y.cls) (hC : Cn ks m' y [.inr o, .inl x1, .inl x2, .inl x3, .inl x4] S (Gv P)) (hd : decode m.2.1 pc = .ok (.invokevirtual idx, 3)) (kk : ∀ S2, P S2 → Ev ks m (pc + 3) L sk S2 Q) : Ev ks m pc L (.inl x4 :: .inl x3 :: .inl x2 :: .inl x1 :: .inr o :: sk) S Q := ev_callV (av := [.inl x1, .inl x2, .inl x3, .inl x4]) ok hl hlev rfl hs ho hO hC hd (fun r S' h => by obtain ⟨rfl, h2⟩ := h; exact kk S' h2)
theorem ev_cS4q {y : MethodName} {m' : MD} {idx : Nat} {x1 x2 x3 x4 : Int32} {P : St → Prop} (ok : OkS y m' 4) (hl : Cond.methodLink m.1 idx y ∈ gw) (hlev : m'.2.2.2.2 < m.2.2.2.2) (hs : sk.length ≤ 8) (hC : Cn ks m' y [.inl x1, .inl x2, .inl x3, .inl x4] S (Gv P)) (hd : decode m.2.1 pc = .ok (.invokestatic idx, 3)) (kk : ∀ S2, P S2 → Ev ks m (pc + 3) L sk S2 Q) : Ev ks m pc L (.inl x4 :: .inl x3 :: .inl x2 :: .inl x1 :: sk) S Q := ev_callS (av := [.inl x1, .inl x2, .inl x3, .inl x4]) ok hl hlev rfl hs hC hd (fun r S' h => by obtain ⟨rfl, h2⟩ := h; exact kk S' h2)
theorem ev_cV5f {y : MethodName} {m' : MD} {idx o : Nat} {x1 x2 x3 x4 x5 : Int32} {v : Int32} {S2 : St} (ok : OkV y m' 5) (hl : Cond.methodLink m.1 idx y ∈ gw) (hlev : m'.2.2.2.2 < m.2.2.2.2) (hs : sk.length ≤ 8) (ho : o ∈ ks) (hO : isO o y.cls) (hC : Cn ks m' y [.inr o, .inl x1, .inl x2, .inl x3, .inl x4, .inl x5] S (Ri v S2)) (hd : decode m.2.1 pc = .ok (.invokevirtual idx, 3)) (kk : Ev ks m (pc + 3) L (.inl v :: sk) S2 Q) : Ev ks m pc L (.inl x5 :: .inl x4 :: .inl x3 :: .inl x2 :: .inl x1 :: .inr o :: sk) S Q := ev_callV (av := [.inl x1, .inl x2, .inl x3, .inl x4, .inl x5]) ok hl hlev rfl hs ho hO hC hd (fun r S' h => by obtain ⟨rfl, rfl⟩ := h; exact kk)
theorem ev_cS5f {y : MethodName} {m' : MD} {idx : Nat} {x1 x2 x3 x4 x5 : Int32} {v : Int32} {S2 : St} (ok : OkS y m' 5) (hl : Cond.methodLink m.1 idx y ∈ gw) (hlev : m'.2.2.2.2 < m.2.2.2.2) (hs : sk.length ≤ 8) (hC : Cn ks m' y [.inl x1, .inl x2, .inl x3, .inl x4, .inl x5] S (Ri v S2)) (hd : decode m.2.1 pc = .ok (.invokestatic idx, 3)) (kk : Ev ks m (pc + 3) L (.inl v :: sk) S2 Q) : Ev ks m pc L (.inl x5 :: .inl x4 :: .inl x3 :: .inl x2 :: .inl x1 :: sk) S Q := ev_callS (av := [.inl x1, .inl x2, .inl x3, .inl x4, .inl x5]) ok hl hlev rfl hs hC hd (fun r S' h => by obtain ⟨rfl, rfl⟩ := h; exact kk)
theorem ev_cV5v {y : MethodName} {m' : MD} {idx o : Nat} {x1 x2 x3 x4 x5 : Int32} {S2 : St} (ok : OkV y m' 5) (hl : Cond.methodLink m.1 idx y ∈ gw) (hlev : m'.2.2.2.2 < m.2.2.2.2) (hs : sk.length ≤ 8) (ho : o ∈ ks) (hO : isO o y.cls) (hC : Cn ks m' y [.inr o, .inl x1, .inl x2, .inl x3, .inl x4, .inl x5] S (Rv S2)) (hd : decode m.2.1 pc = .ok (.invokevirtual idx, 3)) (kk : Ev ks m (pc + 3) L sk S2 Q) : Ev ks m pc L (.inl x5 :: .inl x4 :: .inl x3 :: .inl x2 :: .inl x1 :: .inr o :: sk) S Q := ev_callV (av := [.inl x1, .inl x2, .inl x3, .inl x4, .inl x5]) ok hl hlev rfl hs ho hO hC hd (fun r S' h => by obtain ⟨rfl, rfl⟩ := h; exact kk)
theorem ev_cS5v {y : MethodName} {m' : MD} {idx : Nat} {x1 x2 x3 x4 x5 : Int32} {S2 : St} (ok : OkS y m' 5) (hl : Cond.methodLink m.1 idx y ∈ gw) (hlev : m'.2.2.2.2 < m.2.2.2.2) (hs : sk.length ≤ 8) (hC : Cn ks m' y [.inl x1, .inl x2, .inl x3, .inl x4, .inl x5] S (Rv S2)) (hd : decode m.2.1 pc = .ok (.invokestatic idx, 3)) (kk : Ev ks m (pc + 3) L sk S2 Q) : Ev ks m pc L (.inl x5 :: .inl x4 :: .inl x3 :: .inl x2 :: .inl x1 :: sk) S Q := ev_callS (av := [.inl x1, .inl x2, .inl x3, .inl x4, .inl x5]) ok hl hlev rfl hs hC hd (fun r S' h => by obtain ⟨rfl, rfl⟩ := h; exact kk)
theorem ev_cV5p {y : MethodName} {m' : MD} {idx o : Nat} {x1 x2 x3 x4 x5 : Int32} {v : Int32} {P : St → Prop} (ok : OkV y m' 5) (hl : Cond.methodLink m.1 idx y ∈ gw) (hlev : m'.2.2.2.2 < m.2.2.2.2) (hs : sk.length ≤ 8) (ho : o ∈ ks) (hO : isO o y.cls) (hC : Cn ks m' y [.inr o, .inl x1, .inl x2, .inl x3, .inl x4, .inl x5] S (Gi v P)) (hd : decode m.2.1 pc = .ok (.invokevirtual idx, 3)) (kk : ∀ S2, P S2 → Ev ks m (pc + 3) L (.inl v :: sk) S2 Q) : Ev ks m pc L (.inl x5 :: .inl x4 :: .inl x3 :: .inl x2 :: .inl x1 :: .inr o :: sk) S Q := ev_callV (av := [.inl x1, .inl x2, .inl x3, .inl x4, .inl x5]) ok hl hlev rfl hs ho hO hC hd (fun r S' h => by obtain ⟨rfl, h2⟩ := h; exact kk S' h2)
theorem ev_cS5p {y : MethodName} {m' : MD} {idx : Nat} {x1 x2 x3 x4 x5 : Int32} {v : Int32} {P : St → Prop} (ok : OkS y m' 5) (hl : Cond.methodLink m.1 idx y ∈ gw) (hlev : m'.2.2.2.2 < m.2.2.2.2) (hs : sk.length ≤ 8) (hC : Cn ks m' y [.inl x1, .inl x2, .inl x3, .inl x4, .inl x5] S (Gi v P)) (hd : decode m.2.1 pc = .ok (.invokestatic idx, 3)) (kk : ∀ S2, P S2 → Ev ks m (pc + 3) L (.inl v :: sk) S2 Q) : Ev ks m pc L (.inl x5 :: .inl x4 :: .inl x3 :: .inl x2 :: .inl x1 :: sk) S Q := ev_callS (av := [.inl x1, .inl x2, .inl x3, .inl x4, .inl x5]) ok hl hlev rfl hs hC hd (fun r S' h => by obtain ⟨rfl, h2⟩ := h; exact kk S' h2)
theorem ev_cV5q {y : MethodName} {m' : MD} {idx o : Nat} {x1 x2 x3 x4 x5 : Int32} {P : St → Prop} (ok : OkV y m' 5) (hl : Cond.methodLink m.1 idx y ∈ gw) (hlev : m'.2.2.2.2 < m.2.2.2.2) (hs : sk.length ≤ 8) (ho : o ∈ ks) (hO : isO o y.cls) (hC : Cn ks m' y [.inr o, .inl x1, .inl x2, .inl x3, .inl x4, .inl x5] S (Gv P)) (hd : decode m.2.1 pc = .ok (.invokevirtual idx, 3)) (kk : ∀ S2, P S2 → Ev ks m (pc + 3) L sk S2 Q) : Ev ks m pc L (.inl x5 :: .inl x4 :: .inl x3 :: .inl x2 :: .inl x1 :: .inr o :: sk) S Q := ev_callV (av := [.inl x1, .inl x2, .inl x3, .inl x4, .inl x5]) ok hl hlev rfl hs ho hO hC hd (fun r S' h => by obtain ⟨rfl, h2⟩ := h; exact kk S' h2)
theorem ev_cS5q {y : MethodName} {m' : MD} {idx : Nat} {x1 x2 x3 x4 x5 : Int32} {P : St → Prop} (ok : OkS y m' 5) (hl : Cond.methodLink m.1 idx y ∈ gw) (hlev : m'.2.2.2.2 < m.2.2.2.2) (hs : sk.length ≤ 8) (hC : Cn ks m' y [.inl x1, .inl x2, .inl x3, .inl x4, .inl x5] S (Gv P)) (hd : decode m.2.1 pc = .ok (.invokestatic idx, 3)) (kk : ∀ S2, P S2 → Ev ks m (pc + 3) L sk S2 Q) : Ev ks m pc L (.inl x5 :: .inl x4 :: .inl x3 :: .inl x2 :: .inl x1 :: sk) S Q := ev_callS (av := [.inl x1, .inl x2, .inl x3, .inl x4, .inl x5]) ok hl hlev rfl hs hC hd (fun r S' h => by obtain ⟨rfl, h2⟩ := h; exact kk S' h2)
theorem ev_fill {y : MethodName} {m' : MD} {idx k : Nat} {x : Int32} {S2 : St} (ok : OkS y m' 2) (hl : Cond.methodLink m.1 idx y ∈ gw) (hlev : m'.2.2.2.2 < m.2.2.2.2) (hs : sk.length ≤ 8) (hC : Cn ks m' y [.inr k, .inl x] S (Rv S2)) (hd : decode m.2.1 pc = .ok (.invokestatic idx, 3)) (kk : Ev ks m (pc + 3) L sk S2 Q) : Ev ks m pc L (.inl x :: .inr k :: sk) S Q := ev_callS (av := [.inr k, .inl x]) ok hl hlev rfl hs hC hd (fun r S' h => by obtain ⟨rfl, rfl⟩ := h; exact kk)
theorem ev_become {y : MethodName} {m' : MD} {idx o k : Nat} {S2 : St} (ok : OkV y m' 1) (hl : Cond.methodLink m.1 idx y ∈ gw) (hlev : m'.2.2.2.2 < m.2.2.2.2) (hs : sk.length ≤ 8) (ho : o ∈ ks) (hO : isO o y.cls) (hC : Cn ks m' y [.inr o, .inr k] S (Rv S2)) (hd : decode m.2.1 pc = .ok (.invokevirtual idx, 3)) (kk : Ev ks m (pc + 3) L sk S2 Q) : Ev ks m pc L (.inr k :: .inr o :: sk) S Q := ev_callV (av := [.inr k]) ok hl hlev rfl hs ho hO hC hd (fun r S' h => by obtain ⟨rfl, rfl⟩ := h; exact kk)
theorem ev_max {idx : Nat} {x y : Int32} (hl : Cond.methodLink m.1 idx Lib.Math.max.name ∈ gw) (hlev : 0 < m.2.2.2.2) (hs : sk.length ≤ 8) (hst : Cond.static Lib.Math.max.name ∈ gw) (hin : Cond.initialized "java/lang/Math" ∈ gw) (hco : Cond.code Lib.Math.max.name Lib.Math.max.code 2 (some .int) ∈ gw) (hd : decode m.2.1 pc = .ok (.invokestatic idx, 3)) (kk : Ev ks m (pc + 3) L (.inl (if x < y then y else x) :: sk) S Q) : Ev ks m pc L (.inl y :: .inl x :: sk) S Q := by
  intro l g p e s mi args below meth c H locs ls C0 R1 S1 L1
  have ht := C0.2.2.2.2.2.2.1
  exact va_mmax (R := rmv m.2.2.2.2) C0.1 C0.2.1 (C0.2.2.1.trans L1.2.1.symm) C0.2.2.2.1 (ht _ hl) (ht _ hst) (ht _ hin) (ht _ hco) hlev (by rw [cats]; show _ ≤ 40 * m.2.2.2.2; omega) (Nat.zero_le _) (Nat.zero_le _) hd (kk l g p e s mi args below meth c H locs ls C0 R1 S1 L1)
theorem ev_min {idx : Nat} {x y : Int32} (hl : Cond.methodLink m.1 idx Lib.Math.min.name ∈ gw) (hlev : 0 < m.2.2.2.2) (hs : sk.length ≤ 8) (hst : Cond.static Lib.Math.min.name ∈ gw) (hin : Cond.initialized "java/lang/Math" ∈ gw) (hco : Cond.code Lib.Math.min.name Lib.Math.min.code 2 (some .int) ∈ gw) (hd : decode m.2.1 pc = .ok (.invokestatic idx, 3)) (kk : Ev ks m (pc + 3) L (.inl (if y < x then y else x) :: sk) S Q) : Ev ks m pc L (.inl y :: .inl x :: sk) S Q := by
  intro l g p e s mi args below meth c H locs ls C0 R1 S1 L1
  have ht := C0.2.2.2.2.2.2.1
  exact va_mmin (R := rmv m.2.2.2.2) C0.1 C0.2.1 (C0.2.2.1.trans L1.2.1.symm) C0.2.2.2.1 (ht _ hl) (ht _ hst) (ht _ hin) (ht _ hco) hlev (by rw [cats]; show _ ≤ 40 * m.2.2.2.2; omega) (Nat.zero_le _) (Nat.zero_le _) hd (kk l g p e s mi args below meth c H locs ls C0 R1 S1 L1)
theorem ev_copy {idx k k2 : Nat} (N : Nat) (hN : alen k = N) (hN2 : alen k2 = N) (ha : isA k = true) (ha2 : isA k2 = true) (hk : k ∈ ks) (hk2 : k2 ∈ ks) (hl : Cond.methodLink m.1 idx arraycopyName ∈ gw) (hnat : Cond.native arraycopyName ∈ gw) (hst : Cond.static arraycopyName ∈ gw) (hin : Cond.initialized "java/lang/System" ∈ gw) (hlev : 0 < m.2.2.2.2) (hs : sk.length ≤ 8) (hd : decode m.2.1 pc = .ok (.invokestatic idx, 3))
    (kk : Ev ks m (pc + 3) L sk (sr S k2 (S k)) Q) : Ev ks m pc L (.inl (nI N) :: .inl (nI 0) :: .inr k2 :: .inl (nI 0) :: .inr k :: sk) S Q := by
  intro l g p e s mi args below meth c H locs ls C0 R1 S1 L1
  have ht := C0.2.2.2.2.2.2.1
  obtain ⟨i, h1, h2⟩ := wl_at (g := g) (S := S) hk
  obtain ⟨i2, h3, h4⟩ := wl_at (g := g) (S := S) hk2
  rw [ct_A ha] at h2
  rw [ct_A ha2] at h4
  have hb := alen_le k
  have c0 : (nI 0).toNatClampNeg = 0 := nI_clamp (by omega)
  have cN : (nI N).toNatClampNeg = N := nI_clamp (by omega)
  have h18 : nativeFrameWords "java/lang/System" "arraycopy" 5 = 7 := by decide +kernel
  refine va_copyi (R := rmv m.2.2.2.2) (D := g.2.1) (cl := cls3) (A := AA ks g) (ty := .int) C0.1 C0.2.1 (C0.2.2.1.trans L1.2.1.symm) C0.2.2.2.1 (ht _ hl) (ht _ hnat) (ht _ hst) (ht _ hin) C0.2.2.2.2.2.2.2 R1.1 R1.2.1 S1 i i2 0 0 h2 h4 rfl rfl rfl (nI_pos (by omega)) (nI_pos (by omega)) (nI_pos (by omega)) (by rw [c0, cN]; omega) (by rw [c0, cN]; omega) (fun _ _ => rfl) hlev (by rw [cats, h18]; show _ ≤ 40 * m.2.2.2.2; omega) hd (fun H1 locs1 hP hD hS => ?_)
  rw [c0, cN, wl_set R1.2.2 h3 (ct_A ha2).symm] at hP hD
  refine ev_cong (S' := sr S k2 (S k)) ?_ kk l g p e s mi args below meth c H1 locs1 ls C0 ⟨hP, hD, R1.2.2⟩ hS L1
  intro q hq j hj
  by_cases hqk : q = k2
  · subst hqk
    rw [sr_s, sr_s]
    have hw : j < N := by unfold wid at hj; rw [ha2] at hj; rw [← hN2]; exact hj
    rw [pk_cpy_in (Nat.zero_le _) (by omega), Nat.zero_add, Nat.sub_zero]
  · rw [sr_n hqk, sr_n hqk]
end EV
end
section
theorem pnX0 : plainName RX0 = true := by decide +kernel
theorem pnX1 : plainName RX1 = true := by decide +kernel
theorem pnX2 : plainName RX2 = true := by decide +kernel
theorem pnJ6 : plainName RJ6 = true := by decide +kernel
theorem pnJ7 : plainName RJ7 = true := by decide +kernel
abbrev mX0_start : MD := (RX0, cX0_start, 3, none, 1)
theorem okX0_start : OkV yX0_start mX0_start 2 := ⟨⟨gw_mem 64 (by decide +kernel) (by decide +kernel), gw_mem 41 (by decide +kernel) (by decide +kernel), by decide +kernel, by decide +kernel, pnX0, rfl⟩, gw_mem 62 (by decide +kernel) (by decide +kernel), gw_mem 63 (by decide +kernel) (by decide +kernel)⟩
abbrev mX0_become : MD := (RX0, cX0_become, 2, none, 1)
theorem okX0_become : OkV yX0_become mX0_become 1 := ⟨⟨gw_mem 169 (by decide +kernel) (by decide +kernel), gw_mem 41 (by decide +kernel) (by decide +kernel), by decide +kernel, by decide +kernel, pnX0, rfl⟩, gw_mem 167 (by decide +kernel) (by decide +kernel), gw_mem 168 (by decide +kernel) (by decide +kernel)⟩
abbrev mX0_codeOf : MD := (RX0, cX0_codeOf, 2, some .int, 0)
theorem okX0_codeOf : OkS yX0_codeOf mX0_codeOf 2 := ⟨⟨gw_mem 219 (by decide +kernel) (by decide +kernel), gw_mem 41 (by decide +kernel) (by decide +kernel), by decide +kernel, by decide +kernel, pnX0, rfl⟩, gw_mem 218 (by decide +kernel) (by decide +kernel)⟩
abbrev mX0_codesOf : MD := (RX0, cX0_codesOf, 1, some .int, 0)
theorem okX0_codesOf : OkS yX0_codesOf mX0_codesOf 1 := ⟨⟨gw_mem 288 (by decide +kernel) (by decide +kernel), gw_mem 41 (by decide +kernel) (by decide +kernel), by decide +kernel, by decide +kernel, pnX0, rfl⟩, gw_mem 287 (by decide +kernel) (by decide +kernel)⟩
abbrev mX0_receiptsIn : MD := (RX0, cX0_receiptsIn, 2, some .int, 1)
theorem okX0_receiptsIn : OkS yX0_receiptsIn mX0_receiptsIn 2 := ⟨⟨gw_mem 299 (by decide +kernel) (by decide +kernel), gw_mem 41 (by decide +kernel) (by decide +kernel), by decide +kernel, by decide +kernel, pnX0, rfl⟩, gw_mem 298 (by decide +kernel) (by decide +kernel)⟩
abbrev mX0_wayOf : MD := (RX0, cX0_wayOf, 2, some .int, 0)
theorem okX0_wayOf : OkS yX0_wayOf mX0_wayOf 2 := ⟨⟨gw_mem 191 (by decide +kernel) (by decide +kernel), gw_mem 41 (by decide +kernel) (by decide +kernel), by decide +kernel, by decide +kernel, pnX0, rfl⟩, gw_mem 190 (by decide +kernel) (by decide +kernel)⟩
abbrev mX0_letterOn : MD := (RX0, cX0_letterOn, 3, some .int, 1)
theorem okX0_letterOn : OkS yX0_letterOn mX0_letterOn 3 := ⟨⟨gw_mem 199 (by decide +kernel) (by decide +kernel), gw_mem 41 (by decide +kernel) (by decide +kernel), by decide +kernel, by decide +kernel, pnX0, rfl⟩, gw_mem 198 (by decide +kernel) (by decide +kernel)⟩
abbrev mX0_isSite : MD := (RX0, cX0_isSite, 2, some .boolean, 0)
theorem okX0_isSite : OkV yX0_isSite mX0_isSite 1 := ⟨⟨gw_mem 184 (by decide +kernel) (by decide +kernel), gw_mem 41 (by decide +kernel) (by decide +kernel), by decide +kernel, by decide +kernel, pnX0, rfl⟩, gw_mem 182 (by decide +kernel) (by decide +kernel), gw_mem 183 (by decide +kernel) (by decide +kernel)⟩
abbrev mX0_isWay : MD := (RX0, cX0_isWay, 3, some .boolean, 1)
theorem okX0_isWay : OkV yX0_isWay mX0_isWay 2 := ⟨⟨gw_mem 208 (by decide +kernel) (by decide +kernel), gw_mem 41 (by decide +kernel) (by decide +kernel), by decide +kernel, by decide +kernel, pnX0, rfl⟩, gw_mem 206 (by decide +kernel) (by decide +kernel), gw_mem 207 (by decide +kernel) (by decide +kernel)⟩
abbrev mX0_isReceipt : MD := (RX0, cX0_isReceipt, 3, some .boolean, 1)
theorem okX0_isReceipt : OkV yX0_isReceipt mX0_isReceipt 2 := ⟨⟨gw_mem 333 (by decide +kernel) (by decide +kernel), gw_mem 41 (by decide +kernel) (by decide +kernel), by decide +kernel, by decide +kernel, pnX0, rfl⟩, gw_mem 331 (by decide +kernel) (by decide +kernel), gw_mem 332 (by decide +kernel) (by decide +kernel)⟩
abbrev mX0_isDown : MD := (RX0, cX0_isDown, 2, some .boolean, 0)
theorem okX0_isDown : OkV yX0_isDown mX0_isDown 1 := ⟨⟨gw_mem 212 (by decide +kernel) (by decide +kernel), gw_mem 41 (by decide +kernel) (by decide +kernel), by decide +kernel, by decide +kernel, pnX0, rfl⟩, gw_mem 210 (by decide +kernel) (by decide +kernel), gw_mem 211 (by decide +kernel) (by decide +kernel)⟩
abbrev mX0_allSites : MD := (RX0, cX0_allSites, 1, some .int, 0)
theorem okX0_allSites : OkV yX0_allSites mX0_allSites 0 := ⟨⟨gw_mem 372 (by decide +kernel) (by decide +kernel), gw_mem 41 (by decide +kernel) (by decide +kernel), by decide +kernel, by decide +kernel, pnX0, rfl⟩, gw_mem 370 (by decide +kernel) (by decide +kernel), gw_mem 371 (by decide +kernel) (by decide +kernel)⟩
abbrev mX0_stateOf : MD := (RX0, cX0_stateOf, 2, some .int, 1)
theorem okX0_stateOf : OkV yX0_stateOf mX0_stateOf 1 := ⟨⟨gw_mem 228 (by decide +kernel) (by decide +kernel), gw_mem 41 (by decide +kernel) (by decide +kernel), by decide +kernel, by decide +kernel, pnX0, rfl⟩, gw_mem 226 (by decide +kernel) (by decide +kernel), gw_mem 227 (by decide +kernel) (by decide +kernel)⟩
abbrev mX0_allReceipts : MD := (RX0, cX0_allReceipts, 3, some .int, 0)
theorem okX0_allReceipts : OkV yX0_allReceipts mX0_allReceipts 0 := ⟨⟨gw_mem 296 (by decide +kernel) (by decide +kernel), gw_mem 41 (by decide +kernel) (by decide +kernel), by decide +kernel, by decide +kernel, pnX0, rfl⟩, gw_mem 294 (by decide +kernel) (by decide +kernel), gw_mem 295 (by decide +kernel) (by decide +kernel)⟩
abbrev mX0_lettersOn : MD := (RX0, cX0_lettersOn, 3, some .int, 1)
theorem okX0_lettersOn : OkV yX0_lettersOn mX0_lettersOn 2 := ⟨⟨gw_mem 188 (by decide +kernel) (by decide +kernel), gw_mem 41 (by decide +kernel) (by decide +kernel), by decide +kernel, by decide +kernel, pnX0, rfl⟩, gw_mem 186 (by decide +kernel) (by decide +kernel), gw_mem 187 (by decide +kernel) (by decide +kernel)⟩
abbrev mX0_lettersBy : MD := (RX0, cX0_lettersBy, 4, some .int, 2)
theorem okX0_lettersBy : OkV yX0_lettersBy mX0_lettersBy 1 := ⟨⟨gw_mem 325 (by decide +kernel) (by decide +kernel), gw_mem 41 (by decide +kernel) (by decide +kernel), by decide +kernel, by decide +kernel, pnX0, rfl⟩, gw_mem 323 (by decide +kernel) (by decide +kernel), gw_mem 324 (by decide +kernel) (by decide +kernel)⟩
abbrev mX0_allLetters : MD := (RX0, cX0_allLetters, 3, some .int, 3)
theorem okX0_allLetters : OkV yX0_allLetters mX0_allLetters 0 := ⟨⟨gw_mem 432 (by decide +kernel) (by decide +kernel), gw_mem 41 (by decide +kernel) (by decide +kernel), by decide +kernel, by decide +kernel, pnX0, rfl⟩, gw_mem 430 (by decide +kernel) (by decide +kernel), gw_mem 431 (by decide +kernel) (by decide +kernel)⟩
abbrev mX0_allCarried : MD := (RX0, cX0_allCarried, 4, some .int, 3)
theorem okX0_allCarried : OkV yX0_allCarried mX0_allCarried 0 := ⟨⟨gw_mem 442 (by decide +kernel) (by decide +kernel), gw_mem 41 (by decide +kernel) (by decide +kernel), by decide +kernel, by decide +kernel, pnX0, rfl⟩, gw_mem 440 (by decide +kernel) (by decide +kernel), gw_mem 441 (by decide +kernel) (by decide +kernel)⟩
abbrev mX0_carriedOn : MD := (RX0, cX0_carriedOn, 6, some .int, 2)
theorem okX0_carriedOn : OkV yX0_carriedOn mX0_carriedOn 2 := ⟨⟨gw_mem 446 (by decide +kernel) (by decide +kernel), gw_mem 41 (by decide +kernel) (by decide +kernel), by decide +kernel, by decide +kernel, pnX0, rfl⟩, gw_mem 444 (by decide +kernel) (by decide +kernel), gw_mem 445 (by decide +kernel) (by decide +kernel)⟩
abbrev mX0_takenFrom : MD := (RX0, cX0_takenFrom, 5, some .int, 1)
theorem okX0_takenFrom : OkV yX0_takenFrom mX0_takenFrom 2 := ⟨⟨gw_mem 216 (by decide +kernel) (by decide +kernel), gw_mem 41 (by decide +kernel) (by decide +kernel), by decide +kernel, by decide +kernel, pnX0, rfl⟩, gw_mem 214 (by decide +kernel) (by decide +kernel), gw_mem 215 (by decide +kernel) (by decide +kernel)⟩
abbrev mX0_heldBy : MD := (RX0, cX0_heldBy, 2, some .int, 0)
theorem okX0_heldBy : OkV yX0_heldBy mX0_heldBy 1 := ⟨⟨gw_mem 252 (by decide +kernel) (by decide +kernel), gw_mem 41 (by decide +kernel) (by decide +kernel), by decide +kernel, by decide +kernel, pnX0, rfl⟩, gw_mem 250 (by decide +kernel) (by decide +kernel), gw_mem 251 (by decide +kernel) (by decide +kernel)⟩
abbrev mX0_holdersOf : MD := (RX0, cX0_holdersOf, 4, some .int, 1)
theorem okX0_holdersOf : OkV yX0_holdersOf mX0_holdersOf 1 := ⟨⟨gw_mem 338 (by decide +kernel) (by decide +kernel), gw_mem 41 (by decide +kernel) (by decide +kernel), by decide +kernel, by decide +kernel, pnX0, rfl⟩, gw_mem 336 (by decide +kernel) (by decide +kernel), gw_mem 337 (by decide +kernel) (by decide +kernel)⟩
abbrev mX0_holdersKnown : MD := (RX0, cX0_holdersKnown, 5, some .int, 0)
theorem okX0_holdersKnown : OkV yX0_holdersKnown mX0_holdersKnown 2 := ⟨⟨gw_mem 256 (by decide +kernel) (by decide +kernel), gw_mem 41 (by decide +kernel) (by decide +kernel), by decide +kernel, by decide +kernel, pnX0, rfl⟩, gw_mem 254 (by decide +kernel) (by decide +kernel), gw_mem 255 (by decide +kernel) (by decide +kernel)⟩
abbrev mX0_isSafe : MD := (RX0, cX0_isSafe, 2, some .boolean, 2)
theorem okX0_isSafe : OkV yX0_isSafe mX0_isSafe 1 := ⟨⟨gw_mem 342 (by decide +kernel) (by decide +kernel), gw_mem 41 (by decide +kernel) (by decide +kernel), by decide +kernel, by decide +kernel, pnX0, rfl⟩, gw_mem 340 (by decide +kernel) (by decide +kernel), gw_mem 341 (by decide +kernel) (by decide +kernel)⟩
abbrev mX0_safeReceipts : MD := (RX0, cX0_safeReceipts, 4, some .int, 3)
theorem okX0_safeReceipts : OkV yX0_safeReceipts mX0_safeReceipts 0 := ⟨⟨gw_mem 437 (by decide +kernel) (by decide +kernel), gw_mem 41 (by decide +kernel) (by decide +kernel), by decide +kernel, by decide +kernel, pnX0, rfl⟩, gw_mem 435 (by decide +kernel) (by decide +kernel), gw_mem 436 (by decide +kernel) (by decide +kernel)⟩
abbrev mX0_unsafeFor : MD := (RX0, cX0_unsafeFor, 4, some .int, 1)
theorem okX0_unsafeFor : OkV yX0_unsafeFor mX0_unsafeFor 1 := ⟨⟨gw_mem 248 (by decide +kernel) (by decide +kernel), gw_mem 41 (by decide +kernel) (by decide +kernel), by decide +kernel, by decide +kernel, pnX0, rfl⟩, gw_mem 246 (by decide +kernel) (by decide +kernel), gw_mem 247 (by decide +kernel) (by decide +kernel)⟩
abbrev mX0_write : MD := (RX0, cX0_write, 8, none, 2)
theorem okX0_write : OkV yX0_write mX0_write 5 := ⟨⟨gw_mem 195 (by decide +kernel) (by decide +kernel), gw_mem 41 (by decide +kernel) (by decide +kernel), by decide +kernel, by decide +kernel, pnX0, rfl⟩, gw_mem 193 (by decide +kernel) (by decide +kernel), gw_mem 194 (by decide +kernel) (by decide +kernel)⟩
abbrev mX0_take : MD := (RX0, cX0_take, 6, none, 4)
theorem okX0_take : OkV yX0_take mX0_take 2 := ⟨⟨gw_mem 223 (by decide +kernel) (by decide +kernel), gw_mem 41 (by decide +kernel) (by decide +kernel), by decide +kernel, by decide +kernel, pnX0, rfl⟩, gw_mem 221 (by decide +kernel) (by decide +kernel), gw_mem 222 (by decide +kernel) (by decide +kernel)⟩
abbrev mX0_pastAhead : MD := (RX0, cX0_pastAhead, 2, some .int, 1)
theorem okX0_pastAhead : OkV yX0_pastAhead mX0_pastAhead 1 := ⟨⟨gw_mem 232 (by decide +kernel) (by decide +kernel), gw_mem 41 (by decide +kernel) (by decide +kernel), by decide +kernel, by decide +kernel, pnX0, rfl⟩, gw_mem 230 (by decide +kernel) (by decide +kernel), gw_mem 231 (by decide +kernel) (by decide +kernel)⟩
abbrev mX0_pastOfBirth : MD := (RX0, cX0_pastOfBirth, 2, some .int, 0)
theorem okX0_pastOfBirth : OkV yX0_pastOfBirth mX0_pastOfBirth 1 := ⟨⟨gw_mem 236 (by decide +kernel) (by decide +kernel), gw_mem 41 (by decide +kernel) (by decide +kernel), by decide +kernel, by decide +kernel, pnX0, rfl⟩, gw_mem 234 (by decide +kernel) (by decide +kernel), gw_mem 235 (by decide +kernel) (by decide +kernel)⟩
abbrev mX0_learn : MD := (RX0, cX0_learn, 5, none, 0)
theorem okX0_learn : OkV yX0_learn mX0_learn 3 := ⟨⟨gw_mem 240 (by decide +kernel) (by decide +kernel), gw_mem 41 (by decide +kernel) (by decide +kernel), by decide +kernel, by decide +kernel, pnX0, rfl⟩, gw_mem 238 (by decide +kernel) (by decide +kernel), gw_mem 239 (by decide +kernel) (by decide +kernel)⟩
abbrev mX0_answer : MD := (RX0, cX0_answer, 5, none, 3)
theorem okX0_answer : OkV yX0_answer mX0_answer 2 := ⟨⟨gw_mem 244 (by decide +kernel) (by decide +kernel), gw_mem 41 (by decide +kernel) (by decide +kernel), by decide +kernel, by decide +kernel, pnX0, rfl⟩, gw_mem 242 (by decide +kernel) (by decide +kernel), gw_mem 243 (by decide +kernel) (by decide +kernel)⟩
abbrev mX0_crash : MD := (RX0, cX0_crash, 3, none, 0)
theorem okX0_crash : OkV yX0_crash mX0_crash 1 := ⟨⟨gw_mem 272 (by decide +kernel) (by decide +kernel), gw_mem 41 (by decide +kernel) (by decide +kernel), by decide +kernel, by decide +kernel, pnX0, rfl⟩, gw_mem 270 (by decide +kernel) (by decide +kernel), gw_mem 271 (by decide +kernel) (by decide +kernel)⟩
abbrev mX0_keptIfDown : MD := (RX0, cX0_keptIfDown, 7, some .int, 1)
theorem okX0_keptIfDown : OkV yX0_keptIfDown mX0_keptIfDown 1 := ⟨⟨gw_mem 285 (by decide +kernel) (by decide +kernel), gw_mem 41 (by decide +kernel) (by decide +kernel), by decide +kernel, by decide +kernel, pnX0, rfl⟩, gw_mem 283 (by decide +kernel) (by decide +kernel), gw_mem 284 (by decide +kernel) (by decide +kernel)⟩
abbrev mX0_lostBut : MD := (RX0, cX0_lostBut, 2, some .int, 1)
theorem okX0_lostBut : OkV yX0_lostBut mX0_lostBut 1 := ⟨⟨gw_mem 292 (by decide +kernel) (by decide +kernel), gw_mem 41 (by decide +kernel) (by decide +kernel), by decide +kernel, by decide +kernel, pnX0, rfl⟩, gw_mem 290 (by decide +kernel) (by decide +kernel), gw_mem 291 (by decide +kernel) (by decide +kernel)⟩
abbrev mX0_orphansBut : MD := (RX0, cX0_orphansBut, 5, some .int, 2)
theorem okX0_orphansBut : OkV yX0_orphansBut mX0_orphansBut 2 := ⟨⟨gw_mem 378 (by decide +kernel) (by decide +kernel), gw_mem 41 (by decide +kernel) (by decide +kernel), by decide +kernel, by decide +kernel, pnX0, rfl⟩, gw_mem 376 (by decide +kernel) (by decide +kernel), gw_mem 377 (by decide +kernel) (by decide +kernel)⟩
abbrev mX0_raiseAll : MD := (RX0, cX0_raiseAll, 5, some .int, 3)
theorem okX0_raiseAll : OkV yX0_raiseAll mX0_raiseAll 0 := ⟨⟨gw_mem 281 (by decide +kernel) (by decide +kernel), gw_mem 41 (by decide +kernel) (by decide +kernel), by decide +kernel, by decide +kernel, pnX0, rfl⟩, gw_mem 279 (by decide +kernel) (by decide +kernel), gw_mem 280 (by decide +kernel) (by decide +kernel)⟩
abbrev mX0_keepLettersOn : MD := (RX0, cX0_keepLettersOn, 9, none, 2)
theorem okX0_keepLettersOn : OkV yX0_keepLettersOn mX0_keepLettersOn 3 := ⟨⟨gw_mem 303 (by decide +kernel) (by decide +kernel), gw_mem 41 (by decide +kernel) (by decide +kernel), by decide +kernel, by decide +kernel, pnX0, rfl⟩, gw_mem 301 (by decide +kernel) (by decide +kernel), gw_mem 302 (by decide +kernel) (by decide +kernel)⟩
abbrev mX0_learnAll : MD := (RX0, cX0_learnAll, 4, none, 1)
theorem okX0_learnAll : OkV yX0_learnAll mX0_learnAll 2 := ⟨⟨gw_mem 312 (by decide +kernel) (by decide +kernel), gw_mem 41 (by decide +kernel) (by decide +kernel), by decide +kernel, by decide +kernel, pnX0, rfl⟩, gw_mem 310 (by decide +kernel) (by decide +kernel), gw_mem 311 (by decide +kernel) (by decide +kernel)⟩
abbrev mX0_tellTheRaised : MD := (RX0, cX0_tellTheRaised, 3, none, 2)
theorem okX0_tellTheRaised : OkV yX0_tellTheRaised mX0_tellTheRaised 0 := ⟨⟨gw_mem 307 (by decide +kernel) (by decide +kernel), gw_mem 41 (by decide +kernel) (by decide +kernel), by decide +kernel, by decide +kernel, pnX0, rfl⟩, gw_mem 305 (by decide +kernel) (by decide +kernel), gw_mem 306 (by decide +kernel) (by decide +kernel)⟩
abbrev mX1_begins : MD := (RX1, cX1_begins, 3, some .int, 3)
theorem okX1_begins : OkV yX1_begins mX1_begins 2 := ⟨⟨gw_mem 161 (by decide +kernel) (by decide +kernel), gw_mem 40 (by decide +kernel) (by decide +kernel), by decide +kernel, by decide +kernel, pnX1, rfl⟩, gw_mem 159 (by decide +kernel) (by decide +kernel), gw_mem 160 (by decide +kernel) (by decide +kernel)⟩
abbrev mX1_puts : MD := (RX1, cX1_puts, 4, some .int, 3)
theorem okX1_puts : OkV yX1_puts mX1_puts 2 := ⟨⟨gw_mem 180 (by decide +kernel) (by decide +kernel), gw_mem 40 (by decide +kernel) (by decide +kernel), by decide +kernel, by decide +kernel, pnX1, rfl⟩, gw_mem 178 (by decide +kernel) (by decide +kernel), gw_mem 179 (by decide +kernel) (by decide +kernel)⟩
abbrev mX1_receives : MD := (RX1, cX1_receives, 3, some .int, 5)
theorem okX1_receives : OkV yX1_receives mX1_receives 2 := ⟨⟨gw_mem 204 (by decide +kernel) (by decide +kernel), gw_mem 40 (by decide +kernel) (by decide +kernel), by decide +kernel, by decide +kernel, pnX1, rfl⟩, gw_mem 202 (by decide +kernel) (by decide +kernel), gw_mem 203 (by decide +kernel) (by decide +kernel)⟩
abbrev mX1_crashes : MD := (RX1, cX1_crashes, 2, some .int, 3)
theorem okX1_crashes : OkV yX1_crashes mX1_crashes 1 := ⟨⟨gw_mem 268 (by decide +kernel) (by decide +kernel), gw_mem 40 (by decide +kernel) (by decide +kernel), by decide +kernel, by decide +kernel, pnX1, rfl⟩, gw_mem 266 (by decide +kernel) (by decide +kernel), gw_mem 267 (by decide +kernel) (by decide +kernel)⟩
abbrev mX1_raises : MD := (RX1, cX1_raises, 1, some .int, 4)
theorem okX1_raises : OkV yX1_raises mX1_raises 0 := ⟨⟨gw_mem 277 (by decide +kernel) (by decide +kernel), gw_mem 40 (by decide +kernel) (by decide +kernel), by decide +kernel, by decide +kernel, pnX1, rfl⟩, gw_mem 275 (by decide +kernel) (by decide +kernel), gw_mem 276 (by decide +kernel) (by decide +kernel)⟩
abbrev mX1_undo : MD := (RX1, cX1_undo, 1, some .int, 2)
theorem okX1_undo : OkV yX1_undo mX1_undo 0 := ⟨⟨gw_mem 316 (by decide +kernel) (by decide +kernel), gw_mem 40 (by decide +kernel) (by decide +kernel), by decide +kernel, by decide +kernel, pnX1, rfl⟩, gw_mem 314 (by decide +kernel) (by decide +kernel), gw_mem 315 (by decide +kernel) (by decide +kernel)⟩
abbrev mX1_site : MD := (RX1, cX1_site, 3, some .int, 3)
theorem okX1_site : OkV yX1_site mX1_site 2 := ⟨⟨gw_mem 320 (by decide +kernel) (by decide +kernel), gw_mem 40 (by decide +kernel) (by decide +kernel), by decide +kernel, by decide +kernel, pnX1, rfl⟩, gw_mem 318 (by decide +kernel) (by decide +kernel), gw_mem 319 (by decide +kernel) (by decide +kernel)⟩
abbrev mX1_receipt : MD := (RX1, cX1_receipt, 5, some .int, 3)
theorem okX1_receipt : OkV yX1_receipt mX1_receipt 3 := ⟨⟨gw_mem 329 (by decide +kernel) (by decide +kernel), gw_mem 40 (by decide +kernel) (by decide +kernel), by decide +kernel, by decide +kernel, pnX1, rfl⟩, gw_mem 327 (by decide +kernel) (by decide +kernel), gw_mem 328 (by decide +kernel) (by decide +kernel)⟩
abbrev mX1_letter : MD := (RX1, cX1_letter, 6, some .int, 2)
theorem okX1_letter : OkV yX1_letter mX1_letter 4 := ⟨⟨gw_mem 347 (by decide +kernel) (by decide +kernel), gw_mem 40 (by decide +kernel) (by decide +kernel), by decide +kernel, by decide +kernel, pnX1, rfl⟩, gw_mem 345 (by decide +kernel) (by decide +kernel), gw_mem 346 (by decide +kernel) (by decide +kernel)⟩
abbrev mX1_carries : MD := (RX1, cX1_carries, 5, some .int, 2)
theorem okX1_carries : OkV yX1_carries mX1_carries 4 := ⟨⟨gw_mem 352 (by decide +kernel) (by decide +kernel), gw_mem 40 (by decide +kernel) (by decide +kernel), by decide +kernel, by decide +kernel, pnX1, rfl⟩, gw_mem 350 (by decide +kernel) (by decide +kernel), gw_mem 351 (by decide +kernel) (by decide +kernel)⟩
abbrev mX1_knows : MD := (RX1, cX1_knows, 3, some .int, 1)
theorem okX1_knows : OkV yX1_knows mX1_knows 2 := ⟨⟨gw_mem 359 (by decide +kernel) (by decide +kernel), gw_mem 40 (by decide +kernel) (by decide +kernel), by decide +kernel, by decide +kernel, pnX1, rfl⟩, gw_mem 357 (by decide +kernel) (by decide +kernel), gw_mem 358 (by decide +kernel) (by decide +kernel)⟩
abbrev mX1_past : MD := (RX1, cX1_past, 4, some .int, 2)
theorem okX1_past : OkV yX1_past mX1_past 3 := ⟨⟨gw_mem 364 (by decide +kernel) (by decide +kernel), gw_mem 40 (by decide +kernel) (by decide +kernel), by decide +kernel, by decide +kernel, pnX1, rfl⟩, gw_mem 362 (by decide +kernel) (by decide +kernel), gw_mem 363 (by decide +kernel) (by decide +kernel)⟩
abbrev mX1_risk : MD := (RX1, cX1_risk, 5, some .int, 3)
theorem okX1_risk : OkV yX1_risk mX1_risk 2 := ⟨⟨gw_mem 368 (by decide +kernel) (by decide +kernel), gw_mem 40 (by decide +kernel) (by decide +kernel), by decide +kernel, by decide +kernel, pnX1, rfl⟩, gw_mem 366 (by decide +kernel) (by decide +kernel), gw_mem 367 (by decide +kernel) (by decide +kernel)⟩
abbrev mX1_worst : MD := (RX1, cX1_worst, 5, some .int, 2)
theorem okX1_worst : OkV yX1_worst mX1_worst 1 := ⟨⟨gw_mem 382 (by decide +kernel) (by decide +kernel), gw_mem 40 (by decide +kernel) (by decide +kernel), by decide +kernel, by decide +kernel, pnX1, rfl⟩, gw_mem 380 (by decide +kernel) (by decide +kernel), gw_mem 381 (by decide +kernel) (by decide +kernel)⟩
abbrev mX1_sees : MD := (RX1, cX1_sees, 3, some .int, 1)
theorem okX1_sees : OkV yX1_sees mX1_sees 2 := ⟨⟨gw_mem 389 (by decide +kernel) (by decide +kernel), gw_mem 40 (by decide +kernel) (by decide +kernel), by decide +kernel, by decide +kernel, pnX1, rfl⟩, gw_mem 387 (by decide +kernel) (by decide +kernel), gw_mem 388 (by decide +kernel) (by decide +kernel)⟩
abbrev mX1_forget : MD := (RX1, cX1_forget, 2, some .int, 0)
theorem okX1_forget : OkV yX1_forget mX1_forget 0 := ⟨⟨gw_mem 393 (by decide +kernel) (by decide +kernel), gw_mem 40 (by decide +kernel) (by decide +kernel), by decide +kernel, by decide +kernel, pnX1, rfl⟩, gw_mem 391 (by decide +kernel) (by decide +kernel), gw_mem 392 (by decide +kernel) (by decide +kernel)⟩
abbrev mX1_which : MD := (RX1, cX1_which, 3, some .int, 4)
theorem okX1_which : OkV yX1_which mX1_which 1 := ⟨⟨gw_mem 397 (by decide +kernel) (by decide +kernel), gw_mem 40 (by decide +kernel) (by decide +kernel), by decide +kernel, by decide +kernel, pnX1, rfl⟩, gw_mem 395 (by decide +kernel) (by decide +kernel), gw_mem 396 (by decide +kernel) (by decide +kernel)⟩
abbrev mX1_ask : MD := (RX1, cX1_ask, 6, some .int, 4)
theorem okX1_ask : OkV yX1_ask mX1_ask 0 := ⟨⟨gw_mem 410 (by decide +kernel) (by decide +kernel), gw_mem 40 (by decide +kernel) (by decide +kernel), by decide +kernel, by decide +kernel, pnX1, rfl⟩, gw_mem 408 (by decide +kernel) (by decide +kernel), gw_mem 409 (by decide +kernel) (by decide +kernel)⟩
abbrev mX1_keep : MD := (RX1, cX1_keep, 2, some .int, 2)
theorem okX1_keep : OkV yX1_keep mX1_keep 1 := ⟨⟨gw_mem 419 (by decide +kernel) (by decide +kernel), gw_mem 40 (by decide +kernel) (by decide +kernel), by decide +kernel, by decide +kernel, pnX1, rfl⟩, gw_mem 417 (by decide +kernel) (by decide +kernel), gw_mem 418 (by decide +kernel) (by decide +kernel)⟩
abbrev mX1_back : MD := (RX1, cX1_back, 2, some .int, 2)
theorem okX1_back : OkV yX1_back mX1_back 1 := ⟨⟨gw_mem 424 (by decide +kernel) (by decide +kernel), gw_mem 40 (by decide +kernel) (by decide +kernel), by decide +kernel, by decide +kernel, pnX1, rfl⟩, gw_mem 422 (by decide +kernel) (by decide +kernel), gw_mem 423 (by decide +kernel) (by decide +kernel)⟩
abbrev mX1_count : MD := (RX1, cX1_count, 2, some .int, 4)
theorem okX1_count : OkV yX1_count mX1_count 1 := ⟨⟨gw_mem 428 (by decide +kernel) (by decide +kernel), gw_mem 40 (by decide +kernel) (by decide +kernel), by decide +kernel, by decide +kernel, pnX1, rfl⟩, gw_mem 426 (by decide +kernel) (by decide +kernel), gw_mem 427 (by decide +kernel) (by decide +kernel)⟩
abbrev mX1_remember : MD := (RX1, cX1_remember, 1, none, 2)
theorem okX1_remember : OkV yX1_remember mX1_remember 0 := ⟨⟨gw_mem 165 (by decide +kernel) (by decide +kernel), gw_mem 40 (by decide +kernel) (by decide +kernel), by decide +kernel, by decide +kernel, pnX1, rfl⟩, gw_mem 164 (by decide +kernel) (by decide +kernel), gw_mem 0 (by decide +kernel) (by decide +kernel)⟩
abbrev mX1_possibleSets : MD := (RX1, cX1_possibleSets, 4, some .int, 3)
theorem okX1_possibleSets : OkV yX1_possibleSets mX1_possibleSets 0 := ⟨⟨gw_mem 401 (by decide +kernel) (by decide +kernel), gw_mem 40 (by decide +kernel) (by decide +kernel), by decide +kernel, by decide +kernel, pnX1, rfl⟩, gw_mem 400 (by decide +kernel) (by decide +kernel), gw_mem 1 (by decide +kernel) (by decide +kernel)⟩
abbrev mX1_agreesWithSeen : MD := (RX1, cX1_agreesWithSeen, 3, some .boolean, 2)
theorem okX1_agreesWithSeen : OkV yX1_agreesWithSeen mX1_agreesWithSeen 1 := ⟨⟨gw_mem 405 (by decide +kernel) (by decide +kernel), gw_mem 40 (by decide +kernel) (by decide +kernel), by decide +kernel, by decide +kernel, pnX1, rfl⟩, gw_mem 404 (by decide +kernel) (by decide +kernel), gw_mem 2 (by decide +kernel) (by decide +kernel)⟩
abbrev mX1_mostAlike : MD := (RX1, cX1_mostAlike, 7, some .int, 2)
theorem okX1_mostAlike : OkV yX1_mostAlike mX1_mostAlike 2 := ⟨⟨gw_mem 414 (by decide +kernel) (by decide +kernel), gw_mem 40 (by decide +kernel) (by decide +kernel), by decide +kernel, by decide +kernel, pnX1, rfl⟩, gw_mem 413 (by decide +kernel) (by decide +kernel), gw_mem 3 (by decide +kernel) (by decide +kernel)⟩
abbrev mX1_numberAt : MD := (RX1, cX1_numberAt, 4, some .int, 0)
theorem okX1_numberAt : OkS yX1_numberAt mX1_numberAt 2 := ⟨⟨gw_mem 355 (by decide +kernel) (by decide +kernel), gw_mem 40 (by decide +kernel) (by decide +kernel), by decide +kernel, by decide +kernel, pnX1, rfl⟩, gw_mem 354 (by decide +kernel) (by decide +kernel)⟩
abbrev mX2_in : MD := (RX2, cX2_in, 3, some .boolean, 0)
theorem okX2_in : OkS yX2_in mX2_in 3 := ⟨⟨gw_mem 495 (by decide +kernel) (by decide +kernel), gw_mem 43 (by decide +kernel) (by decide +kernel), by decide +kernel, by decide +kernel, pnX2, rfl⟩, gw_mem 494 (by decide +kernel) (by decide +kernel)⟩
abbrev mX2_has : MD := (RX2, cX2_has, 2, some .boolean, 0)
theorem okX2_has : OkS yX2_has mX2_has 2 := ⟨⟨gw_mem 552 (by decide +kernel) (by decide +kernel), gw_mem 43 (by decide +kernel) (by decide +kernel), by decide +kernel, by decide +kernel, pnX2, rfl⟩, gw_mem 551 (by decide +kernel) (by decide +kernel)⟩
abbrev mX2_bits : MD := (RX2, cX2_bits, 3, some .int, 1)
theorem okX2_bits : OkS yX2_bits mX2_bits 1 := ⟨⟨gw_mem 574 (by decide +kernel) (by decide +kernel), gw_mem 43 (by decide +kernel) (by decide +kernel), by decide +kernel, by decide +kernel, pnX2, rfl⟩, gw_mem 573 (by decide +kernel) (by decide +kernel)⟩
abbrev mX2_start : MD := (RX2, cX2_start, 4, none, 0)
theorem okX2_start : OkV yX2_start mX2_start 2 := ⟨⟨gw_mem 456 (by decide +kernel) (by decide +kernel), gw_mem 43 (by decide +kernel) (by decide +kernel), by decide +kernel, by decide +kernel, pnX2, rfl⟩, gw_mem 455 (by decide +kernel) (by decide +kernel), gw_mem 4 (by decide +kernel) (by decide +kernel)⟩
abbrev mX2_many : MD := (RX2, cX2_many, 1, some .int, 0)
theorem okX2_many : OkV yX2_many mX2_many 0 := ⟨⟨gw_mem 511 (by decide +kernel) (by decide +kernel), gw_mem 43 (by decide +kernel) (by decide +kernel), by decide +kernel, by decide +kernel, pnX2, rfl⟩, gw_mem 510 (by decide +kernel) (by decide +kernel), gw_mem 7 (by decide +kernel) (by decide +kernel)⟩
abbrev mX2_isSite : MD := (RX2, cX2_isSite, 2, some .boolean, 1)
theorem okX2_isSite : OkV yX2_isSite mX2_isSite 1 := ⟨⟨gw_mem 507 (by decide +kernel) (by decide +kernel), gw_mem 43 (by decide +kernel) (by decide +kernel), by decide +kernel, by decide +kernel, pnX2, rfl⟩, gw_mem 506 (by decide +kernel) (by decide +kernel), gw_mem 6 (by decide +kernel) (by decide +kernel)⟩
abbrev mX2_isDown : MD := (RX2, cX2_isDown, 2, some .boolean, 1)
theorem okX2_isDown : OkV yX2_isDown mX2_isDown 1 := ⟨⟨gw_mem 549 (by decide +kernel) (by decide +kernel), gw_mem 43 (by decide +kernel) (by decide +kernel), by decide +kernel, by decide +kernel, pnX2, rfl⟩, gw_mem 548 (by decide +kernel) (by decide +kernel), gw_mem 14 (by decide +kernel) (by decide +kernel)⟩
abbrev mX2_receipts : MD := (RX2, cX2_receipts, 2, some .int, 0)
theorem okX2_receipts : OkV yX2_receipts mX2_receipts 1 := ⟨⟨gw_mem 541 (by decide +kernel) (by decide +kernel), gw_mem 43 (by decide +kernel) (by decide +kernel), by decide +kernel, by decide +kernel, pnX2, rfl⟩, gw_mem 540 (by decide +kernel) (by decide +kernel), gw_mem 12 (by decide +kernel) (by decide +kernel)⟩
abbrev mX2_ofReceipt : MD := (RX2, cX2_ofReceipt, 4, some .int, 0)
theorem okX2_ofReceipt : OkV yX2_ofReceipt mX2_ofReceipt 3 := ⟨⟨gw_mem 545 (by decide +kernel) (by decide +kernel), gw_mem 43 (by decide +kernel) (by decide +kernel), by decide +kernel, by decide +kernel, pnX2, rfl⟩, gw_mem 544 (by decide +kernel) (by decide +kernel), gw_mem 13 (by decide +kernel) (by decide +kernel)⟩
abbrev mX2_stateOf : MD := (RX2, cX2_stateOf, 2, some .int, 1)
theorem okX2_stateOf : OkV yX2_stateOf mX2_stateOf 1 := ⟨⟨gw_mem 556 (by decide +kernel) (by decide +kernel), gw_mem 43 (by decide +kernel) (by decide +kernel), by decide +kernel, by decide +kernel, pnX2, rfl⟩, gw_mem 555 (by decide +kernel) (by decide +kernel), gw_mem 15 (by decide +kernel) (by decide +kernel)⟩
abbrev mX2_way : MD := (RX2, cX2_way, 2, some .int, 0)
theorem okX2_way : OkS yX2_way mX2_way 2 := ⟨⟨gw_mem 518 (by decide +kernel) (by decide +kernel), gw_mem 43 (by decide +kernel) (by decide +kernel), by decide +kernel, by decide +kernel, pnX2, rfl⟩, gw_mem 517 (by decide +kernel) (by decide +kernel)⟩
abbrev mX2_letters : MD := (RX2, cX2_letters, 3, some .int, 1)
theorem okX2_letters : OkV yX2_letters mX2_letters 2 := ⟨⟨gw_mem 515 (by decide +kernel) (by decide +kernel), gw_mem 43 (by decide +kernel) (by decide +kernel), by decide +kernel, by decide +kernel, pnX2, rfl⟩, gw_mem 514 (by decide +kernel) (by decide +kernel), gw_mem 8 (by decide +kernel) (by decide +kernel)⟩
abbrev mX2_letterAt : MD := (RX2, cX2_letterAt, 3, some .int, 1)
theorem okX2_letterAt : OkS yX2_letterAt mX2_letterAt 3 := ⟨⟨gw_mem 525 (by decide +kernel) (by decide +kernel), gw_mem 43 (by decide +kernel) (by decide +kernel), by decide +kernel, by decide +kernel, pnX2, rfl⟩, gw_mem 524 (by decide +kernel) (by decide +kernel)⟩
abbrev mX2_knownIn : MD := (RX2, cX2_knownIn, 2, some .int, 0)
theorem okX2_knownIn : OkS yX2_knownIn mX2_knownIn 2 := ⟨⟨gw_mem 567 (by decide +kernel) (by decide +kernel), gw_mem 43 (by decide +kernel) (by decide +kernel), by decide +kernel, by decide +kernel, pnX2, rfl⟩, gw_mem 566 (by decide +kernel) (by decide +kernel)⟩
abbrev mX2_knownBy : MD := (RX2, cX2_knownBy, 3, some .int, 1)
theorem okX2_knownBy : OkV yX2_knownBy mX2_knownBy 2 := ⟨⟨gw_mem 564 (by decide +kernel) (by decide +kernel), gw_mem 43 (by decide +kernel) (by decide +kernel), by decide +kernel, by decide +kernel, pnX2, rfl⟩, gw_mem 563 (by decide +kernel) (by decide +kernel), gw_mem 17 (by decide +kernel) (by decide +kernel)⟩
abbrev mX2_know : MD := (RX2, cX2_know, 6, none, 0)
theorem okX2_know : OkV yX2_know mX2_know 3 := ⟨⟨gw_mem 560 (by decide +kernel) (by decide +kernel), gw_mem 43 (by decide +kernel) (by decide +kernel), by decide +kernel, by decide +kernel, pnX2, rfl⟩, gw_mem 559 (by decide +kernel) (by decide +kernel), gw_mem 16 (by decide +kernel) (by decide +kernel)⟩
abbrev mX2_write : MD := (RX2, cX2_write, 8, none, 2)
theorem okX2_write : OkV yX2_write mX2_write 5 := ⟨⟨gw_mem 522 (by decide +kernel) (by decide +kernel), gw_mem 43 (by decide +kernel) (by decide +kernel), by decide +kernel, by decide +kernel, pnX2, rfl⟩, gw_mem 521 (by decide +kernel) (by decide +kernel), gw_mem 9 (by decide +kernel) (by decide +kernel)⟩
abbrev mX2_had : MD := (RX2, cX2_had, 5, some .int, 1)
theorem okX2_had : OkV yX2_had mX2_had 2 := ⟨⟨gw_mem 537 (by decide +kernel) (by decide +kernel), gw_mem 43 (by decide +kernel) (by decide +kernel), by decide +kernel, by decide +kernel, pnX2, rfl⟩, gw_mem 536 (by decide +kernel) (by decide +kernel), gw_mem 11 (by decide +kernel) (by decide +kernel)⟩
abbrev mX2_note : MD := (RX2, cX2_note, 2, none, 0)
theorem okX2_note : OkV yX2_note mX2_note 0 := ⟨⟨gw_mem 499 (by decide +kernel) (by decide +kernel), gw_mem 43 (by decide +kernel) (by decide +kernel), by decide +kernel, by decide +kernel, pnX2, rfl⟩, gw_mem 498 (by decide +kernel) (by decide +kernel), gw_mem 5 (by decide +kernel) (by decide +kernel)⟩
abbrev mX2_begins : MD := (RX2, cX2_begins, 3, some .int, 1)
theorem okX2_begins : OkV yX2_begins mX2_begins 2 := ⟨⟨gw_mem 492 (by decide +kernel) (by decide +kernel), gw_mem 43 (by decide +kernel) (by decide +kernel), by decide +kernel, by decide +kernel, pnX2, rfl⟩, gw_mem 490 (by decide +kernel) (by decide +kernel), gw_mem 491 (by decide +kernel) (by decide +kernel)⟩
abbrev mX2_puts : MD := (RX2, cX2_puts, 4, some .int, 3)
theorem okX2_puts : OkV yX2_puts mX2_puts 2 := ⟨⟨gw_mem 503 (by decide +kernel) (by decide +kernel), gw_mem 43 (by decide +kernel) (by decide +kernel), by decide +kernel, by decide +kernel, pnX2, rfl⟩, gw_mem 501 (by decide +kernel) (by decide +kernel), gw_mem 502 (by decide +kernel) (by decide +kernel)⟩
abbrev mX2_isWay : MD := (RX2, cX2_isWay, 3, some .boolean, 2)
theorem okX2_isWay : OkV yX2_isWay mX2_isWay 2 := ⟨⟨gw_mem 533 (by decide +kernel) (by decide +kernel), gw_mem 43 (by decide +kernel) (by decide +kernel), by decide +kernel, by decide +kernel, pnX2, rfl⟩, gw_mem 532 (by decide +kernel) (by decide +kernel), gw_mem 10 (by decide +kernel) (by decide +kernel)⟩
abbrev mX2_receives : MD := (RX2, cX2_receives, 10, some .int, 4)
theorem okX2_receives : OkV yX2_receives mX2_receives 2 := ⟨⟨gw_mem 529 (by decide +kernel) (by decide +kernel), gw_mem 43 (by decide +kernel) (by decide +kernel), by decide +kernel, by decide +kernel, pnX2, rfl⟩, gw_mem 527 (by decide +kernel) (by decide +kernel), gw_mem 528 (by decide +kernel) (by decide +kernel)⟩
abbrev mX2_answer : MD := (RX2, cX2_answer, 7, none, 3)
theorem okX2_answer : OkV yX2_answer mX2_answer 3 := ⟨⟨gw_mem 571 (by decide +kernel) (by decide +kernel), gw_mem 43 (by decide +kernel) (by decide +kernel), by decide +kernel, by decide +kernel, pnX2, rfl⟩, gw_mem 570 (by decide +kernel) (by decide +kernel), gw_mem 18 (by decide +kernel) (by decide +kernel)⟩
abbrev mX2_crashes : MD := (RX2, cX2_crashes, 3, some .int, 2)
theorem okX2_crashes : OkV yX2_crashes mX2_crashes 1 := ⟨⟨gw_mem 578 (by decide +kernel) (by decide +kernel), gw_mem 43 (by decide +kernel) (by decide +kernel), by decide +kernel, by decide +kernel, pnX2, rfl⟩, gw_mem 576 (by decide +kernel) (by decide +kernel), gw_mem 577 (by decide +kernel) (by decide +kernel)⟩
abbrev mX2_heldBut : MD := (RX2, cX2_heldBut, 4, some .int, 1)
theorem okX2_heldBut : OkV yX2_heldBut mX2_heldBut 1 := ⟨⟨gw_mem 590 (by decide +kernel) (by decide +kernel), gw_mem 43 (by decide +kernel) (by decide +kernel), by decide +kernel, by decide +kernel, pnX2, rfl⟩, gw_mem 589 (by decide +kernel) (by decide +kernel), gw_mem 20 (by decide +kernel) (by decide +kernel)⟩
abbrev mX2_isKeptCode : MD := (RX2, cX2_isKeptCode, 2, some .boolean, 0)
theorem okX2_isKeptCode : OkV yX2_isKeptCode mX2_isKeptCode 1 := ⟨⟨gw_mem 598 (by decide +kernel) (by decide +kernel), gw_mem 43 (by decide +kernel) (by decide +kernel), by decide +kernel, by decide +kernel, pnX2, rfl⟩, gw_mem 597 (by decide +kernel) (by decide +kernel), gw_mem 22 (by decide +kernel) (by decide +kernel)⟩
abbrev mX2_birthOf : MD := (RX2, cX2_birthOf, 4, some .int, 2)
theorem okX2_birthOf : OkV yX2_birthOf mX2_birthOf 2 := ⟨⟨gw_mem 594 (by decide +kernel) (by decide +kernel), gw_mem 43 (by decide +kernel) (by decide +kernel), by decide +kernel, by decide +kernel, pnX2, rfl⟩, gw_mem 593 (by decide +kernel) (by decide +kernel), gw_mem 21 (by decide +kernel) (by decide +kernel)⟩
abbrev mX2_findKept : MD := (RX2, cX2_findKept, 6, none, 3)
theorem okX2_findKept : OkV yX2_findKept mX2_findKept 1 := ⟨⟨gw_mem 586 (by decide +kernel) (by decide +kernel), gw_mem 43 (by decide +kernel) (by decide +kernel), by decide +kernel, by decide +kernel, pnX2, rfl⟩, gw_mem 585 (by decide +kernel) (by decide +kernel), gw_mem 19 (by decide +kernel) (by decide +kernel)⟩
abbrev mX2_lost : MD := (RX2, cX2_lost, 3, some .int, 1)
theorem okX2_lost : OkV yX2_lost mX2_lost 0 := ⟨⟨gw_mem 602 (by decide +kernel) (by decide +kernel), gw_mem 43 (by decide +kernel) (by decide +kernel), by decide +kernel, by decide +kernel, pnX2, rfl⟩, gw_mem 601 (by decide +kernel) (by decide +kernel), gw_mem 23 (by decide +kernel) (by decide +kernel)⟩
abbrev mX2_orphans : MD := (RX2, cX2_orphans, 4, some .int, 1)
theorem okX2_orphans : OkV yX2_orphans mX2_orphans 1 := ⟨⟨gw_mem 673 (by decide +kernel) (by decide +kernel), gw_mem 43 (by decide +kernel) (by decide +kernel), by decide +kernel, by decide +kernel, pnX2, rfl⟩, gw_mem 672 (by decide +kernel) (by decide +kernel), gw_mem 32 (by decide +kernel) (by decide +kernel)⟩
abbrev mX2_codesKept : MD := (RX2, cX2_codesKept, 4, some .int, 1)
theorem okX2_codesKept : OkV yX2_codesKept mX2_codesKept 0 := ⟨⟨gw_mem 606 (by decide +kernel) (by decide +kernel), gw_mem 43 (by decide +kernel) (by decide +kernel), by decide +kernel, by decide +kernel, pnX2, rfl⟩, gw_mem 605 (by decide +kernel) (by decide +kernel), gw_mem 24 (by decide +kernel) (by decide +kernel)⟩
abbrev mX2_dropLetters : MD := (RX2, cX2_dropLetters, 5, none, 2)
theorem okX2_dropLetters : OkV yX2_dropLetters mX2_dropLetters 1 := ⟨⟨gw_mem 610 (by decide +kernel) (by decide +kernel), gw_mem 43 (by decide +kernel) (by decide +kernel), by decide +kernel, by decide +kernel, pnX2, rfl⟩, gw_mem 609 (by decide +kernel) (by decide +kernel), gw_mem 25 (by decide +kernel) (by decide +kernel)⟩
abbrev mX2_raises : MD := (RX2, cX2_raises, 7, some .int, 4)
theorem okX2_raises : OkV yX2_raises mX2_raises 0 := ⟨⟨gw_mem 582 (by decide +kernel) (by decide +kernel), gw_mem 43 (by decide +kernel) (by decide +kernel), by decide +kernel, by decide +kernel, pnX2, rfl⟩, gw_mem 580 (by decide +kernel) (by decide +kernel), gw_mem 581 (by decide +kernel) (by decide +kernel)⟩
abbrev mX2_raiseAll : MD := (RX2, cX2_raiseAll, 6, none, 1)
theorem okX2_raiseAll : OkV yX2_raiseAll mX2_raiseAll 2 := ⟨⟨gw_mem 614 (by decide +kernel) (by decide +kernel), gw_mem 43 (by decide +kernel) (by decide +kernel), by decide +kernel, by decide +kernel, pnX2, rfl⟩, gw_mem 613 (by decide +kernel) (by decide +kernel), gw_mem 26 (by decide +kernel) (by decide +kernel)⟩
abbrev mX2_undo : MD := (RX2, cX2_undo, 2, some .int, 0)
theorem okX2_undo : OkV yX2_undo mX2_undo 0 := ⟨⟨gw_mem 618 (by decide +kernel) (by decide +kernel), gw_mem 43 (by decide +kernel) (by decide +kernel), by decide +kernel, by decide +kernel, pnX2, rfl⟩, gw_mem 616 (by decide +kernel) (by decide +kernel), gw_mem 617 (by decide +kernel) (by decide +kernel)⟩
abbrev mX2_written : MD := (RX2, cX2_written, 4, some .int, 2)
theorem okX2_written : OkV yX2_written mX2_written 1 := ⟨⟨gw_mem 626 (by decide +kernel) (by decide +kernel), gw_mem 43 (by decide +kernel) (by decide +kernel), by decide +kernel, by decide +kernel, pnX2, rfl⟩, gw_mem 625 (by decide +kernel) (by decide +kernel), gw_mem 27 (by decide +kernel) (by decide +kernel)⟩
abbrev mX2_site : MD := (RX2, cX2_site, 3, some .int, 3)
theorem okX2_site : OkV yX2_site mX2_site 2 := ⟨⟨gw_mem 622 (by decide +kernel) (by decide +kernel), gw_mem 43 (by decide +kernel) (by decide +kernel), by decide +kernel, by decide +kernel, pnX2, rfl⟩, gw_mem 620 (by decide +kernel) (by decide +kernel), gw_mem 621 (by decide +kernel) (by decide +kernel)⟩
abbrev mX2_holders : MD := (RX2, cX2_holders, 4, some .int, 1)
theorem okX2_holders : OkV yX2_holders mX2_holders 1 := ⟨⟨gw_mem 638 (by decide +kernel) (by decide +kernel), gw_mem 43 (by decide +kernel) (by decide +kernel), by decide +kernel, by decide +kernel, pnX2, rfl⟩, gw_mem 637 (by decide +kernel) (by decide +kernel), gw_mem 29 (by decide +kernel) (by decide +kernel)⟩
abbrev mX2_isSafe : MD := (RX2, cX2_isSafe, 3, some .boolean, 2)
theorem okX2_isSafe : OkV yX2_isSafe mX2_isSafe 2 := ⟨⟨gw_mem 642 (by decide +kernel) (by decide +kernel), gw_mem 43 (by decide +kernel) (by decide +kernel), by decide +kernel, by decide +kernel, pnX2, rfl⟩, gw_mem 641 (by decide +kernel) (by decide +kernel), gw_mem 30 (by decide +kernel) (by decide +kernel)⟩
abbrev mX2_pastOf : MD := (RX2, cX2_pastOf, 8, some .int, 3)
theorem okX2_pastOf : OkV yX2_pastOf mX2_pastOf 2 := ⟨⟨gw_mem 646 (by decide +kernel) (by decide +kernel), gw_mem 43 (by decide +kernel) (by decide +kernel), by decide +kernel, by decide +kernel, pnX2, rfl⟩, gw_mem 645 (by decide +kernel) (by decide +kernel), gw_mem 31 (by decide +kernel) (by decide +kernel)⟩
abbrev mX2_isReceipt : MD := (RX2, cX2_isReceipt, 3, some .boolean, 2)
theorem okX2_isReceipt : OkV yX2_isReceipt mX2_isReceipt 2 := ⟨⟨gw_mem 634 (by decide +kernel) (by decide +kernel), gw_mem 43 (by decide +kernel) (by decide +kernel), by decide +kernel, by decide +kernel, pnX2, rfl⟩, gw_mem 633 (by decide +kernel) (by decide +kernel), gw_mem 28 (by decide +kernel) (by decide +kernel)⟩
abbrev mX2_receipt : MD := (RX2, cX2_receipt, 4, some .int, 4)
theorem okX2_receipt : OkV yX2_receipt mX2_receipt 3 := ⟨⟨gw_mem 630 (by decide +kernel) (by decide +kernel), gw_mem 43 (by decide +kernel) (by decide +kernel), by decide +kernel, by decide +kernel, pnX2, rfl⟩, gw_mem 628 (by decide +kernel) (by decide +kernel), gw_mem 629 (by decide +kernel) (by decide +kernel)⟩
abbrev mX2_letter : MD := (RX2, cX2_letter, 6, some .int, 3)
theorem okX2_letter : OkV yX2_letter mX2_letter 4 := ⟨⟨gw_mem 650 (by decide +kernel) (by decide +kernel), gw_mem 43 (by decide +kernel) (by decide +kernel), by decide +kernel, by decide +kernel, pnX2, rfl⟩, gw_mem 648 (by decide +kernel) (by decide +kernel), gw_mem 649 (by decide +kernel) (by decide +kernel)⟩
abbrev mX2_nth : MD := (RX2, cX2_nth, 4, some .int, 1)
theorem okX2_nth : OkS yX2_nth mX2_nth 2 := ⟨⟨gw_mem 657 (by decide +kernel) (by decide +kernel), gw_mem 43 (by decide +kernel) (by decide +kernel), by decide +kernel, by decide +kernel, pnX2, rfl⟩, gw_mem 656 (by decide +kernel) (by decide +kernel)⟩
abbrev mX2_carries : MD := (RX2, cX2_carries, 5, some .int, 3)
theorem okX2_carries : OkV yX2_carries mX2_carries 4 := ⟨⟨gw_mem 654 (by decide +kernel) (by decide +kernel), gw_mem 43 (by decide +kernel) (by decide +kernel), by decide +kernel, by decide +kernel, pnX2, rfl⟩, gw_mem 652 (by decide +kernel) (by decide +kernel), gw_mem 653 (by decide +kernel) (by decide +kernel)⟩
abbrev mX2_knows : MD := (RX2, cX2_knows, 3, some .int, 2)
theorem okX2_knows : OkV yX2_knows mX2_knows 2 := ⟨⟨gw_mem 661 (by decide +kernel) (by decide +kernel), gw_mem 43 (by decide +kernel) (by decide +kernel), by decide +kernel, by decide +kernel, pnX2, rfl⟩, gw_mem 659 (by decide +kernel) (by decide +kernel), gw_mem 660 (by decide +kernel) (by decide +kernel)⟩
abbrev mX2_past : MD := (RX2, cX2_past, 4, some .int, 4)
theorem okX2_past : OkV yX2_past mX2_past 3 := ⟨⟨gw_mem 665 (by decide +kernel) (by decide +kernel), gw_mem 43 (by decide +kernel) (by decide +kernel), by decide +kernel, by decide +kernel, pnX2, rfl⟩, gw_mem 663 (by decide +kernel) (by decide +kernel), gw_mem 664 (by decide +kernel) (by decide +kernel)⟩
abbrev mX2_risk : MD := (RX2, cX2_risk, 4, some .int, 4)
theorem okX2_risk : OkV yX2_risk mX2_risk 2 := ⟨⟨gw_mem 669 (by decide +kernel) (by decide +kernel), gw_mem 43 (by decide +kernel) (by decide +kernel), by decide +kernel, by decide +kernel, pnX2, rfl⟩, gw_mem 667 (by decide +kernel) (by decide +kernel), gw_mem 668 (by decide +kernel) (by decide +kernel)⟩
abbrev mX2_worst : MD := (RX2, cX2_worst, 4, some .int, 4)
theorem okX2_worst : OkV yX2_worst mX2_worst 1 := ⟨⟨gw_mem 677 (by decide +kernel) (by decide +kernel), gw_mem 43 (by decide +kernel) (by decide +kernel), by decide +kernel, by decide +kernel, pnX2, rfl⟩, gw_mem 675 (by decide +kernel) (by decide +kernel), gw_mem 676 (by decide +kernel) (by decide +kernel)⟩
abbrev mX2_sees : MD := (RX2, cX2_sees, 3, some .int, 2)
theorem okX2_sees : OkV yX2_sees mX2_sees 2 := ⟨⟨gw_mem 681 (by decide +kernel) (by decide +kernel), gw_mem 43 (by decide +kernel) (by decide +kernel), by decide +kernel, by decide +kernel, pnX2, rfl⟩, gw_mem 679 (by decide +kernel) (by decide +kernel), gw_mem 680 (by decide +kernel) (by decide +kernel)⟩
abbrev mX2_forget : MD := (RX2, cX2_forget, 2, some .int, 0)
theorem okX2_forget : OkV yX2_forget mX2_forget 0 := ⟨⟨gw_mem 685 (by decide +kernel) (by decide +kernel), gw_mem 43 (by decide +kernel) (by decide +kernel), by decide +kernel, by decide +kernel, pnX2, rfl⟩, gw_mem 683 (by decide +kernel) (by decide +kernel), gw_mem 684 (by decide +kernel) (by decide +kernel)⟩
abbrev mX2_fits : MD := (RX2, cX2_fits, 4, some .boolean, 4)
theorem okX2_fits : OkV yX2_fits mX2_fits 1 := ⟨⟨gw_mem 693 (by decide +kernel) (by decide +kernel), gw_mem 43 (by decide +kernel) (by decide +kernel), by decide +kernel, by decide +kernel, pnX2, rfl⟩, gw_mem 692 (by decide +kernel) (by decide +kernel), gw_mem 33 (by decide +kernel) (by decide +kernel)⟩
abbrev mX2_which : MD := (RX2, cX2_which, 5, some .int, 5)
theorem okX2_which : OkV yX2_which mX2_which 1 := ⟨⟨gw_mem 689 (by decide +kernel) (by decide +kernel), gw_mem 43 (by decide +kernel) (by decide +kernel), by decide +kernel, by decide +kernel, pnX2, rfl⟩, gw_mem 687 (by decide +kernel) (by decide +kernel), gw_mem 688 (by decide +kernel) (by decide +kernel)⟩
abbrev mX2_greatest : MD := (RX2, cX2_greatest, 4, some .int, 5)
theorem okX2_greatest : OkV yX2_greatest mX2_greatest 1 := ⟨⟨gw_mem 702 (by decide +kernel) (by decide +kernel), gw_mem 43 (by decide +kernel) (by decide +kernel), by decide +kernel, by decide +kernel, pnX2, rfl⟩, gw_mem 701 (by decide +kernel) (by decide +kernel), gw_mem 34 (by decide +kernel) (by decide +kernel)⟩
abbrev mX2_ask : MD := (RX2, cX2_ask, 3, some .int, 6)
theorem okX2_ask : OkV yX2_ask mX2_ask 0 := ⟨⟨gw_mem 697 (by decide +kernel) (by decide +kernel), gw_mem 43 (by decide +kernel) (by decide +kernel), by decide +kernel, by decide +kernel, pnX2, rfl⟩, gw_mem 695 (by decide +kernel) (by decide +kernel), gw_mem 696 (by decide +kernel) (by decide +kernel)⟩
abbrev mX2_allReceipts : MD := (RX2, cX2_allReceipts, 3, some .int, 1)
theorem okX2_allReceipts : OkV yX2_allReceipts mX2_allReceipts 0 := ⟨⟨gw_mem 710 (by decide +kernel) (by decide +kernel), gw_mem 43 (by decide +kernel) (by decide +kernel), by decide +kernel, by decide +kernel, pnX2, rfl⟩, gw_mem 709 (by decide +kernel) (by decide +kernel), gw_mem 35 (by decide +kernel) (by decide +kernel)⟩
abbrev mX2_keep : MD := (RX2, cX2_keep, 3, some .int, 2)
theorem okX2_keep : OkV yX2_keep mX2_keep 1 := ⟨⟨gw_mem 706 (by decide +kernel) (by decide +kernel), gw_mem 43 (by decide +kernel) (by decide +kernel), by decide +kernel, by decide +kernel, pnX2, rfl⟩, gw_mem 704 (by decide +kernel) (by decide +kernel), gw_mem 705 (by decide +kernel) (by decide +kernel)⟩
abbrev mX2_back : MD := (RX2, cX2_back, 3, some .int, 2)
theorem okX2_back : OkV yX2_back mX2_back 1 := ⟨⟨gw_mem 714 (by decide +kernel) (by decide +kernel), gw_mem 43 (by decide +kernel) (by decide +kernel), by decide +kernel, by decide +kernel, pnX2, rfl⟩, gw_mem 712 (by decide +kernel) (by decide +kernel), gw_mem 713 (by decide +kernel) (by decide +kernel)⟩
abbrev mX2_allLetters : MD := (RX2, cX2_allLetters, 3, some .int, 3)
theorem okX2_allLetters : OkV yX2_allLetters mX2_allLetters 0 := ⟨⟨gw_mem 722 (by decide +kernel) (by decide +kernel), gw_mem 43 (by decide +kernel) (by decide +kernel), by decide +kernel, by decide +kernel, pnX2, rfl⟩, gw_mem 721 (by decide +kernel) (by decide +kernel), gw_mem 36 (by decide +kernel) (by decide +kernel)⟩
abbrev mX2_allSafe : MD := (RX2, cX2_allSafe, 4, some .int, 3)
theorem okX2_allSafe : OkV yX2_allSafe mX2_allSafe 0 := ⟨⟨gw_mem 726 (by decide +kernel) (by decide +kernel), gw_mem 43 (by decide +kernel) (by decide +kernel), by decide +kernel, by decide +kernel, pnX2, rfl⟩, gw_mem 725 (by decide +kernel) (by decide +kernel), gw_mem 37 (by decide +kernel) (by decide +kernel)⟩
abbrev mX2_allCarried : MD := (RX2, cX2_allCarried, 5, some .int, 2)
theorem okX2_allCarried : OkV yX2_allCarried mX2_allCarried 0 := ⟨⟨gw_mem 730 (by decide +kernel) (by decide +kernel), gw_mem 43 (by decide +kernel) (by decide +kernel), by decide +kernel, by decide +kernel, pnX2, rfl⟩, gw_mem 729 (by decide +kernel) (by decide +kernel), gw_mem 38 (by decide +kernel) (by decide +kernel)⟩
abbrev mX2_count : MD := (RX2, cX2_count, 2, some .int, 4)
theorem okX2_count : OkV yX2_count mX2_count 1 := ⟨⟨gw_mem 718 (by decide +kernel) (by decide +kernel), gw_mem 43 (by decide +kernel) (by decide +kernel), by decide +kernel, by decide +kernel, pnX2, rfl⟩, gw_mem 716 (by decide +kernel) (by decide +kernel), gw_mem 717 (by decide +kernel) (by decide +kernel)⟩
abbrev mJ6_bitCount_0f7a4 : MD := (RJ6, cJ6_bitCount_0f7a4, 1, some .int, 0)
theorem okJ6_bitCount_0f7a4 : OkS yJ6_bitCount_0f7a4 mJ6_bitCount_0f7a4 1 := ⟨⟨gw_mem 259 (by decide +kernel) (by decide +kernel), gw_mem 46 (by decide +kernel) (by decide +kernel), by decide +kernel, by decide +kernel, pnJ6, rfl⟩, gw_mem 258 (by decide +kernel) (by decide +kernel)⟩
abbrev mJ7_fill_53178 : MD := (RJ7, cJ7_fill_53178, 4, none, 0)
theorem okJ7_fill_53178 : OkS yJ7_fill_53178 mJ7_fill_53178 2 := ⟨⟨gw_mem 67 (by decide +kernel) (by decide +kernel), gw_mem 42 (by decide +kernel) (by decide +kernel), by decide +kernel, by decide +kernel, pnJ7, rfl⟩, gw_mem 66 (by decide +kernel) (by decide +kernel)⟩
theorem lkX1_36 : Cond.methodLink RX1 36 yX1_remember ∈ gw := gw_mem 162 (by decide +kernel) (by decide +kernel)
theorem lkX1_39 : Cond.methodLink RX1 39 yX0_start ∈ gw := gw_mem 176 (by decide +kernel) (by decide +kernel)
theorem lkX1_50 : Cond.methodLink RX1 50 yX0_isSite ∈ gw := gw_mem 181 (by decide +kernel) (by decide +kernel)
theorem lkX1_57 : Cond.methodLink RX1 57 yX0_lettersOn ∈ gw := gw_mem 185 (by decide +kernel) (by decide +kernel)
theorem lkX1_61 : Cond.methodLink RX1 61 yX0_write ∈ gw := gw_mem 192 (by decide +kernel) (by decide +kernel)
theorem lkX1_65 : Cond.methodLink RX1 65 yX0_isWay ∈ gw := gw_mem 205 (by decide +kernel) (by decide +kernel)
theorem lkX1_69 : Cond.methodLink RX1 69 yX0_isDown ∈ gw := gw_mem 209 (by decide +kernel) (by decide +kernel)
theorem lkX1_72 : Cond.methodLink RX1 72 yX0_takenFrom ∈ gw := gw_mem 213 (by decide +kernel) (by decide +kernel)
theorem lkX1_78 : Cond.methodLink RX1 78 yX0_take ∈ gw := gw_mem 220 (by decide +kernel) (by decide +kernel)
theorem lkX1_81 : Cond.methodLink RX1 81 yX0_stateOf ∈ gw := gw_mem 264 (by decide +kernel) (by decide +kernel)
theorem lkX1_85 : Cond.methodLink RX1 85 yX0_crash ∈ gw := gw_mem 269 (by decide +kernel) (by decide +kernel)
theorem lkX1_92 : Cond.methodLink RX1 92 yJ6_bitCount_0f7a4 ∈ gw := gw_mem 273 (by decide +kernel) (by decide +kernel)
theorem lkX1_97 : Cond.methodLink RX1 97 yX0_raiseAll ∈ gw := gw_mem 278 (by decide +kernel) (by decide +kernel)
theorem lkX1_107 : Cond.methodLink RX1 107 yX0_become ∈ gw := gw_mem 166 (by decide +kernel) (by decide +kernel)
theorem lkX1_111 : Cond.methodLink RX1 111 yX0_heldBy ∈ gw := gw_mem 321 (by decide +kernel) (by decide +kernel)
theorem lkX1_114 : Cond.methodLink RX1 114 yX0_lettersBy ∈ gw := gw_mem 322 (by decide +kernel) (by decide +kernel)
theorem lkX1_117 : Cond.methodLink RX1 117 yX0_isReceipt ∈ gw := gw_mem 330 (by decide +kernel) (by decide +kernel)
theorem lkX1_120 : Cond.methodLink RX1 120 yX0_codeOf ∈ gw := gw_mem 334 (by decide +kernel) (by decide +kernel)
theorem lkX1_132 : Cond.methodLink RX1 132 yX0_holdersOf ∈ gw := gw_mem 335 (by decide +kernel) (by decide +kernel)
theorem lkX1_135 : Cond.methodLink RX1 135 yX0_isSafe ∈ gw := gw_mem 339 (by decide +kernel) (by decide +kernel)
theorem lkX1_141 : Cond.methodLink RX1 141 yX0_letterOn ∈ gw := gw_mem 348 (by decide +kernel) (by decide +kernel)
theorem lkX1_154 : Cond.methodLink RX1 154 yX1_numberAt ∈ gw := gw_mem 353 (by decide +kernel) (by decide +kernel)
theorem lkX1_157 : Cond.methodLink RX1 157 yX0_holdersKnown ∈ gw := gw_mem 360 (by decide +kernel) (by decide +kernel)
theorem lkX1_160 : Cond.methodLink RX1 160 yX0_allSites ∈ gw := gw_mem 369 (by decide +kernel) (by decide +kernel)
theorem lkX1_163 : Cond.methodLink RX1 163 yX0_keptIfDown ∈ gw := gw_mem 373 (by decide +kernel) (by decide +kernel)
theorem lkX1_166 : Cond.methodLink RX1 166 yX0_lostBut ∈ gw := gw_mem 374 (by decide +kernel) (by decide +kernel)
theorem lkX1_169 : Cond.methodLink RX1 169 yX0_orphansBut ∈ gw := gw_mem 375 (by decide +kernel) (by decide +kernel)
theorem lkX1_177 : Cond.methodLink RX1 177 yX1_possibleSets ∈ gw := gw_mem 398 (by decide +kernel) (by decide +kernel)
theorem lkX1_180 : Cond.methodLink RX1 180 yX1_mostAlike ∈ gw := gw_mem 411 (by decide +kernel) (by decide +kernel)
theorem lkX1_183 : Cond.methodLink RX1 183 yX0_allReceipts ∈ gw := gw_mem 420 (by decide +kernel) (by decide +kernel)
theorem lkX1_189 : Cond.methodLink RX1 189 yX0_allLetters ∈ gw := gw_mem 429 (by decide +kernel) (by decide +kernel)
theorem lkX1_192 : Cond.methodLink RX1 192 yX0_safeReceipts ∈ gw := gw_mem 434 (by decide +kernel) (by decide +kernel)
theorem lkX1_195 : Cond.methodLink RX1 195 yX0_allCarried ∈ gw := gw_mem 439 (by decide +kernel) (by decide +kernel)
theorem lkX1_201 : Cond.methodLink RX1 201 yX1_agreesWithSeen ∈ gw := gw_mem 402 (by decide +kernel) (by decide +kernel)
theorem lkX1_204 : Cond.methodLink RX1 204 yX0_receiptsIn ∈ gw := gw_mem 406 (by decide +kernel) (by decide +kernel)
theorem lkX1_207 : Cond.methodLink RX1 207 yJ7_fill_53178 ∈ gw := gw_mem 415 (by decide +kernel) (by decide +kernel)
theorem lkX0_45 : Cond.methodLink RX0 45 yX0_start ∈ gw := gw_mem 61 (by decide +kernel) (by decide +kernel)
theorem lkX0_59 : Cond.methodLink RX0 59 yJ7_fill_53178 ∈ gw := gw_mem 65 (by decide +kernel) (by decide +kernel)
theorem lkX0_71 : Cond.methodLink RX0 71 yX0_codesOf ∈ gw := gw_mem 286 (by decide +kernel) (by decide +kernel)
theorem lkX0_75 : Cond.methodLink RX0 75 yJ6_bitCount_0f7a4 ∈ gw := gw_mem 257 (by decide +kernel) (by decide +kernel)
theorem lkX0_80 : Cond.methodLink RX0 80 yX0_wayOf ∈ gw := gw_mem 189 (by decide +kernel) (by decide +kernel)
theorem lkX0_84 : Cond.methodLink RX0 84 yX0_isSite ∈ gw := gw_mem 200 (by decide +kernel) (by decide +kernel)
theorem lkX0_88 : Cond.methodLink RX0 88 yX0_codeOf ∈ gw := gw_mem 217 (by decide +kernel) (by decide +kernel)
theorem lkX0_91 : Cond.methodLink RX0 91 yX0_lettersOn ∈ gw := gw_mem 196 (by decide +kernel) (by decide +kernel)
theorem lkX0_94 : Cond.methodLink RX0 94 yX0_lettersBy ∈ gw := gw_mem 433 (by decide +kernel) (by decide +kernel)
theorem lkX0_97 : Cond.methodLink RX0 97 yX0_carriedOn ∈ gw := gw_mem 443 (by decide +kernel) (by decide +kernel)
theorem lkX0_100 : Cond.methodLink RX0 100 yX0_letterOn ∈ gw := gw_mem 197 (by decide +kernel) (by decide +kernel)
theorem lkX0_104 : Cond.methodLink RX0 104 yX0_heldBy ∈ gw := gw_mem 249 (by decide +kernel) (by decide +kernel)
theorem lkX0_107 : Cond.methodLink RX0 107 yX0_holdersOf ∈ gw := gw_mem 343 (by decide +kernel) (by decide +kernel)
theorem lkX0_110 : Cond.methodLink RX0 110 yX0_isSafe ∈ gw := gw_mem 438 (by decide +kernel) (by decide +kernel)
theorem lkX0_113 : Cond.methodLink RX0 113 yX0_holdersKnown ∈ gw := gw_mem 253 (by decide +kernel) (by decide +kernel)
theorem lkX0_116 : Cond.methodLink RX0 116 yX0_takenFrom ∈ gw := gw_mem 224 (by decide +kernel) (by decide +kernel)
theorem lkX0_119 : Cond.methodLink RX0 119 yX0_stateOf ∈ gw := gw_mem 225 (by decide +kernel) (by decide +kernel)
theorem lkX0_122 : Cond.methodLink RX0 122 yX0_pastAhead ∈ gw := gw_mem 229 (by decide +kernel) (by decide +kernel)
theorem lkX0_125 : Cond.methodLink RX0 125 yX0_pastOfBirth ∈ gw := gw_mem 233 (by decide +kernel) (by decide +kernel)
theorem lkX0_128 : Cond.methodLink RX0 128 yX0_learn ∈ gw := gw_mem 237 (by decide +kernel) (by decide +kernel)
theorem lkX0_132 : Cond.methodLink RX0 132 yX0_answer ∈ gw := gw_mem 241 (by decide +kernel) (by decide +kernel)
theorem lkX0_135 : Cond.methodLink RX0 135 yX0_unsafeFor ∈ gw := gw_mem 245 (by decide +kernel) (by decide +kernel)
theorem lkX0_138 : Cond.methodLink RX0 138 yX0_write ∈ gw := gw_mem 263 (by decide +kernel) (by decide +kernel)
theorem lkX0_142 : Cond.methodLink RX0 142 yX0_allReceipts ∈ gw := gw_mem 293 (by decide +kernel) (by decide +kernel)
theorem lkX0_146 : Cond.methodLink RX0 146 yX0_receiptsIn ∈ gw := gw_mem 297 (by decide +kernel) (by decide +kernel)
theorem lkX0_149 : Cond.methodLink RX0 149 yX0_keptIfDown ∈ gw := gw_mem 282 (by decide +kernel) (by decide +kernel)
theorem lkX0_152 : Cond.methodLink RX0 152 yX0_lostBut ∈ gw := gw_mem 289 (by decide +kernel) (by decide +kernel)
theorem lkX0_155 : Cond.methodLink RX0 155 yX0_keepLettersOn ∈ gw := gw_mem 300 (by decide +kernel) (by decide +kernel)
theorem lkX0_158 : Cond.methodLink RX0 158 yX0_tellTheRaised ∈ gw := gw_mem 304 (by decide +kernel) (by decide +kernel)
theorem lkX0_161 : Cond.methodLink RX0 161 yX0_isDown ∈ gw := gw_mem 308 (by decide +kernel) (by decide +kernel)
theorem lkX0_164 : Cond.methodLink RX0 164 yX0_learnAll ∈ gw := gw_mem 309 (by decide +kernel) (by decide +kernel)
theorem lkL_13 : Cond.methodLink RL 13 yX1_begins ∈ gw := gw_mem 158 (by decide +kernel) (by decide +kernel)
theorem lkL_17 : Cond.methodLink RL 17 yX2_begins ∈ gw := gw_mem 489 (by decide +kernel) (by decide +kernel)
theorem lkL_18 : Cond.methodLink RL 18 yX1_puts ∈ gw := gw_mem 177 (by decide +kernel) (by decide +kernel)
theorem lkL_21 : Cond.methodLink RL 21 yX2_puts ∈ gw := gw_mem 500 (by decide +kernel) (by decide +kernel)
theorem lkL_22 : Cond.methodLink RL 22 yX1_receives ∈ gw := gw_mem 201 (by decide +kernel) (by decide +kernel)
theorem lkL_25 : Cond.methodLink RL 25 yX2_receives ∈ gw := gw_mem 526 (by decide +kernel) (by decide +kernel)
theorem lkL_26 : Cond.methodLink RL 26 yX1_crashes ∈ gw := gw_mem 265 (by decide +kernel) (by decide +kernel)
theorem lkL_30 : Cond.methodLink RL 30 yX2_crashes ∈ gw := gw_mem 575 (by decide +kernel) (by decide +kernel)
theorem lkL_31 : Cond.methodLink RL 31 yX1_raises ∈ gw := gw_mem 274 (by decide +kernel) (by decide +kernel)
theorem lkL_35 : Cond.methodLink RL 35 yX2_raises ∈ gw := gw_mem 579 (by decide +kernel) (by decide +kernel)
theorem lkL_36 : Cond.methodLink RL 36 yX1_undo ∈ gw := gw_mem 313 (by decide +kernel) (by decide +kernel)
theorem lkL_39 : Cond.methodLink RL 39 yX2_undo ∈ gw := gw_mem 615 (by decide +kernel) (by decide +kernel)
theorem lkL_40 : Cond.methodLink RL 40 yX1_site ∈ gw := gw_mem 317 (by decide +kernel) (by decide +kernel)
theorem lkL_43 : Cond.methodLink RL 43 yX2_site ∈ gw := gw_mem 619 (by decide +kernel) (by decide +kernel)
theorem lkL_44 : Cond.methodLink RL 44 yX1_receipt ∈ gw := gw_mem 326 (by decide +kernel) (by decide +kernel)
theorem lkL_48 : Cond.methodLink RL 48 yX2_receipt ∈ gw := gw_mem 627 (by decide +kernel) (by decide +kernel)
theorem lkL_49 : Cond.methodLink RL 49 yX1_letter ∈ gw := gw_mem 344 (by decide +kernel) (by decide +kernel)
theorem lkL_53 : Cond.methodLink RL 53 yX2_letter ∈ gw := gw_mem 647 (by decide +kernel) (by decide +kernel)
theorem lkL_54 : Cond.methodLink RL 54 yX1_carries ∈ gw := gw_mem 349 (by decide +kernel) (by decide +kernel)
theorem lkL_57 : Cond.methodLink RL 57 yX2_carries ∈ gw := gw_mem 651 (by decide +kernel) (by decide +kernel)
theorem lkL_58 : Cond.methodLink RL 58 yX1_knows ∈ gw := gw_mem 356 (by decide +kernel) (by decide +kernel)
theorem lkL_61 : Cond.methodLink RL 61 yX2_knows ∈ gw := gw_mem 658 (by decide +kernel) (by decide +kernel)
theorem lkL_62 : Cond.methodLink RL 62 yX1_past ∈ gw := gw_mem 361 (by decide +kernel) (by decide +kernel)
theorem lkL_65 : Cond.methodLink RL 65 yX2_past ∈ gw := gw_mem 662 (by decide +kernel) (by decide +kernel)
theorem lkL_66 : Cond.methodLink RL 66 yX1_risk ∈ gw := gw_mem 365 (by decide +kernel) (by decide +kernel)
theorem lkL_69 : Cond.methodLink RL 69 yX2_risk ∈ gw := gw_mem 666 (by decide +kernel) (by decide +kernel)
theorem lkL_70 : Cond.methodLink RL 70 yX1_worst ∈ gw := gw_mem 379 (by decide +kernel) (by decide +kernel)
theorem lkL_73 : Cond.methodLink RL 73 yX2_worst ∈ gw := gw_mem 674 (by decide +kernel) (by decide +kernel)
theorem lkL_74 : Cond.methodLink RL 74 yX1_sees ∈ gw := gw_mem 386 (by decide +kernel) (by decide +kernel)
theorem lkL_77 : Cond.methodLink RL 77 yX2_sees ∈ gw := gw_mem 678 (by decide +kernel) (by decide +kernel)
theorem lkL_78 : Cond.methodLink RL 78 yX1_forget ∈ gw := gw_mem 390 (by decide +kernel) (by decide +kernel)
theorem lkL_81 : Cond.methodLink RL 81 yX2_forget ∈ gw := gw_mem 682 (by decide +kernel) (by decide +kernel)
theorem lkL_82 : Cond.methodLink RL 82 yX1_which ∈ gw := gw_mem 394 (by decide +kernel) (by decide +kernel)
theorem lkL_85 : Cond.methodLink RL 85 yX2_which ∈ gw := gw_mem 686 (by decide +kernel) (by decide +kernel)
theorem lkL_86 : Cond.methodLink RL 86 yX1_ask ∈ gw := gw_mem 407 (by decide +kernel) (by decide +kernel)
theorem lkL_89 : Cond.methodLink RL 89 yX2_ask ∈ gw := gw_mem 694 (by decide +kernel) (by decide +kernel)
theorem lkL_90 : Cond.methodLink RL 90 yX1_keep ∈ gw := gw_mem 416 (by decide +kernel) (by decide +kernel)
theorem lkL_93 : Cond.methodLink RL 93 yX2_keep ∈ gw := gw_mem 703 (by decide +kernel) (by decide +kernel)
theorem lkL_94 : Cond.methodLink RL 94 yX1_back ∈ gw := gw_mem 421 (by decide +kernel) (by decide +kernel)
theorem lkL_97 : Cond.methodLink RL 97 yX2_back ∈ gw := gw_mem 711 (by decide +kernel) (by decide +kernel)
theorem lkL_98 : Cond.methodLink RL 98 yX1_count ∈ gw := gw_mem 425 (by decide +kernel) (by decide +kernel)
theorem lkL_101 : Cond.methodLink RL 101 yX2_count ∈ gw := gw_mem 715 (by decide +kernel) (by decide +kernel)
theorem lkX2_35 : Cond.methodLink RX2 35 yX2_start ∈ gw := gw_mem 453 (by decide +kernel) (by decide +kernel)
theorem lkX2_39 : Cond.methodLink RX2 39 yX2_has ∈ gw := gw_mem 550 (by decide +kernel) (by decide +kernel)
theorem lkX2_43 : Cond.methodLink RX2 43 yX2_in ∈ gw := gw_mem 493 (by decide +kernel) (by decide +kernel)
theorem lkX2_47 : Cond.methodLink RX2 47 yX2_receipts ∈ gw := gw_mem 538 (by decide +kernel) (by decide +kernel)
theorem lkX2_51 : Cond.methodLink RX2 51 yX2_ofReceipt ∈ gw := gw_mem 542 (by decide +kernel) (by decide +kernel)
theorem lkX2_55 : Cond.methodLink RX2 55 yX2_way ∈ gw := gw_mem 516 (by decide +kernel) (by decide +kernel)
theorem lkX2_59 : Cond.methodLink RX2 59 yX2_knownIn ∈ gw := gw_mem 565 (by decide +kernel) (by decide +kernel)
theorem lkX2_62 : Cond.methodLink RX2 62 yX2_letters ∈ gw := gw_mem 512 (by decide +kernel) (by decide +kernel)
theorem lkX2_65 : Cond.methodLink RX2 65 yX2_letterAt ∈ gw := gw_mem 523 (by decide +kernel) (by decide +kernel)
theorem lkX2_72 : Cond.methodLink RX2 72 yX2_note ∈ gw := gw_mem 496 (by decide +kernel) (by decide +kernel)
theorem lkX2_78 : Cond.methodLink RX2 78 yX2_isSite ∈ gw := gw_mem 504 (by decide +kernel) (by decide +kernel)
theorem lkX2_82 : Cond.methodLink RX2 82 yX2_many ∈ gw := gw_mem 508 (by decide +kernel) (by decide +kernel)
theorem lkX2_86 : Cond.methodLink RX2 86 yX2_write ∈ gw := gw_mem 519 (by decide +kernel) (by decide +kernel)
theorem lkX2_90 : Cond.methodLink RX2 90 yX2_isWay ∈ gw := gw_mem 530 (by decide +kernel) (by decide +kernel)
theorem lkX2_93 : Cond.methodLink RX2 93 yX2_had ∈ gw := gw_mem 534 (by decide +kernel) (by decide +kernel)
theorem lkX2_96 : Cond.methodLink RX2 96 yX2_isDown ∈ gw := gw_mem 546 (by decide +kernel) (by decide +kernel)
theorem lkX2_99 : Cond.methodLink RX2 99 yX2_stateOf ∈ gw := gw_mem 553 (by decide +kernel) (by decide +kernel)
theorem lkX2_102 : Cond.methodLink RX2 102 yX2_know ∈ gw := gw_mem 557 (by decide +kernel) (by decide +kernel)
theorem lkX2_106 : Cond.methodLink RX2 106 yX2_knownBy ∈ gw := gw_mem 561 (by decide +kernel) (by decide +kernel)
theorem lkX2_109 : Cond.methodLink RX2 109 yX2_answer ∈ gw := gw_mem 568 (by decide +kernel) (by decide +kernel)
theorem lkX2_112 : Cond.methodLink RX2 112 yX2_bits ∈ gw := gw_mem 572 (by decide +kernel) (by decide +kernel)
theorem lkX2_115 : Cond.methodLink RX2 115 yX2_heldBut ∈ gw := gw_mem 587 (by decide +kernel) (by decide +kernel)
theorem lkX2_118 : Cond.methodLink RX2 118 yX2_birthOf ∈ gw := gw_mem 591 (by decide +kernel) (by decide +kernel)
theorem lkX2_121 : Cond.methodLink RX2 121 yX2_isKeptCode ∈ gw := gw_mem 595 (by decide +kernel) (by decide +kernel)
theorem lkX2_124 : Cond.methodLink RX2 124 yX2_findKept ∈ gw := gw_mem 583 (by decide +kernel) (by decide +kernel)
theorem lkX2_128 : Cond.methodLink RX2 128 yX2_lost ∈ gw := gw_mem 599 (by decide +kernel) (by decide +kernel)
theorem lkX2_131 : Cond.methodLink RX2 131 yX2_codesKept ∈ gw := gw_mem 603 (by decide +kernel) (by decide +kernel)
theorem lkX2_134 : Cond.methodLink RX2 134 yX2_dropLetters ∈ gw := gw_mem 607 (by decide +kernel) (by decide +kernel)
theorem lkX2_137 : Cond.methodLink RX2 137 yX2_raiseAll ∈ gw := gw_mem 611 (by decide +kernel) (by decide +kernel)
theorem lkX2_140 : Cond.methodLink RX2 140 yX2_written ∈ gw := gw_mem 623 (by decide +kernel) (by decide +kernel)
theorem lkX2_143 : Cond.methodLink RX2 143 yX2_holders ∈ gw := gw_mem 635 (by decide +kernel) (by decide +kernel)
theorem lkX2_146 : Cond.methodLink RX2 146 yX2_isReceipt ∈ gw := gw_mem 631 (by decide +kernel) (by decide +kernel)
theorem lkX2_149 : Cond.methodLink RX2 149 yX2_isSafe ∈ gw := gw_mem 639 (by decide +kernel) (by decide +kernel)
theorem lkX2_152 : Cond.methodLink RX2 152 yX2_pastOf ∈ gw := gw_mem 643 (by decide +kernel) (by decide +kernel)
theorem lkX2_155 : Cond.methodLink RX2 155 yX2_nth ∈ gw := gw_mem 655 (by decide +kernel) (by decide +kernel)
theorem lkX2_158 : Cond.methodLink RX2 158 yX2_orphans ∈ gw := gw_mem 670 (by decide +kernel) (by decide +kernel)
theorem lkX2_161 : Cond.methodLink RX2 161 yX2_fits ∈ gw := gw_mem 690 (by decide +kernel) (by decide +kernel)
theorem lkX2_164 : Cond.methodLink RX2 164 yX2_which ∈ gw := gw_mem 698 (by decide +kernel) (by decide +kernel)
theorem lkX2_167 : Cond.methodLink RX2 167 yX2_greatest ∈ gw := gw_mem 699 (by decide +kernel) (by decide +kernel)
theorem lkX2_170 : Cond.methodLink RX2 170 yX2_allReceipts ∈ gw := gw_mem 707 (by decide +kernel) (by decide +kernel)
theorem lkX2_173 : Cond.methodLink RX2 173 yX2_allLetters ∈ gw := gw_mem 719 (by decide +kernel) (by decide +kernel)
theorem lkX2_176 : Cond.methodLink RX2 176 yX2_allSafe ∈ gw := gw_mem 723 (by decide +kernel) (by decide +kernel)
theorem lkX2_179 : Cond.methodLink RX2 179 yX2_allCarried ∈ gw := gw_mem 727 (by decide +kernel) (by decide +kernel)
theorem cnV {ks : List Nat} {m : MD} {y : MethodName} {n : Nat} {av : List V} {S : St} {Q : Option Int32 → St → Prop} (ok : OkV y m n) (k : Nat) (hk : av.length + k = m.2.2.1) (h : Ev ks m 0 (av.map some ++ List.replicate k none) [] S Q) : Cn ks m y av S Q := Cn.of ok.1.2.2.2.2.1 ok.1.2.2.2.2.2 k hk h
theorem cnS {ks : List Nat} {m : MD} {y : MethodName} {n : Nat} {av : List V} {S : St} {Q : Option Int32 → St → Prop} (ok : OkS y m n) (k : Nat) (hk : av.length + k = m.2.2.1) (h : Ev ks m 0 (av.map some ++ List.replicate k none) [] S Q) : Cn ks m y av S Q := Cn.of ok.1.2.2.2.2.1 ok.1.2.2.2.2.2 k hk h
section EV
variable {ks : List Nat} {m : MD} {pc : Nat} {L : List (Option V)} {sk : List V} {S : St} {Q : Option Int32 → St → Prop}
theorem fkX1_12 : Cond.fieldLink RX1 12 RX1 (TX1 0).2.1 (TX1 0).2.2.1 ∈ gw := gw_mem 124 (by decide +kernel) (by decide +kernel)
theorem gfX1_12 (hm : m.1 = RX1) (hk : 96 ∈ ks) (hd : decode m.2.1 pc = .ok (.getfield 12, 3)) (kk : Ev ks m (pc + 3) L (.inr 0 :: sk) S Q) : Ev ks m pc L (.inr 96 :: sk) S Q := ev_getf hm fkX1_12 rfl igX1 (rfl : cls3[1]? = some (RX1, TX1, 11)) (by decide) hk (fun g => ⟨_, rfl, rfl⟩) hd kk
theorem fkX1_16 : Cond.fieldLink RX1 16 RX1 (TX1 1).2.1 (TX1 1).2.2.1 ∈ gw := gw_mem 125 (by decide +kernel) (by decide +kernel)
theorem gfX1_16 (hm : m.1 = RX1) (hk : 96 ∈ ks) (hd : decode m.2.1 pc = .ok (.getfield 16, 3)) (kk : Ev ks m (pc + 3) L (.inr 97 :: sk) S Q) : Ev ks m pc L (.inr 96 :: sk) S Q := ev_getf hm fkX1_16 rfl igX1 (rfl : cls3[1]? = some (RX1, TX1, 11)) (by decide) hk (fun g => ⟨_, rfl, rfl⟩) hd kk
theorem fkX1_20 : Cond.fieldLink RX1 20 RX1 (TX1 4).2.1 (TX1 4).2.2.1 ∈ gw := gw_mem 128 (by decide +kernel) (by decide +kernel)
theorem gfX1_20 (hm : m.1 = RX1) (hk : 96 ∈ ks) (hd : decode m.2.1 pc = .ok (.getfield 20, 3)) (kk : Ev ks m (pc + 3) L (.inr 98 :: sk) S Q) : Ev ks m pc L (.inr 96 :: sk) S Q := ev_getf hm fkX1_20 rfl igX1 (rfl : cls3[1]? = some (RX1, TX1, 11)) (by decide) hk (fun g => ⟨_, rfl, rfl⟩) hd kk
theorem fkX1_23 : Cond.fieldLink RX1 23 RX1 (TX1 6).2.1 (TX1 6).2.2.1 ∈ gw := gw_mem 130 (by decide +kernel) (by decide +kernel)
theorem gfX1_23 (hm : m.1 = RX1) (hk : 96 ∈ ks) (hd : decode m.2.1 pc = .ok (.getfield 23, 3)) (kk : Ev ks m (pc + 3) L (.inr 99 :: sk) S Q) : Ev ks m pc L (.inr 96 :: sk) S Q := ev_getf hm fkX1_23 rfl igX1 (rfl : cls3[1]? = some (RX1, TX1, 11)) (by decide) hk (fun g => ⟨_, rfl, rfl⟩) hd kk
theorem fkX1_27 : Cond.fieldLink RX1 27 RX1 (TX1 7).2.1 (TX1 7).2.2.1 ∈ gw := gw_mem 131 (by decide +kernel) (by decide +kernel)
theorem gfX1_27 (hm : m.1 = RX1) (hk : 96 ∈ ks) (hd : decode m.2.1 pc = .ok (.getfield 27, 3)) (kk : Ev ks m (pc + 3) L (.inr 100 :: sk) S Q) : Ev ks m pc L (.inr 96 :: sk) S Q := ev_getf hm fkX1_27 rfl igX1 (rfl : cls3[1]? = some (RX1, TX1, 11)) (by decide) hk (fun g => ⟨_, rfl, rfl⟩) hd kk
theorem fkX1_30 : Cond.fieldLink RX1 30 RX1 (TX1 9).2.1 (TX1 9).2.2.1 ∈ gw := gw_mem 133 (by decide +kernel) (by decide +kernel)
theorem gfX1_30 (hm : m.1 = RX1) (hk : 96 ∈ ks) (hd : decode m.2.1 pc = .ok (.getfield 30, 3)) (kk : Ev ks m (pc + 3) L (.inr 101 :: sk) S Q) : Ev ks m pc L (.inr 96 :: sk) S Q := ev_getf hm fkX1_30 rfl igX1 (rfl : cls3[1]? = some (RX1, TX1, 11)) (by decide) hk (fun g => ⟨_, rfl, rfl⟩) hd kk
theorem fkX1_33 : Cond.fieldLink RX1 33 RX1 (TX1 10).2.1 (TX1 10).2.2.1 ∈ gw := gw_mem 134 (by decide +kernel) (by decide +kernel)
theorem gfX1_33 (hm : m.1 = RX1) (hk : 96 ∈ ks) (hd : decode m.2.1 pc = .ok (.getfield 33, 3)) (kk : Ev ks m (pc + 3) L (.inr 102 :: sk) S Q) : Ev ks m pc L (.inr 96 :: sk) S Q := ev_getf hm fkX1_33 rfl igX1 (rfl : cls3[1]? = some (RX1, TX1, 11)) (by decide) hk (fun g => ⟨_, rfl, rfl⟩) hd kk
theorem fkX1_43 : Cond.fieldLink RX1 43 RX1 (TX1 8).2.1 (TX1 8).2.2.1 ∈ gw := gw_mem 132 (by decide +kernel) (by decide +kernel)
theorem gfX1_43 (hm : m.1 = RX1) (hk : 96 ∈ ks) (hd : decode m.2.1 pc = .ok (.getfield 43, 3)) (kk : Ev ks m (pc + 3) L (.inl (S 96 8) :: sk) S Q) : Ev ks m pc L (.inr 96 :: sk) S Q := ev_getf hm fkX1_43 rfl igX1 (rfl : cls3[1]? = some (RX1, TX1, 11)) (by decide) hk (fun g => ⟨_, rfl, rfl⟩) hd kk
theorem pfX1_43 {x : Int32} (hm : m.1 = RX1) (hk : 96 ∈ ks) (hd : decode m.2.1 pc = .ok (.putfield 43, 3)) (kk : Ev ks m (pc + 3) L sk (st S 96 8 x) Q) : Ev ks m pc L (.inl x :: .inr 96 :: sk) S Q := ev_putf hm fkX1_43 rfl igX1 (rfl : cls3[1]? = some (RX1, TX1, 11)) tyX1_ok nmX1 rfl rfl (by decide) hk (fun g => ⟨_, rfl, Nat.le_of_ble_eq_true rfl, rfl⟩) hd kk
theorem fkX1_47 : Cond.fieldLink RX1 47 RX1 (TX1 5).2.1 (TX1 5).2.2.1 ∈ gw := gw_mem 129 (by decide +kernel) (by decide +kernel)
theorem gfX1_47 (hm : m.1 = RX1) (hk : 96 ∈ ks) (hd : decode m.2.1 pc = .ok (.getfield 47, 3)) (kk : Ev ks m (pc + 3) L (.inl (S 96 5) :: sk) S Q) : Ev ks m pc L (.inr 96 :: sk) S Q := ev_getf hm fkX1_47 rfl igX1 (rfl : cls3[1]? = some (RX1, TX1, 11)) (by decide) hk (fun g => ⟨_, rfl, rfl⟩) hd kk
theorem pfX1_47 {x : Int32} (hm : m.1 = RX1) (hk : 96 ∈ ks) (hd : decode m.2.1 pc = .ok (.putfield 47, 3)) (kk : Ev ks m (pc + 3) L sk (st S 96 5 x) Q) : Ev ks m pc L (.inl x :: .inr 96 :: sk) S Q := ev_putf hm fkX1_47 rfl igX1 (rfl : cls3[1]? = some (RX1, TX1, 11)) tyX1_ok nmX1 rfl rfl (by decide) hk (fun g => ⟨_, rfl, Nat.le_of_ble_eq_true rfl, rfl⟩) hd kk
theorem fkX1_54 : Cond.fieldLink RX1 54 RX0 (TX0 0).2.1 (TX0 0).2.2.1 ∈ gw := gw_mem 69 (by decide +kernel) (by decide +kernel)
theorem gfX1_54 (hm : m.1 = RX1) (hk : 0 ∈ ks) (hd : decode m.2.1 pc = .ok (.getfield 54, 3)) (kk : Ev ks m (pc + 3) L (.inl (S 0 0) :: sk) S Q) : Ev ks m pc L (.inr 0 :: sk) S Q := ev_getf hm fkX1_54 rfl igX0 (rfl : cls3[0]? = some (RX0, TX0, 14)) (by decide) hk (fun g => ⟨_, rfl, rfl⟩) hd kk
theorem pfX1_54 {x : Int32} (hm : m.1 = RX1) (hk : 0 ∈ ks) (hd : decode m.2.1 pc = .ok (.putfield 54, 3)) (kk : Ev ks m (pc + 3) L sk (st S 0 0 x) Q) : Ev ks m pc L (.inl x :: .inr 0 :: sk) S Q := ev_putf hm fkX1_54 rfl igX0 (rfl : cls3[0]? = some (RX0, TX0, 14)) tyX0_ok nmX0 rfl rfl (by decide) hk (fun g => ⟨_, rfl, Nat.le_of_ble_eq_true rfl, rfl⟩) hd kk
theorem fkX1_75 : Cond.fieldLink RX1 75 RX0 (TX0 3).2.1 (TX0 3).2.2.1 ∈ gw := gw_mem 75 (by decide +kernel) (by decide +kernel)
theorem gfX1_75 (hm : m.1 = RX1) (hk : 0 ∈ ks) (hd : decode m.2.1 pc = .ok (.getfield 75, 3)) (kk : Ev ks m (pc + 3) L (.inr 1 :: sk) S Q) : Ev ks m pc L (.inr 0 :: sk) S Q := ev_getf hm fkX1_75 rfl igX0 (rfl : cls3[0]? = some (RX0, TX0, 14)) (by decide) hk (fun g => ⟨_, rfl, rfl⟩) hd kk
theorem fkX1_89 : Cond.fieldLink RX1 89 RX0 (TX0 2).2.1 (TX0 2).2.2.1 ∈ gw := gw_mem 73 (by decide +kernel) (by decide +kernel)
theorem gfX1_89 (hm : m.1 = RX1) (hk : 0 ∈ ks) (hd : decode m.2.1 pc = .ok (.getfield 89, 3)) (kk : Ev ks m (pc + 3) L (.inl (S 0 2) :: sk) S Q) : Ev ks m pc L (.inr 0 :: sk) S Q := ev_getf hm fkX1_89 rfl igX0 (rfl : cls3[0]? = some (RX0, TX0, 14)) (by decide) hk (fun g => ⟨_, rfl, rfl⟩) hd kk
theorem pfX1_89 {x : Int32} (hm : m.1 = RX1) (hk : 0 ∈ ks) (hd : decode m.2.1 pc = .ok (.putfield 89, 3)) (kk : Ev ks m (pc + 3) L sk (st S 0 2 x) Q) : Ev ks m pc L (.inl x :: .inr 0 :: sk) S Q := ev_putf hm fkX1_89 rfl igX0 (rfl : cls3[0]? = some (RX0, TX0, 14)) tyX0_ok nmX0 rfl rfl (by decide) hk (fun g => ⟨_, rfl, Nat.le_of_ble_eq_true rfl, rfl⟩) hd kk
theorem fkX1_101 : Cond.fieldLink RX1 101 RX1 (TX1 3).2.1 (TX1 3).2.2.1 ∈ gw := gw_mem 127 (by decide +kernel) (by decide +kernel)
theorem gfX1_101 (hm : m.1 = RX1) (hk : 96 ∈ ks) (hd : decode m.2.1 pc = .ok (.getfield 101, 3)) (kk : Ev ks m (pc + 3) L (.inl (S 96 3) :: sk) S Q) : Ev ks m pc L (.inr 96 :: sk) S Q := ev_getf hm fkX1_101 rfl igX1 (rfl : cls3[1]? = some (RX1, TX1, 11)) (by decide) hk (fun g => ⟨_, rfl, rfl⟩) hd kk
theorem pfX1_101 {x : Int32} (hm : m.1 = RX1) (hk : 96 ∈ ks) (hd : decode m.2.1 pc = .ok (.putfield 101, 3)) (kk : Ev ks m (pc + 3) L sk (st S 96 3 x) Q) : Ev ks m pc L (.inl x :: .inr 96 :: sk) S Q := ev_putf hm fkX1_101 rfl igX1 (rfl : cls3[1]? = some (RX1, TX1, 11)) tyX1_ok nmX1 rfl rfl (by decide) hk (fun g => ⟨_, rfl, Nat.le_of_ble_eq_true rfl, rfl⟩) hd kk
theorem fkX1_104 : Cond.fieldLink RX1 104 RX1 (TX1 2).2.1 (TX1 2).2.2.1 ∈ gw := gw_mem 126 (by decide +kernel) (by decide +kernel)
theorem gfX1_104 (hm : m.1 = RX1) (hk : 96 ∈ ks) (hd : decode m.2.1 pc = .ok (.getfield 104, 3)) (kk : Ev ks m (pc + 3) L (.inl (S 96 2) :: sk) S Q) : Ev ks m pc L (.inr 96 :: sk) S Q := ev_getf hm fkX1_104 rfl igX1 (rfl : cls3[1]? = some (RX1, TX1, 11)) (by decide) hk (fun g => ⟨_, rfl, rfl⟩) hd kk
theorem pfX1_104 {x : Int32} (hm : m.1 = RX1) (hk : 96 ∈ ks) (hd : decode m.2.1 pc = .ok (.putfield 104, 3)) (kk : Ev ks m (pc + 3) L sk (st S 96 2 x) Q) : Ev ks m pc L (.inl x :: .inr 96 :: sk) S Q := ev_putf hm fkX1_104 rfl igX1 (rfl : cls3[1]? = some (RX1, TX1, 11)) tyX1_ok nmX1 rfl rfl (by decide) hk (fun g => ⟨_, rfl, Nat.le_of_ble_eq_true rfl, rfl⟩) hd kk
theorem fkX1_123 : Cond.fieldLink RX1 123 RX0 (TX0 4).2.1 (TX0 4).2.2.1 ∈ gw := gw_mem 77 (by decide +kernel) (by decide +kernel)
theorem gfX1_123 (hm : m.1 = RX1) (hk : 0 ∈ ks) (hd : decode m.2.1 pc = .ok (.getfield 123, 3)) (kk : Ev ks m (pc + 3) L (.inr 2 :: sk) S Q) : Ev ks m pc L (.inr 0 :: sk) S Q := ev_getf hm fkX1_123 rfl igX0 (rfl : cls3[0]? = some (RX0, TX0, 14)) (by decide) hk (fun g => ⟨_, rfl, rfl⟩) hd kk
theorem fkX1_126 : Cond.fieldLink RX1 126 RX0 (TX0 5).2.1 (TX0 5).2.2.1 ∈ gw := gw_mem 79 (by decide +kernel) (by decide +kernel)
theorem gfX1_126 (hm : m.1 = RX1) (hk : 0 ∈ ks) (hd : decode m.2.1 pc = .ok (.getfield 126, 3)) (kk : Ev ks m (pc + 3) L (.inr 3 :: sk) S Q) : Ev ks m pc L (.inr 0 :: sk) S Q := ev_getf hm fkX1_126 rfl igX0 (rfl : cls3[0]? = some (RX0, TX0, 14)) (by decide) hk (fun g => ⟨_, rfl, rfl⟩) hd kk
theorem fkX1_129 : Cond.fieldLink RX1 129 RX0 (TX0 6).2.1 (TX0 6).2.2.1 ∈ gw := gw_mem 81 (by decide +kernel) (by decide +kernel)
theorem gfX1_129 (hm : m.1 = RX1) (hk : 0 ∈ ks) (hd : decode m.2.1 pc = .ok (.getfield 129, 3)) (kk : Ev ks m (pc + 3) L (.inr 4 :: sk) S Q) : Ev ks m pc L (.inr 0 :: sk) S Q := ev_getf hm fkX1_129 rfl igX0 (rfl : cls3[0]? = some (RX0, TX0, 14)) (by decide) hk (fun g => ⟨_, rfl, rfl⟩) hd kk
theorem fkX1_138 : Cond.fieldLink RX1 138 RX0 (TX0 7).2.1 (TX0 7).2.2.1 ∈ gw := gw_mem 83 (by decide +kernel) (by decide +kernel)
theorem gfX1_138 (hm : m.1 = RX1) (hk : 0 ∈ ks) (hd : decode m.2.1 pc = .ok (.getfield 138, 3)) (kk : Ev ks m (pc + 3) L (.inr 5 :: sk) S Q) : Ev ks m pc L (.inr 0 :: sk) S Q := ev_getf hm fkX1_138 rfl igX0 (rfl : cls3[0]? = some (RX0, TX0, 14)) (by decide) hk (fun g => ⟨_, rfl, rfl⟩) hd kk
theorem fkX1_145 : Cond.fieldLink RX1 145 RX0 (TX0 9).2.1 (TX0 9).2.2.1 ∈ gw := gw_mem 86 (by decide +kernel) (by decide +kernel)
theorem gfX1_145 (hm : m.1 = RX1) (hk : 0 ∈ ks) (hd : decode m.2.1 pc = .ok (.getfield 145, 3)) (kk : Ev ks m (pc + 3) L (.inr 7 :: sk) S Q) : Ev ks m pc L (.inr 0 :: sk) S Q := ev_getf hm fkX1_145 rfl igX0 (rfl : cls3[0]? = some (RX0, TX0, 14)) (by decide) hk (fun g => ⟨_, rfl, rfl⟩) hd kk
theorem fkX1_148 : Cond.fieldLink RX1 148 RX0 (TX0 10).2.1 (TX0 10).2.2.1 ∈ gw := gw_mem 88 (by decide +kernel) (by decide +kernel)
theorem gfX1_148 (hm : m.1 = RX1) (hk : 0 ∈ ks) (hd : decode m.2.1 pc = .ok (.getfield 148, 3)) (kk : Ev ks m (pc + 3) L (.inr 8 :: sk) S Q) : Ev ks m pc L (.inr 0 :: sk) S Q := ev_getf hm fkX1_148 rfl igX0 (rfl : cls3[0]? = some (RX0, TX0, 14)) (by decide) hk (fun g => ⟨_, rfl, rfl⟩) hd kk
theorem fkX1_151 : Cond.fieldLink RX1 151 RX0 (TX0 11).2.1 (TX0 11).2.2.1 ∈ gw := gw_mem 90 (by decide +kernel) (by decide +kernel)
theorem gfX1_151 (hm : m.1 = RX1) (hk : 0 ∈ ks) (hd : decode m.2.1 pc = .ok (.getfield 151, 3)) (kk : Ev ks m (pc + 3) L (.inr 9 :: sk) S Q) : Ev ks m pc L (.inr 0 :: sk) S Q := ev_getf hm fkX1_151 rfl igX0 (rfl : cls3[0]? = some (RX0, TX0, 14)) (by decide) hk (fun g => ⟨_, rfl, rfl⟩) hd kk
theorem fkX1_186 : Cond.fieldLink RX1 186 RX0 (TX0 1).2.1 (TX0 1).2.2.1 ∈ gw := gw_mem 71 (by decide +kernel) (by decide +kernel)
theorem gfX1_186 (hm : m.1 = RX1) (hk : 0 ∈ ks) (hd : decode m.2.1 pc = .ok (.getfield 186, 3)) (kk : Ev ks m (pc + 3) L (.inl (S 0 1) :: sk) S Q) : Ev ks m pc L (.inr 0 :: sk) S Q := ev_getf hm fkX1_186 rfl igX0 (rfl : cls3[0]? = some (RX0, TX0, 14)) (by decide) hk (fun g => ⟨_, rfl, rfl⟩) hd kk
theorem pfX1_186 {x : Int32} (hm : m.1 = RX1) (hk : 0 ∈ ks) (hd : decode m.2.1 pc = .ok (.putfield 186, 3)) (kk : Ev ks m (pc + 3) L sk (st S 0 1 x) Q) : Ev ks m pc L (.inl x :: .inr 0 :: sk) S Q := ev_putf hm fkX1_186 rfl igX0 (rfl : cls3[0]? = some (RX0, TX0, 14)) tyX0_ok nmX0 rfl rfl (by decide) hk (fun g => ⟨_, rfl, Nat.le_of_ble_eq_true rfl, rfl⟩) hd kk
theorem fkX0_9 : Cond.fieldLink RX0 9 RX0 (TX0 3).2.1 (TX0 3).2.2.1 ∈ gw := gw_mem 74 (by decide +kernel) (by decide +kernel)
theorem gfX0_9 (hm : m.1 = RX0) (hk : 0 ∈ ks) (hd : decode m.2.1 pc = .ok (.getfield 9, 3)) (kk : Ev ks m (pc + 3) L (.inr 1 :: sk) S Q) : Ev ks m pc L (.inr 0 :: sk) S Q := ev_getf hm fkX0_9 rfl igX0 (rfl : cls3[0]? = some (RX0, TX0, 14)) (by decide) hk (fun g => ⟨_, rfl, rfl⟩) hd kk
theorem gkX0_9 {k : Nat} (h96 : k < 96) (h12 : k % 12 = 0) (hm : m.1 = RX0) (hk : k ∈ ks) (hd : decode m.2.1 pc = .ok (.getfield 9, 3)) (kk : Ev ks m (pc + 3) L (.inr (k + 1) :: sk) S Q) : Ev ks m pc L (.inr k :: sk) S Q := ev_getf hm fkX0_9 rfl igX0 (rfl : cls3[0]? = some (RX0, TX0, 14)) (by decide) hk (fun g => ⟨_, ct_W h96 h12, rfl⟩) hd kk
theorem fkX0_15 : Cond.fieldLink RX0 15 RX0 (TX0 4).2.1 (TX0 4).2.2.1 ∈ gw := gw_mem 76 (by decide +kernel) (by decide +kernel)
theorem gfX0_15 (hm : m.1 = RX0) (hk : 0 ∈ ks) (hd : decode m.2.1 pc = .ok (.getfield 15, 3)) (kk : Ev ks m (pc + 3) L (.inr 2 :: sk) S Q) : Ev ks m pc L (.inr 0 :: sk) S Q := ev_getf hm fkX0_15 rfl igX0 (rfl : cls3[0]? = some (RX0, TX0, 14)) (by decide) hk (fun g => ⟨_, rfl, rfl⟩) hd kk
theorem gkX0_15 {k : Nat} (h96 : k < 96) (h12 : k % 12 = 0) (hm : m.1 = RX0) (hk : k ∈ ks) (hd : decode m.2.1 pc = .ok (.getfield 15, 3)) (kk : Ev ks m (pc + 3) L (.inr (k + 2) :: sk) S Q) : Ev ks m pc L (.inr k :: sk) S Q := ev_getf hm fkX0_15 rfl igX0 (rfl : cls3[0]? = some (RX0, TX0, 14)) (by decide) hk (fun g => ⟨_, ct_W h96 h12, rfl⟩) hd kk
theorem fkX0_18 : Cond.fieldLink RX0 18 RX0 (TX0 5).2.1 (TX0 5).2.2.1 ∈ gw := gw_mem 78 (by decide +kernel) (by decide +kernel)
theorem gfX0_18 (hm : m.1 = RX0) (hk : 0 ∈ ks) (hd : decode m.2.1 pc = .ok (.getfield 18, 3)) (kk : Ev ks m (pc + 3) L (.inr 3 :: sk) S Q) : Ev ks m pc L (.inr 0 :: sk) S Q := ev_getf hm fkX0_18 rfl igX0 (rfl : cls3[0]? = some (RX0, TX0, 14)) (by decide) hk (fun g => ⟨_, rfl, rfl⟩) hd kk
theorem gkX0_18 {k : Nat} (h96 : k < 96) (h12 : k % 12 = 0) (hm : m.1 = RX0) (hk : k ∈ ks) (hd : decode m.2.1 pc = .ok (.getfield 18, 3)) (kk : Ev ks m (pc + 3) L (.inr (k + 3) :: sk) S Q) : Ev ks m pc L (.inr k :: sk) S Q := ev_getf hm fkX0_18 rfl igX0 (rfl : cls3[0]? = some (RX0, TX0, 14)) (by decide) hk (fun g => ⟨_, ct_W h96 h12, rfl⟩) hd kk
theorem fkX0_21 : Cond.fieldLink RX0 21 RX0 (TX0 6).2.1 (TX0 6).2.2.1 ∈ gw := gw_mem 80 (by decide +kernel) (by decide +kernel)
theorem gfX0_21 (hm : m.1 = RX0) (hk : 0 ∈ ks) (hd : decode m.2.1 pc = .ok (.getfield 21, 3)) (kk : Ev ks m (pc + 3) L (.inr 4 :: sk) S Q) : Ev ks m pc L (.inr 0 :: sk) S Q := ev_getf hm fkX0_21 rfl igX0 (rfl : cls3[0]? = some (RX0, TX0, 14)) (by decide) hk (fun g => ⟨_, rfl, rfl⟩) hd kk
theorem gkX0_21 {k : Nat} (h96 : k < 96) (h12 : k % 12 = 0) (hm : m.1 = RX0) (hk : k ∈ ks) (hd : decode m.2.1 pc = .ok (.getfield 21, 3)) (kk : Ev ks m (pc + 3) L (.inr (k + 4) :: sk) S Q) : Ev ks m pc L (.inr k :: sk) S Q := ev_getf hm fkX0_21 rfl igX0 (rfl : cls3[0]? = some (RX0, TX0, 14)) (by decide) hk (fun g => ⟨_, ct_W h96 h12, rfl⟩) hd kk
theorem fkX0_24 : Cond.fieldLink RX0 24 RX0 (TX0 7).2.1 (TX0 7).2.2.1 ∈ gw := gw_mem 82 (by decide +kernel) (by decide +kernel)
theorem gfX0_24 (hm : m.1 = RX0) (hk : 0 ∈ ks) (hd : decode m.2.1 pc = .ok (.getfield 24, 3)) (kk : Ev ks m (pc + 3) L (.inr 5 :: sk) S Q) : Ev ks m pc L (.inr 0 :: sk) S Q := ev_getf hm fkX0_24 rfl igX0 (rfl : cls3[0]? = some (RX0, TX0, 14)) (by decide) hk (fun g => ⟨_, rfl, rfl⟩) hd kk
theorem gkX0_24 {k : Nat} (h96 : k < 96) (h12 : k % 12 = 0) (hm : m.1 = RX0) (hk : k ∈ ks) (hd : decode m.2.1 pc = .ok (.getfield 24, 3)) (kk : Ev ks m (pc + 3) L (.inr (k + 5) :: sk) S Q) : Ev ks m pc L (.inr k :: sk) S Q := ev_getf hm fkX0_24 rfl igX0 (rfl : cls3[0]? = some (RX0, TX0, 14)) (by decide) hk (fun g => ⟨_, ct_W h96 h12, rfl⟩) hd kk
theorem fkX0_27 : Cond.fieldLink RX0 27 RX0 (TX0 8).2.1 (TX0 8).2.2.1 ∈ gw := gw_mem 84 (by decide +kernel) (by decide +kernel)
theorem gfX0_27 (hm : m.1 = RX0) (hk : 0 ∈ ks) (hd : decode m.2.1 pc = .ok (.getfield 27, 3)) (kk : Ev ks m (pc + 3) L (.inr 6 :: sk) S Q) : Ev ks m pc L (.inr 0 :: sk) S Q := ev_getf hm fkX0_27 rfl igX0 (rfl : cls3[0]? = some (RX0, TX0, 14)) (by decide) hk (fun g => ⟨_, rfl, rfl⟩) hd kk
theorem gkX0_27 {k : Nat} (h96 : k < 96) (h12 : k % 12 = 0) (hm : m.1 = RX0) (hk : k ∈ ks) (hd : decode m.2.1 pc = .ok (.getfield 27, 3)) (kk : Ev ks m (pc + 3) L (.inr (k + 6) :: sk) S Q) : Ev ks m pc L (.inr k :: sk) S Q := ev_getf hm fkX0_27 rfl igX0 (rfl : cls3[0]? = some (RX0, TX0, 14)) (by decide) hk (fun g => ⟨_, ct_W h96 h12, rfl⟩) hd kk
theorem fkX0_30 : Cond.fieldLink RX0 30 RX0 (TX0 9).2.1 (TX0 9).2.2.1 ∈ gw := gw_mem 85 (by decide +kernel) (by decide +kernel)
theorem gfX0_30 (hm : m.1 = RX0) (hk : 0 ∈ ks) (hd : decode m.2.1 pc = .ok (.getfield 30, 3)) (kk : Ev ks m (pc + 3) L (.inr 7 :: sk) S Q) : Ev ks m pc L (.inr 0 :: sk) S Q := ev_getf hm fkX0_30 rfl igX0 (rfl : cls3[0]? = some (RX0, TX0, 14)) (by decide) hk (fun g => ⟨_, rfl, rfl⟩) hd kk
theorem gkX0_30 {k : Nat} (h96 : k < 96) (h12 : k % 12 = 0) (hm : m.1 = RX0) (hk : k ∈ ks) (hd : decode m.2.1 pc = .ok (.getfield 30, 3)) (kk : Ev ks m (pc + 3) L (.inr (k + 7) :: sk) S Q) : Ev ks m pc L (.inr k :: sk) S Q := ev_getf hm fkX0_30 rfl igX0 (rfl : cls3[0]? = some (RX0, TX0, 14)) (by decide) hk (fun g => ⟨_, ct_W h96 h12, rfl⟩) hd kk
theorem fkX0_33 : Cond.fieldLink RX0 33 RX0 (TX0 10).2.1 (TX0 10).2.2.1 ∈ gw := gw_mem 87 (by decide +kernel) (by decide +kernel)
theorem gfX0_33 (hm : m.1 = RX0) (hk : 0 ∈ ks) (hd : decode m.2.1 pc = .ok (.getfield 33, 3)) (kk : Ev ks m (pc + 3) L (.inr 8 :: sk) S Q) : Ev ks m pc L (.inr 0 :: sk) S Q := ev_getf hm fkX0_33 rfl igX0 (rfl : cls3[0]? = some (RX0, TX0, 14)) (by decide) hk (fun g => ⟨_, rfl, rfl⟩) hd kk
theorem gkX0_33 {k : Nat} (h96 : k < 96) (h12 : k % 12 = 0) (hm : m.1 = RX0) (hk : k ∈ ks) (hd : decode m.2.1 pc = .ok (.getfield 33, 3)) (kk : Ev ks m (pc + 3) L (.inr (k + 8) :: sk) S Q) : Ev ks m pc L (.inr k :: sk) S Q := ev_getf hm fkX0_33 rfl igX0 (rfl : cls3[0]? = some (RX0, TX0, 14)) (by decide) hk (fun g => ⟨_, ct_W h96 h12, rfl⟩) hd kk
theorem fkX0_36 : Cond.fieldLink RX0 36 RX0 (TX0 11).2.1 (TX0 11).2.2.1 ∈ gw := gw_mem 89 (by decide +kernel) (by decide +kernel)
theorem gfX0_36 (hm : m.1 = RX0) (hk : 0 ∈ ks) (hd : decode m.2.1 pc = .ok (.getfield 36, 3)) (kk : Ev ks m (pc + 3) L (.inr 9 :: sk) S Q) : Ev ks m pc L (.inr 0 :: sk) S Q := ev_getf hm fkX0_36 rfl igX0 (rfl : cls3[0]? = some (RX0, TX0, 14)) (by decide) hk (fun g => ⟨_, rfl, rfl⟩) hd kk
theorem gkX0_36 {k : Nat} (h96 : k < 96) (h12 : k % 12 = 0) (hm : m.1 = RX0) (hk : k ∈ ks) (hd : decode m.2.1 pc = .ok (.getfield 36, 3)) (kk : Ev ks m (pc + 3) L (.inr (k + 9) :: sk) S Q) : Ev ks m pc L (.inr k :: sk) S Q := ev_getf hm fkX0_36 rfl igX0 (rfl : cls3[0]? = some (RX0, TX0, 14)) (by decide) hk (fun g => ⟨_, ct_W h96 h12, rfl⟩) hd kk
theorem fkX0_39 : Cond.fieldLink RX0 39 RX0 (TX0 12).2.1 (TX0 12).2.2.1 ∈ gw := gw_mem 91 (by decide +kernel) (by decide +kernel)
theorem gfX0_39 (hm : m.1 = RX0) (hk : 0 ∈ ks) (hd : decode m.2.1 pc = .ok (.getfield 39, 3)) (kk : Ev ks m (pc + 3) L (.inr 10 :: sk) S Q) : Ev ks m pc L (.inr 0 :: sk) S Q := ev_getf hm fkX0_39 rfl igX0 (rfl : cls3[0]? = some (RX0, TX0, 14)) (by decide) hk (fun g => ⟨_, rfl, rfl⟩) hd kk
theorem gkX0_39 {k : Nat} (h96 : k < 96) (h12 : k % 12 = 0) (hm : m.1 = RX0) (hk : k ∈ ks) (hd : decode m.2.1 pc = .ok (.getfield 39, 3)) (kk : Ev ks m (pc + 3) L (.inr (k + 10) :: sk) S Q) : Ev ks m pc L (.inr k :: sk) S Q := ev_getf hm fkX0_39 rfl igX0 (rfl : cls3[0]? = some (RX0, TX0, 14)) (by decide) hk (fun g => ⟨_, ct_W h96 h12, rfl⟩) hd kk
theorem fkX0_42 : Cond.fieldLink RX0 42 RX0 (TX0 13).2.1 (TX0 13).2.2.1 ∈ gw := gw_mem 92 (by decide +kernel) (by decide +kernel)
theorem gfX0_42 (hm : m.1 = RX0) (hk : 0 ∈ ks) (hd : decode m.2.1 pc = .ok (.getfield 42, 3)) (kk : Ev ks m (pc + 3) L (.inr 11 :: sk) S Q) : Ev ks m pc L (.inr 0 :: sk) S Q := ev_getf hm fkX0_42 rfl igX0 (rfl : cls3[0]? = some (RX0, TX0, 14)) (by decide) hk (fun g => ⟨_, rfl, rfl⟩) hd kk
theorem gkX0_42 {k : Nat} (h96 : k < 96) (h12 : k % 12 = 0) (hm : m.1 = RX0) (hk : k ∈ ks) (hd : decode m.2.1 pc = .ok (.getfield 42, 3)) (kk : Ev ks m (pc + 3) L (.inr (k + 11) :: sk) S Q) : Ev ks m pc L (.inr k :: sk) S Q := ev_getf hm fkX0_42 rfl igX0 (rfl : cls3[0]? = some (RX0, TX0, 14)) (by decide) hk (fun g => ⟨_, ct_W h96 h12, rfl⟩) hd kk
theorem fkX0_49 : Cond.fieldLink RX0 49 RX0 (TX0 0).2.1 (TX0 0).2.2.1 ∈ gw := gw_mem 68 (by decide +kernel) (by decide +kernel)
theorem gfX0_49 (hm : m.1 = RX0) (hk : 0 ∈ ks) (hd : decode m.2.1 pc = .ok (.getfield 49, 3)) (kk : Ev ks m (pc + 3) L (.inl (S 0 0) :: sk) S Q) : Ev ks m pc L (.inr 0 :: sk) S Q := ev_getf hm fkX0_49 rfl igX0 (rfl : cls3[0]? = some (RX0, TX0, 14)) (by decide) hk (fun g => ⟨_, rfl, rfl⟩) hd kk
theorem pfX0_49 {x : Int32} (hm : m.1 = RX0) (hk : 0 ∈ ks) (hd : decode m.2.1 pc = .ok (.putfield 49, 3)) (kk : Ev ks m (pc + 3) L sk (st S 0 0 x) Q) : Ev ks m pc L (.inl x :: .inr 0 :: sk) S Q := ev_putf hm fkX0_49 rfl igX0 (rfl : cls3[0]? = some (RX0, TX0, 14)) tyX0_ok nmX0 rfl rfl (by decide) hk (fun g => ⟨_, rfl, Nat.le_of_ble_eq_true rfl, rfl⟩) hd kk
theorem gkX0_49 {k : Nat} (h96 : k < 96) (h12 : k % 12 = 0) (hm : m.1 = RX0) (hk : k ∈ ks) (hd : decode m.2.1 pc = .ok (.getfield 49, 3)) (kk : Ev ks m (pc + 3) L (.inl (S k 0) :: sk) S Q) : Ev ks m pc L (.inr k :: sk) S Q := ev_getf hm fkX0_49 rfl igX0 (rfl : cls3[0]? = some (RX0, TX0, 14)) (by decide) hk (fun g => ⟨_, ct_W h96 h12, rfl⟩) hd kk
theorem pkX0_49 {k : Nat} {x : Int32} (h96 : k < 96) (h12 : k % 12 = 0) (hm : m.1 = RX0) (hk : k ∈ ks) (hd : decode m.2.1 pc = .ok (.putfield 49, 3)) (kk : Ev ks m (pc + 3) L sk (st S k 0 x) Q) : Ev ks m pc L (.inl x :: .inr k :: sk) S Q := ev_putf hm fkX0_49 rfl igX0 (rfl : cls3[0]? = some (RX0, TX0, 14)) tyX0_ok nmX0 rfl rfl (by decide) hk (fun g => ⟨_, ct_W h96 h12, Nat.le_of_ble_eq_true rfl, ct_W h96 h12⟩) hd kk
theorem fkX0_53 : Cond.fieldLink RX0 53 RX0 (TX0 1).2.1 (TX0 1).2.2.1 ∈ gw := gw_mem 70 (by decide +kernel) (by decide +kernel)
theorem gfX0_53 (hm : m.1 = RX0) (hk : 0 ∈ ks) (hd : decode m.2.1 pc = .ok (.getfield 53, 3)) (kk : Ev ks m (pc + 3) L (.inl (S 0 1) :: sk) S Q) : Ev ks m pc L (.inr 0 :: sk) S Q := ev_getf hm fkX0_53 rfl igX0 (rfl : cls3[0]? = some (RX0, TX0, 14)) (by decide) hk (fun g => ⟨_, rfl, rfl⟩) hd kk
theorem pfX0_53 {x : Int32} (hm : m.1 = RX0) (hk : 0 ∈ ks) (hd : decode m.2.1 pc = .ok (.putfield 53, 3)) (kk : Ev ks m (pc + 3) L sk (st S 0 1 x) Q) : Ev ks m pc L (.inl x :: .inr 0 :: sk) S Q := ev_putf hm fkX0_53 rfl igX0 (rfl : cls3[0]? = some (RX0, TX0, 14)) tyX0_ok nmX0 rfl rfl (by decide) hk (fun g => ⟨_, rfl, Nat.le_of_ble_eq_true rfl, rfl⟩) hd kk
theorem gkX0_53 {k : Nat} (h96 : k < 96) (h12 : k % 12 = 0) (hm : m.1 = RX0) (hk : k ∈ ks) (hd : decode m.2.1 pc = .ok (.getfield 53, 3)) (kk : Ev ks m (pc + 3) L (.inl (S k 1) :: sk) S Q) : Ev ks m pc L (.inr k :: sk) S Q := ev_getf hm fkX0_53 rfl igX0 (rfl : cls3[0]? = some (RX0, TX0, 14)) (by decide) hk (fun g => ⟨_, ct_W h96 h12, rfl⟩) hd kk
theorem pkX0_53 {k : Nat} {x : Int32} (h96 : k < 96) (h12 : k % 12 = 0) (hm : m.1 = RX0) (hk : k ∈ ks) (hd : decode m.2.1 pc = .ok (.putfield 53, 3)) (kk : Ev ks m (pc + 3) L sk (st S k 1 x) Q) : Ev ks m pc L (.inl x :: .inr k :: sk) S Q := ev_putf hm fkX0_53 rfl igX0 (rfl : cls3[0]? = some (RX0, TX0, 14)) tyX0_ok nmX0 rfl rfl (by decide) hk (fun g => ⟨_, ct_W h96 h12, Nat.le_of_ble_eq_true rfl, ct_W h96 h12⟩) hd kk
theorem fkX0_56 : Cond.fieldLink RX0 56 RX0 (TX0 2).2.1 (TX0 2).2.2.1 ∈ gw := gw_mem 72 (by decide +kernel) (by decide +kernel)
theorem gfX0_56 (hm : m.1 = RX0) (hk : 0 ∈ ks) (hd : decode m.2.1 pc = .ok (.getfield 56, 3)) (kk : Ev ks m (pc + 3) L (.inl (S 0 2) :: sk) S Q) : Ev ks m pc L (.inr 0 :: sk) S Q := ev_getf hm fkX0_56 rfl igX0 (rfl : cls3[0]? = some (RX0, TX0, 14)) (by decide) hk (fun g => ⟨_, rfl, rfl⟩) hd kk
theorem pfX0_56 {x : Int32} (hm : m.1 = RX0) (hk : 0 ∈ ks) (hd : decode m.2.1 pc = .ok (.putfield 56, 3)) (kk : Ev ks m (pc + 3) L sk (st S 0 2 x) Q) : Ev ks m pc L (.inl x :: .inr 0 :: sk) S Q := ev_putf hm fkX0_56 rfl igX0 (rfl : cls3[0]? = some (RX0, TX0, 14)) tyX0_ok nmX0 rfl rfl (by decide) hk (fun g => ⟨_, rfl, Nat.le_of_ble_eq_true rfl, rfl⟩) hd kk
theorem gkX0_56 {k : Nat} (h96 : k < 96) (h12 : k % 12 = 0) (hm : m.1 = RX0) (hk : k ∈ ks) (hd : decode m.2.1 pc = .ok (.getfield 56, 3)) (kk : Ev ks m (pc + 3) L (.inl (S k 2) :: sk) S Q) : Ev ks m pc L (.inr k :: sk) S Q := ev_getf hm fkX0_56 rfl igX0 (rfl : cls3[0]? = some (RX0, TX0, 14)) (by decide) hk (fun g => ⟨_, ct_W h96 h12, rfl⟩) hd kk
theorem pkX0_56 {k : Nat} {x : Int32} (h96 : k < 96) (h12 : k % 12 = 0) (hm : m.1 = RX0) (hk : k ∈ ks) (hd : decode m.2.1 pc = .ok (.putfield 56, 3)) (kk : Ev ks m (pc + 3) L sk (st S k 2 x) Q) : Ev ks m pc L (.inl x :: .inr k :: sk) S Q := ev_putf hm fkX0_56 rfl igX0 (rfl : cls3[0]? = some (RX0, TX0, 14)) tyX0_ok nmX0 rfl rfl (by decide) hk (fun g => ⟨_, ct_W h96 h12, Nat.le_of_ble_eq_true rfl, ct_W h96 h12⟩) hd kk
theorem fkX2_7 : Cond.fieldLink RX2 7 RX2 (TX2 0).2.1 (TX2 0).2.2.1 ∈ gw := gw_mem 457 (by decide +kernel) (by decide +kernel)
theorem gfX2_7 (hm : m.1 = RX2) (hk : 103 ∈ ks) (hd : decode m.2.1 pc = .ok (.getfield 7, 3)) (kk : Ev ks m (pc + 3) L (.inr 104 :: sk) S Q) : Ev ks m pc L (.inr 103 :: sk) S Q := ev_getf hm fkX2_7 rfl igX2 (rfl : cls3[2]? = some (RX2, TX2, 10)) (by decide) hk (fun g => ⟨_, rfl, rfl⟩) hd kk
theorem fkX2_13 : Cond.fieldLink RX2 13 RX2 (TX2 1).2.1 (TX2 1).2.2.1 ∈ gw := gw_mem 458 (by decide +kernel) (by decide +kernel)
theorem gfX2_13 (hm : m.1 = RX2) (hk : 103 ∈ ks) (hd : decode m.2.1 pc = .ok (.getfield 13, 3)) (kk : Ev ks m (pc + 3) L (.inr 105 :: sk) S Q) : Ev ks m pc L (.inr 103 :: sk) S Q := ev_getf hm fkX2_13 rfl igX2 (rfl : cls3[2]? = some (RX2, TX2, 10)) (by decide) hk (fun g => ⟨_, rfl, rfl⟩) hd kk
theorem fkX2_16 : Cond.fieldLink RX2 16 RX2 (TX2 3).2.1 (TX2 3).2.2.1 ∈ gw := gw_mem 460 (by decide +kernel) (by decide +kernel)
theorem gfX2_16 (hm : m.1 = RX2) (hk : 103 ∈ ks) (hd : decode m.2.1 pc = .ok (.getfield 16, 3)) (kk : Ev ks m (pc + 3) L (.inr 106 :: sk) S Q) : Ev ks m pc L (.inr 103 :: sk) S Q := ev_getf hm fkX2_16 rfl igX2 (rfl : cls3[2]? = some (RX2, TX2, 10)) (by decide) hk (fun g => ⟨_, rfl, rfl⟩) hd kk
theorem fkX2_19 : Cond.fieldLink RX2 19 RX2 (TX2 4).2.1 (TX2 4).2.2.1 ∈ gw := gw_mem 461 (by decide +kernel) (by decide +kernel)
theorem gfX2_19 (hm : m.1 = RX2) (hk : 103 ∈ ks) (hd : decode m.2.1 pc = .ok (.getfield 19, 3)) (kk : Ev ks m (pc + 3) L (.inr 107 :: sk) S Q) : Ev ks m pc L (.inr 103 :: sk) S Q := ev_getf hm fkX2_19 rfl igX2 (rfl : cls3[2]? = some (RX2, TX2, 10)) (by decide) hk (fun g => ⟨_, rfl, rfl⟩) hd kk
theorem fkX2_23 : Cond.fieldLink RX2 23 RX2 (TX2 6).2.1 (TX2 6).2.2.1 ∈ gw := gw_mem 463 (by decide +kernel) (by decide +kernel)
theorem gfX2_23 (hm : m.1 = RX2) (hk : 103 ∈ ks) (hd : decode m.2.1 pc = .ok (.getfield 23, 3)) (kk : Ev ks m (pc + 3) L (.inr 108 :: sk) S Q) : Ev ks m pc L (.inr 103 :: sk) S Q := ev_getf hm fkX2_23 rfl igX2 (rfl : cls3[2]? = some (RX2, TX2, 10)) (by decide) hk (fun g => ⟨_, rfl, rfl⟩) hd kk
theorem fkX2_26 : Cond.fieldLink RX2 26 RX2 (TX2 7).2.1 (TX2 7).2.2.1 ∈ gw := gw_mem 464 (by decide +kernel) (by decide +kernel)
theorem gfX2_26 (hm : m.1 = RX2) (hk : 103 ∈ ks) (hd : decode m.2.1 pc = .ok (.getfield 26, 3)) (kk : Ev ks m (pc + 3) L (.inr 109 :: sk) S Q) : Ev ks m pc L (.inr 103 :: sk) S Q := ev_getf hm fkX2_26 rfl igX2 (rfl : cls3[2]? = some (RX2, TX2, 10)) (by decide) hk (fun g => ⟨_, rfl, rfl⟩) hd kk
theorem fkX2_29 : Cond.fieldLink RX2 29 RX2 (TX2 8).2.1 (TX2 8).2.2.1 ∈ gw := gw_mem 465 (by decide +kernel) (by decide +kernel)
theorem gfX2_29 (hm : m.1 = RX2) (hk : 103 ∈ ks) (hd : decode m.2.1 pc = .ok (.getfield 29, 3)) (kk : Ev ks m (pc + 3) L (.inr 110 :: sk) S Q) : Ev ks m pc L (.inr 103 :: sk) S Q := ev_getf hm fkX2_29 rfl igX2 (rfl : cls3[2]? = some (RX2, TX2, 10)) (by decide) hk (fun g => ⟨_, rfl, rfl⟩) hd kk
theorem fkX2_32 : Cond.fieldLink RX2 32 RX2 (TX2 9).2.1 (TX2 9).2.2.1 ∈ gw := gw_mem 466 (by decide +kernel) (by decide +kernel)
theorem gfX2_32 (hm : m.1 = RX2) (hk : 103 ∈ ks) (hd : decode m.2.1 pc = .ok (.getfield 32, 3)) (kk : Ev ks m (pc + 3) L (.inr 111 :: sk) S Q) : Ev ks m pc L (.inr 103 :: sk) S Q := ev_getf hm fkX2_32 rfl igX2 (rfl : cls3[2]? = some (RX2, TX2, 10)) (by decide) hk (fun g => ⟨_, rfl, rfl⟩) hd kk
theorem fkX2_68 : Cond.fieldLink RX2 68 RX2 (TX2 2).2.1 (TX2 2).2.2.1 ∈ gw := gw_mem 459 (by decide +kernel) (by decide +kernel)
theorem gfX2_68 (hm : m.1 = RX2) (hk : 103 ∈ ks) (hd : decode m.2.1 pc = .ok (.getfield 68, 3)) (kk : Ev ks m (pc + 3) L (.inl (S 103 2) :: sk) S Q) : Ev ks m pc L (.inr 103 :: sk) S Q := ev_getf hm fkX2_68 rfl igX2 (rfl : cls3[2]? = some (RX2, TX2, 10)) (by decide) hk (fun g => ⟨_, rfl, rfl⟩) hd kk
theorem pfX2_68 {x : Int32} (hm : m.1 = RX2) (hk : 103 ∈ ks) (hd : decode m.2.1 pc = .ok (.putfield 68, 3)) (kk : Ev ks m (pc + 3) L sk (st S 103 2 x) Q) : Ev ks m pc L (.inl x :: .inr 103 :: sk) S Q := ev_putf hm fkX2_68 rfl igX2 (rfl : cls3[2]? = some (RX2, TX2, 10)) tyX2_ok nmX2 rfl rfl (by decide) hk (fun g => ⟨_, rfl, Nat.le_of_ble_eq_true rfl, rfl⟩) hd kk
theorem fkX2_75 : Cond.fieldLink RX2 75 RX2 (TX2 5).2.1 (TX2 5).2.2.1 ∈ gw := gw_mem 462 (by decide +kernel) (by decide +kernel)
theorem gfX2_75 (hm : m.1 = RX2) (hk : 103 ∈ ks) (hd : decode m.2.1 pc = .ok (.getfield 75, 3)) (kk : Ev ks m (pc + 3) L (.inl (S 103 5) :: sk) S Q) : Ev ks m pc L (.inr 103 :: sk) S Q := ev_getf hm fkX2_75 rfl igX2 (rfl : cls3[2]? = some (RX2, TX2, 10)) (by decide) hk (fun g => ⟨_, rfl, rfl⟩) hd kk
theorem pfX2_75 {x : Int32} (hm : m.1 = RX2) (hk : 103 ∈ ks) (hd : decode m.2.1 pc = .ok (.putfield 75, 3)) (kk : Ev ks m (pc + 3) L sk (st S 103 5 x) Q) : Ev ks m pc L (.inl x :: .inr 103 :: sk) S Q := ev_putf hm fkX2_75 rfl igX2 (rfl : cls3[2]? = some (RX2, TX2, 10)) tyX2_ok nmX2 rfl rfl (by decide) hk (fun g => ⟨_, rfl, Nat.le_of_ble_eq_true rfl, rfl⟩) hd kk
end EV
theorem kb_m2 : (Int8.ofInt (-2)).toInt32 = (-2 : Int32) := by decide +kernel
theorem kb_m3 : (Int8.ofInt (-3)).toInt32 = (-3 : Int32) := by decide +kernel
theorem kb_m9 : (Int8.ofInt (-9)).toInt32 = (-9 : Int32) := by decide +kernel
theorem kb_100 : (Int8.ofInt 100).toInt32 = nI 100 := by decide +kernel
theorem kb_103 : (Int8.ofInt 103).toInt32 = nI 103 := by decide +kernel
theorem kb_107 : (Int8.ofInt 107).toInt32 = nI 107 := by decide +kernel
theorem kb_123 : (Int8.ofInt 123).toInt32 = nI 123 := by decide +kernel
theorem kb_15 : (Int8.ofInt 15).toInt32 = nI 15 := by decide +kernel
theorem kb_16 : (Int8.ofInt 16).toInt32 = nI 16 := by decide +kernel
theorem kb_20 : (Int8.ofInt 20).toInt32 = nI 20 := by decide +kernel
theorem kb_24 : (Int8.ofInt 24).toInt32 = nI 24 := by decide +kernel
theorem kb_31 : (Int8.ofInt 31).toInt32 = nI 31 := by decide +kernel
theorem kb_32 : (Int8.ofInt 32).toInt32 = nI 32 := by decide +kernel
theorem kb_6 : (Int8.ofInt 6).toInt32 = nI 6 := by decide +kernel
theorem kb_63 : (Int8.ofInt 63).toInt32 = nI 63 := by decide +kernel
theorem kb_7 : (Int8.ofInt 7).toInt32 = nI 7 := by decide +kernel
theorem kb_8 : (Int8.ofInt 8).toInt32 = nI 8 := by decide +kernel
theorem kb_9 : (Int8.ofInt 9).toInt32 = nI 9 := by decide +kernel
theorem kb_99 : (Int8.ofInt 99).toInt32 = nI 99 := by decide +kernel
theorem kh_1263 : (Int16.ofInt 1263).toInt32 = nI 1263 := by decide +kernel
theorem kh_143 : (Int16.ofInt 143).toInt32 = nI 143 := by decide +kernel
theorem kh_160 : (Int16.ofInt 160).toInt32 = nI 160 := by decide +kernel
theorem kh_2526 : (Int16.ofInt 2526).toInt32 = nI 2526 := by decide +kernel
theorem kh_255 : (Int16.ofInt 255).toInt32 = nI 255 := by decide +kernel
theorem kh_5052 : (Int16.ofInt 5052).toInt32 = nI 5052 := by decide +kernel
theorem kh_6315 : (Int16.ofInt 6315).toInt32 = nI 6315 := by decide +kernel
theorem kh_640 : (Int16.ofInt 640).toInt32 = nI 640 := by decide +kernel
theorem kh_997 : (Int16.ofInt 997).toInt32 = nI 997 := by decide +kernel
theorem kw_265 : Cond.constant RJ6 265 1431655765 ∈ gw := gw_mem 260 (by decide +kernel) (by decide +kernel)
theorem kw_266 : Cond.constant RJ6 266 858993459 ∈ gw := gw_mem 261 (by decide +kernel) (by decide +kernel)
theorem kw_267 : Cond.constant RJ6 267 252645135 ∈ gw := gw_mem 262 (by decide +kernel) (by decide +kernel)
def InW (ks : List Nat) : Prop := ∀ k, Nat.blt k 12 = true → k ∈ ks
def InC (ks : List Nat) : Prop := ∀ k, Nat.blt k 103 = true → k ∈ ks
def InM (ks : List Nat) : Prop := ∀ k, (Nat.ble 103 k && Nat.blt k 112) = true → k ∈ ks
theorem InC.w {ks : List Nat} (h : InC ks) : InW ks := fun k hk => h k (by rw [Nat.blt, Nat.ble_eq] at hk ⊢; omega)
theorem lkX1_172 : Cond.methodLink RX1 172 Lib.Math.max.name ∈ gw := gw_mem 383 (by decide +kernel) (by decide +kernel)
theorem lkX1_198 : Cond.methodLink RX1 198 Lib.Math.min.name ∈ gw := gw_mem 173 (by decide +kernel) (by decide +kernel)
theorem lkX0_65 : Cond.methodLink RX0 65 arraycopyName ∈ gw := gw_mem 170 (by decide +kernel) (by decide +kernel)
theorem kx_s : Cond.static Lib.Math.max.name ∈ gw := gw_mem 384 (by decide +kernel) (by decide +kernel)
theorem kx_i : Cond.initialized "java/lang/Math" ∈ gw := gw_mem 45 (by decide +kernel) (by decide +kernel)
theorem kx_c : Cond.code Lib.Math.max.name Lib.Math.max.code 2 (some .int) ∈ gw := gw_mem 385 (by decide +kernel) (by decide +kernel)
theorem kn_s : Cond.static Lib.Math.min.name ∈ gw := gw_mem 174 (by decide +kernel) (by decide +kernel)
theorem kn_c : Cond.code Lib.Math.min.name Lib.Math.min.code 2 (some .int) ∈ gw := gw_mem 175 (by decide +kernel) (by decide +kernel)
theorem kp_n : Cond.native arraycopyName ∈ gw := gw_mem 172 (by decide +kernel) (by decide +kernel)
theorem kp_s : Cond.static arraycopyName ∈ gw := gw_mem 171 (by decide +kernel) (by decide +kernel)
theorem kp_i : Cond.initialized "java/lang/System" ∈ gw := gw_mem 44 (by decide +kernel) (by decide +kernel)
end
section
/-! ===== Int32 by its bits: bt x i ===== -/
def bt (x : Int32) (i : Nat) : Bool := x.toBitVec.getLsbD i
theorem b_ext {x y : Int32} (h : ∀ i, i < 32 → bt x i = bt y i) : x = y := Int32.toBitVec_inj.mp (BitVec.eq_of_getLsbD_eq (fun i hi => h i hi))
theorem b_or (x y : Int32) (i : Nat) : bt (x ||| y) i = (bt x i || bt y i) := by unfold bt; rw [Int32.toBitVec_or, BitVec.getLsbD_or]
theorem b_and (x y : Int32) (i : Nat) : bt (x &&& y) i = (bt x i && bt y i) := by unfold bt; rw [Int32.toBitVec_and, BitVec.getLsbD_and]
theorem b_xor (x y : Int32) (i : Nat) : bt (x ^^^ y) i = (bt x i ^^ bt y i) := by unfold bt; rw [Int32.toBitVec_xor, BitVec.getLsbD_xor]
theorem b_big {x : Int32} {i : Nat} (h : 32 ≤ i) : bt x i = false := BitVec.getLsbD_of_ge _ _ h
theorem b_255 (i : Nat) : bt 255 i = decide (i < 8) := by
  rcases Nat.lt_or_ge i 32 with h | h
  · exact (by decide +kernel : ∀ i, i < 32 → bt 255 i = decide (i < 8)) i h
  · rw [b_big h, decide_eq_false (by omega)]
theorem b_65535 (i : Nat) : bt 65535 i = decide (i < 16) := by
  rcases Nat.lt_or_ge i 32 with h | h
  · exact (by decide +kernel : ∀ i, i < 32 → bt 65535 i = decide (i < 16)) i h
  · rw [b_big h, decide_eq_false (by omega)]
theorem b_m1 : ∀ i, i < 32 → bt (-1) i = true := by decide +kernel
theorem b_0 (i : Nat) : bt 0 i = false := BitVec.getLsbD_zero
theorem s_l : ∀ n, n < 32 → ((nI n &&& 31).toBitVec.smod 32).toNat = n := by decide +kernel
theorem s_u : ∀ n, n < 32 → (((nI n).toUInt32 &&& Int32.toUInt32 31).toBitVec % 32).toNat = n := by decide +kernel
theorem b_shl (n : Nat) (hn : n < 32) (x : Int32) {i : Nat} (hi : i < 32) : bt (x <<< (nI n &&& 31)) i = (decide (n ≤ i) && bt x (i - n)) := by
  unfold bt
  rw [Int32.toBitVec_shiftLeft]
  show (x.toBitVec <<< ((nI n &&& 31).toBitVec.smod 32).toNat).getLsbD i = _
  rw [s_l n hn, BitVec.getLsbD_shiftLeft]
  rcases Nat.lt_or_ge i n with h | h
  · simp [h, Nat.not_le.mpr h]
  · simp [hi, h, Nat.not_lt.mpr h]
theorem b_ushr (n : Nat) (hn : n < 32) (x : Int32) (i : Nat) : bt ((x.toUInt32 >>> ((nI n).toUInt32 &&& Int32.toUInt32 31)).toInt32) i = bt x (n + i) := by
  show (x.toUInt32 >>> ((nI n).toUInt32 &&& Int32.toUInt32 31)).toBitVec.getLsbD i = x.toUInt32.toBitVec.getLsbD (n + i)
  rw [UInt32.toBitVec_shiftRight]
  show (x.toUInt32.toBitVec >>> (((nI n).toUInt32 &&& Int32.toUInt32 31).toBitVec % 32).toNat).getLsbD i = _
  rw [s_u n hn, BitVec.getLsbD_ushiftRight]
theorem b_sshr (n : Nat) (hn : n < 32) (x : Int32) {i : Nat} (hi : i < 32) : bt (x >>> (nI n &&& 31)) i = if n + i < 32 then bt x (n + i) else bt x 31 := by
  unfold bt
  rw [Int32.toBitVec_shiftRight]
  show (x.toBitVec.sshiftRight ((nI n &&& 31).toBitVec.smod 32).toNat).getLsbD i = _
  rw [s_l n hn, BitVec.getLsbD_sshiftRight, BitVec.msb_eq_getLsbD_last]
  simp [hi]
/-! ===== how many places have a property ===== -/
def fb_ct (p : Nat → Bool) : Nat → Nat
  | 0 => 0
  | n + 1 => fb_ct p n + (if p n then 1 else 0)
theorem fb_ct_succ (p : Nat → Bool) (n : Nat) : fb_ct p (n + 1) = fb_ct p n + (if p n then 1 else 0) := rfl
theorem fb_ct_le (p : Nat → Bool) : ∀ n, fb_ct p n ≤ n
  | 0 => Nat.le_refl _
  | n + 1 => by
    have h := fb_ct_le p n
    rw [fb_ct_succ]
    split <;> omega
theorem fb_ct_step (p : Nat → Bool) (m : Nat) : ∀ n, fb_ct p m ≤ fb_ct p (m + n)
  | 0 => Nat.le_refl _
  | n + 1 => by
    have h := fb_ct_step p m n
    show fb_ct p m ≤ fb_ct p (m + n + 1)
    rw [fb_ct_succ]
    omega
theorem fb_ct_mono (p : Nat → Bool) {m n : Nat} (h : m ≤ n) : fb_ct p m ≤ fb_ct p n := by
  have := fb_ct_step p m (n - m)
  rwa [Nat.add_sub_cancel' h] at this
theorem fb_ct_cong {p q : Nat → Bool} : ∀ {n : Nat}, (∀ k, k < n → p k = q k) → fb_ct p n = fb_ct q n
  | 0, _ => rfl
  | n + 1, h => by
    rw [fb_ct_succ, fb_ct_succ, fb_ct_cong (fun k hk => h k (by omega)), h n (by omega)]
/-- one place changed -/
theorem fb_ct_out (p : Nat → Bool) (b : Bool) {i n : Nat} (h : n ≤ i) : fb_ct (fun k => if k = i then b else p k) n = fb_ct p n :=
  fb_ct_cong fun k hk => if_neg (by omega)
theorem fb_ct_upd (p : Nat → Bool) (b : Bool) {i : Nat} : ∀ {n : Nat}, i < n → fb_ct (fun k => if k = i then b else p k) n + (if p i then 1 else 0) = fb_ct p n + (if b then 1 else 0)
  | 0, h => absurd h (Nat.not_lt_zero i)
  | n + 1, h => by
    rw [fb_ct_succ, fb_ct_succ]
    rcases Nat.lt_or_ge i n with q | q
    · have := fb_ct_upd p b q
      have e : (if n = i then b else p n) = p n := if_neg (by omega)
      rw [e]
      omega
    · have e : i = n := by omega
      subst e
      rw [fb_ct_out p b (Nat.le_refl _)]
      simp only [if_true]
      omega
theorem fb_ct_sub {p q : Nat → Bool} : ∀ {n : Nat}, (∀ k, k < n → p k = true → q k = true) → fb_ct p n ≤ fb_ct q n
  | 0, _ => Nat.le_refl _
  | n + 1, h => by
    have h1 := fb_ct_sub (n := n) (p := p) (q := q) (fun k hk => h k (by omega))
    have h2 := h n (by omega)
    rw [fb_ct_succ, fb_ct_succ]
    cases hp : p n <;> cases hq : q n <;> simp_all <;> omega
theorem fb_ct_or {p q : Nat → Bool} : ∀ {n : Nat}, (∀ k, k < n → ¬ (p k = true ∧ q k = true)) → fb_ct (fun k => p k || q k) n = fb_ct p n + fb_ct q n
  | 0, _ => rfl
  | n + 1, h => by
    have h1 := fb_ct_or (n := n) (p := p) (q := q) (fun k hk => h k (by omega))
    have h2 := h n (by omega)
    rw [fb_ct_succ, fb_ct_succ, fb_ct_succ, h1]
    cases hp : p n <;> cases hq : q n <;> simp_all <;> omega
theorem fb_ct_not (p : Nat → Bool) : ∀ n, fb_ct p n + fb_ct (fun k => !p k) n = n
  | 0 => rfl
  | n + 1 => by
    have h := fb_ct_not p n
    rw [fb_ct_succ, fb_ct_succ]
    cases p n <;> simp <;> omega
theorem fb_ct_split (p : Nat → Bool) (m : Nat) : ∀ n, fb_ct p (m + n) = fb_ct p m + fb_ct (fun k => p (m + k)) n
  | 0 => rfl
  | n + 1 => by
    have h := fb_ct_split p m n
    show fb_ct p (m + n + 1) = _
    rw [fb_ct_succ, fb_ct_succ, h, Nat.add_assoc]
theorem fb_ct_zero {p : Nat → Bool} : ∀ {n : Nat}, fb_ct p n = 0 ↔ ∀ k, k < n → p k = false
  | 0 => ⟨fun _ k hk => absurd hk (Nat.not_lt_zero k), fun _ => rfl⟩
  | n + 1 => by
    have h := fb_ct_zero (p := p) (n := n)
    rw [fb_ct_succ]
    constructor
    · intro e k hk
      have e1 : fb_ct p n = 0 := by omega
      rcases Nat.lt_or_ge k n with q | q
      · exact h.mp e1 k q
      · have ek : k = n := by omega
        subst ek
        cases hp : p k
        · rfl
        · simp [hp] at e
    · intro a
      rw [h.mpr (fun k hk => a k (by omega)), a n (by omega)]
      rfl
theorem fb_ct_pos {p : Nat → Bool} {n : Nat} : 0 < fb_ct p n ↔ ∃ k, k < n ∧ p k = true := by
  constructor
  · intro h
    refine Classical.byContradiction fun hx => ?_
    have := fb_ct_zero.mpr (fun k hk => by
      cases hp : p k
      · rfl
      · exact absurd ⟨k, hk, hp⟩ hx : ∀ k, k < n → p k = false)
    omega
  · rintro ⟨k, hk, hp⟩
    rcases Nat.eq_zero_or_pos (fb_ct p n) with e | e
    · have := fb_ct_zero.mp e k hk
      rw [this] at hp
      cases hp
    · exact e
theorem fb_ct_all {p : Nat → Bool} {n : Nat} : fb_ct p n = n ↔ ∀ k, k < n → p k = true := by
  have h := fb_ct_not p n
  constructor
  · intro e k hk
    have z : fb_ct (fun k => !p k) n = 0 := by omega
    have := fb_ct_zero.mp z k hk
    cases hp : p k
    · simp [hp] at this
    · rfl
  · intro a
    have z : fb_ct (fun k => !p k) n = 0 := fb_ct_zero.mpr (fun k hk => by simp [a k hk])
    omega
/-- the k-th place with the property -/
theorem fb_ct_kth {p : Nat → Bool} {k : Nat} : ∀ {n : Nat}, k < fb_ct p n → ∃ i, i < n ∧ p i = true ∧ fb_ct p i = k
  | 0, h => absurd h (Nat.not_lt_zero k)
  | n + 1, h => by
    rcases Nat.lt_or_ge k (fb_ct p n) with q | q
    · obtain ⟨i, h1, h2⟩ := fb_ct_kth q
      exact ⟨i, by omega, h2⟩
    · rw [fb_ct_succ] at h
      cases hp : p n
      · simp [hp] at h; omega
      · simp [hp] at h
        exact ⟨n, by omega, hp, by omega⟩
theorem fb_ct_kth_one {p : Nat → Bool} {i j : Nat} (hi : p i = true) (hj : p j = true) (e : fb_ct p i = fb_ct p j) : i = j := by
  have key : ∀ a b : Nat, a < b → p a = true → fb_ct p a < fb_ct p b := by
    intro a b hab ha
    have h := fb_ct_mono p (show a + 1 ≤ b from hab)
    rw [fb_ct_succ, ha] at h
    simp at h
    omega
  rcases Nat.lt_trichotomy i j with q | q | q
  · have := key i j q hi; omega
  · exact q
  · have := key j i q hj; omega
/-! ===== sums over a range: one place changed, parts, bounds ===== -/
def fb_sm (f : Nat → Nat) : Nat → Nat
  | 0 => 0
  | n + 1 => fb_sm f n + f n
theorem fb_sm_succ (f : Nat → Nat) (n : Nat) : fb_sm f (n + 1) = fb_sm f n + f n := rfl
theorem fb_sm_cong {f g : Nat → Nat} : ∀ {n : Nat}, (∀ k, k < n → f k = g k) → fb_sm f n = fb_sm g n
  | 0, _ => rfl
  | n + 1, h => by rw [fb_sm_succ, fb_sm_succ, fb_sm_cong (fun k hk => h k (by omega)), h n (by omega)]
theorem fb_sm_out (f : Nat → Nat) (v : Nat) {i n : Nat} (h : n ≤ i) : fb_sm (fun k => if k = i then v else f k) n = fb_sm f n :=
  fb_sm_cong fun k hk => if_neg (by omega)
theorem fb_sm_upd (f : Nat → Nat) (v : Nat) {i : Nat} : ∀ {n : Nat}, i < n → fb_sm (fun k => if k = i then v else f k) n + f i = fb_sm f n + v
  | 0, h => absurd h (Nat.not_lt_zero i)
  | n + 1, h => by
    rw [fb_sm_succ, fb_sm_succ]
    rcases Nat.lt_or_ge i n with q | q
    · have := fb_sm_upd f v q
      have e : (if n = i then v else f n) = f n := if_neg (by omega)
      rw [e]
      omega
    · have e : i = n := by omega
      subst e
      rw [fb_sm_out f v (Nat.le_refl _)]
      simp only [if_true]
      omega
theorem fb_sm_add (f g : Nat → Nat) : ∀ n, fb_sm (fun k => f k + g k) n = fb_sm f n + fb_sm g n
  | 0 => rfl
  | n + 1 => by
    have h := fb_sm_add f g n
    rw [fb_sm_succ, fb_sm_succ, fb_sm_succ, h]
    omega
theorem fb_sm_le {f g : Nat → Nat} : ∀ {n : Nat}, (∀ k, k < n → f k ≤ g k) → fb_sm f n ≤ fb_sm g n
  | 0, _ => Nat.le_refl _
  | n + 1, h => by
    have h1 := fb_sm_le (n := n) (f := f) (g := g) (fun k hk => h k (by omega))
    have h2 := h n (by omega)
    rw [fb_sm_succ, fb_sm_succ]
    omega
theorem fb_sm_const (c : Nat) : ∀ n, fb_sm (fun _ => c) n = n * c
  | 0 => by rw [Nat.zero_mul]; rfl
  | n + 1 => by rw [fb_sm_succ, fb_sm_const c n, Nat.succ_mul]
theorem fb_sm_bound {f : Nat → Nat} {c n : Nat} (h : ∀ k, k < n → f k ≤ c) : fb_sm f n ≤ n * c := by
  rw [← fb_sm_const c n]
  exact fb_sm_le h
theorem fb_sm_mono (f : Nat → Nat) (m : Nat) : ∀ n, fb_sm f m ≤ fb_sm f (m + n)
  | 0 => Nat.le_refl _
  | n + 1 => by
    have h := fb_sm_mono f m n
    show fb_sm f m ≤ fb_sm f (m + n + 1)
    rw [fb_sm_succ]
    omega
theorem fb_sm_part (f : Nat → Nat) {i n : Nat} (h : i < n) : fb_sm f i + f i ≤ fb_sm f n := by
  have := fb_sm_mono f (i + 1) (n - (i + 1))
  rw [fb_sm_succ, show i + 1 + (n - (i + 1)) = n by omega] at this
  exact this
theorem fb_sm_split (f : Nat → Nat) (m : Nat) : ∀ n, fb_sm f (m + n) = fb_sm f m + fb_sm (fun k => f (m + k)) n
  | 0 => rfl
  | n + 1 => by
    have h := fb_sm_split f m n
    show fb_sm f (m + n + 1) = _
    rw [fb_sm_succ, fb_sm_succ, h, Nat.add_assoc]
theorem fb_sm_zero {f : Nat → Nat} {n : Nat} (h : fb_sm f n = 0) : ∀ k, k < n → f k = 0 := fun k hk => by
  have := fb_sm_part f hk
  omega
/-! of my own -/
theorem nI_lit0 : nI 0 = 0 := nI_0
theorem nI_lit1 : nI 1 = 1 := by decide +kernel
/-- an int out of its bits -/
def mk (f : Nat → Bool) : Nat → Int32
  | 0 => 0
  | k + 1 => mk f k ||| (bif f k then (1 : Int32) <<< (nI k &&& 31) else 0)
theorem b_1 (i : Nat) : bt 1 i = decide (i = 0) := by
  rcases Nat.lt_or_ge i 32 with h | h
  · exact (by decide +kernel : ∀ i, i < 32 → bt 1 i = decide (i = 0)) i h
  · rw [b_big h]; simp; omega
theorem b_one (k : Nat) (hk : k < 32) (i : Nat) : bt ((1 : Int32) <<< (nI k &&& 31)) i = decide (i = k) := by
  rcases Nat.lt_or_ge i 32 with h | h
  · rw [b_shl k hk _ h, b_1]
    by_cases e : i = k
    · subst e; simp
    · simp only [e, decide_false]
      by_cases e2 : k ≤ i
      · have : ¬ (i - k = 0) := by omega
        simp [this]
      · simp [e2]
  · rw [b_big h]; simp; omega
theorem b_mk (f : Nat → Bool) : ∀ (k : Nat), k ≤ 32 → ∀ i, bt (mk f k) i = (decide (i < k) && f i)
  | 0, _, i => by rw [mk, b_0]; simp
  | k + 1, hk, i => by
    rw [mk, b_or, b_mk f k (by omega)]
    have e : bt (bif f k then (1 : Int32) <<< (nI k &&& 31) else 0) i = (f k && decide (i = k)) := by
      cases hf : f k with
      | true => simp only [cond_true, Bool.true_and]; exact b_one k (by omega) i
      | false => simp only [cond_false, Bool.false_and]; exact b_0 i
    rw [e]
    by_cases h1 : i = k
    · subst h1; simp
    · by_cases h2 : i < k
      · have : i < k + 1 := by omega
        simp [h1, h2, this]
      · have : ¬ i < k + 1 := by omega
        simp [h1, h2, this]
theorem mk_of {x : Int32} {f : Nat → Bool} (h : ∀ i, i < 32 → bt x i = f i) : x = mk f 32 := b_ext fun i hi => by rw [h i hi, b_mk f 32 (by omega)]; simp [hi]
theorem mk_cong {f g : Nat → Bool} : ∀ {k : Nat}, (∀ i, i < k → f i = g i) → mk f k = mk g k
  | 0, _ => rfl
  | k + 1, h => by rw [mk, mk, mk_cong (fun i hi => h i (by omega)), h k (by omega)]
/-- how many bits are set -/
def pcn (x : Int32) : Nat := fb_ct (bt x) 32
theorem pcn_le (x : Int32) : pcn x ≤ 32 := fb_ct_le _ 32
theorem x_bit (x : Int32) (c : Nat) (hc : c < 32) : (x >>> (nI c &&& 31)) &&& 1 = bI (bt x c) := by
  apply b_ext
  intro i hi
  rw [b_and, b_sshr c hc x hi, b_1]
  by_cases h : i = 0
  · subst h
    simp only [decide_true, Bool.and_true, Nat.add_zero, hc, if_true]
    cases bt x c <;> rfl
  · simp only [h, decide_false, Bool.and_false]
    cases bt x c
    · exact (b_0 i).symm
    · show false = bt 1 i
      rw [b_1]; simp [h]
theorem u_bit (x : Int32) (c : Nat) (hc : c < 32) : ush x (nI c) &&& 1 = bI (bt x c) := by
  apply b_ext
  intro i hi
  unfold ush
  rw [b_and, b_ushr c hc x i, b_1]
  by_cases h : i = 0
  · subst h
    simp only [decide_true, Bool.and_true, Nat.add_zero]
    cases bt x c <;> rfl
  · simp only [h, decide_false, Bool.and_false]
    cases bt x c
    · exact (b_0 i).symm
    · show false = bt 1 i
      rw [b_1]; simp [h]
theorem bI_t : bI true = 1 := rfl
theorem bI_f : bI false = 0 := rfl
theorem bI_1 (b : Bool) : bI b = nI 1 ↔ b = true := by cases b <;> decide +kernel
theorem bI_b (b : Bool) (i : Nat) : bt (bI b) i = (b && decide (i = 0)) := by
  cases b
  · exact b_0 i
  · rw [bI_t, b_1]; simp
/-- the j-th set bit -/
def nthF (x : Int32) (j : Nat) : Nat → Nat → Int32
  | 0, _ => -9
  | f + 1, c => if bt x c = true then (if fb_ct (bt x) c = j then nI c else nthF x j f (c + 1)) else nthF x j f (c + 1)
def nth (x : Int32) (j : Nat) : Int32 := nthF x j 32 0
def tn (x : Int32) : Nat := x.toNatClampNeg
theorem tn_nI {a : Nat} (h : a < 2147483648) : tn (nI a) = a := nI_clamp (by omega)
theorem zr0 : nI 0 = 0 ∨ nI 0 = 1 := Or.inl nI_0
theorem zr1 : nI 1 = 0 ∨ nI 1 = 1 := Or.inr nI_lit1
theorem sr_sr (S : St) (k : Nat) (r r' : Nat → Int32) : sr (sr S k r) k r' = sr S k r' := by
  funext j
  unfold sr
  by_cases h : j = k <;> simp [h]
theorem st_n (S : St) (k i : Nat) (x : Int32) : st S k i x = sr S k (upd (S k) i x) := rfl
theorem st_sr (S : St) (k i : Nat) (r : Nat → Int32) (x : Int32) : st (sr S k r) k i x = sr S k (upd r i x) := by rw [st_n, sr_s, sr_sr]
theorem sr_self (S : St) (k : Nat) : sr S k (S k) = S := by
  funext j
  unfold sr
  by_cases h : j = k
  · simp [h]
  · simp [h]
theorem upd_s (f : Nat → Int32) (k : Nat) (x : Int32) : upd f k x k = x := if_pos rfl
theorem upd_n {f : Nat → Int32} {k j : Nat} {x : Int32} (h : j ≠ k) : upd f k x j = f j := if_neg h
theorem nI_neg {c : Nat} (h : c < 2147483648) {x : Int32} (hx : x < 0) : ¬ nI c = x := by
  intro e
  have := nI_pos (n := c) (by omega)
  rw [e] at this
  exact this hx
theorem m9_neg : (-9 : Int32) < 0 := by decide +kernel
theorem lt_not {a b : Int32} : ¬ a < b ↔ b ≤ a := Int32.not_lt
theorem le_not {a b : Int32} : ¬ a ≤ b ↔ b < a := Int32.not_le
/-- a number below n -/
def isS (n : Nat) (q : Int32) : Bool := decide (0 ≤ q) && decide (q < nI n)
theorem isS_iff {n : Nat} (hn : n < 2147483648) {q : Int32} : isS n q = true ↔ ∃ j : Nat, j < n ∧ q = nI j := by
  unfold isS
  rw [Bool.and_eq_true, decide_eq_true_eq, decide_eq_true_eq]
  constructor
  · rintro ⟨h1, h2⟩
    rcases pk_ix q (n := n) (by omega) with h | h | h
    · exact absurd h (Int32.not_lt.mpr h1)
    · exact absurd h2 (Int32.not_lt.mpr h)
    · exact h
  · rintro ⟨j, h1, rfl⟩
    exact ⟨nI_pos' (by omega), nI_lt h1 (by omega)⟩
theorem isS_le {n : Nat} (h0 : 0 < n) (hn : n < 2147483648) (q : Int32) : (decide (nI 0 ≤ q) && decide (q ≤ nI (n - 1))) = isS n q := by
  have e : (q ≤ nI (n - 1)) ↔ q < nI n := by
    rw [Int32.le_iff_toInt_le, Int32.lt_iff_toInt_lt, nI_toInt (by omega), nI_toInt (by omega)]
    omega
  unfold isS
  rw [nI_0]
  congr 1
  exact decide_eq_decide.mpr e
theorem isS_in {n : Nat} (hn : n < 2147483647) (q : Int32) : (decide (nI 0 ≤ q) && decide (q ≤ nI n)) = isS (n + 1) q := by
  have h := isS_le (n := n + 1) (by omega) (by omega) q
  rw [Nat.add_sub_cancel] at h
  exact h
/-- a way: from whom to whom -/
def isW (n : Nat) (x y : Int32) : Bool := isS n y && isS (n + 1) x && decide (¬ x = y)
theorem bI_shl (b : Bool) (s : Int32) : bI b <<< s = bif b then (1 : Int32) <<< s else 0 := by
  cases b
  · show (0 : Int32) <<< s = 0
    apply Int32.toBitVec_inj.mp
    simp
  · rfl
theorem zero_or (x : Int32) : (0 : Int32) ||| x = x := b_ext fun i _ => by rw [b_or, b_0]; simp
theorem or_zero (x : Int32) : x ||| (0 : Int32) = x := b_ext fun i _ => by rw [b_or, b_0]; simp
/-- unions -/
def orF (f : Nat → Int32) : Nat → Int32
  | 0 => 0
  | k + 1 => orF f k ||| f k
theorem b_orF (f : Nat → Int32) (c : Nat) : ∀ (k : Nat), bt (orF f k) c = true ↔ ∃ j, j < k ∧ bt (f j) c = true
  | 0 => by rw [orF, b_0]; simp
  | k + 1 => by
    rw [orF, b_or, Bool.or_eq_true, b_orF f c k]
    constructor
    · rintro (⟨j, h1, h2⟩ | h)
      · exact ⟨j, by omega, h2⟩
      · exact ⟨k, by omega, h⟩
    · rintro ⟨j, h1, h2⟩
      by_cases e : j = k
      · subst e; exact Or.inr h2
      · exact Or.inl ⟨j, by omega, h2⟩
theorem pow_all {n : Nat} (h2 : 2 ≤ n) (h4 : n ≤ 4) : ((nI 1 <<< (nI n &&& 31)) - nI 1 : Int32) = nI (2 ^ n - 1) := by
  rcases (show n = 2 ∨ n = 3 ∨ n = 4 by omega) with rfl | rfl | rfl <;> decide +kernel
theorem pow_sh {n : Nat} (h2 : 2 ≤ n) (h4 : n ≤ 4) : (nI 1 <<< (nI n &&& 31) : Int32) = nI (2 ^ n) := by
  rcases (show n = 2 ∨ n = 3 ∨ n = 4 by omega) with rfl | rfl | rfl <;> decide +kernel
theorem sm_b {f : Nat → Nat} {c n : Nat} (h : ∀ k, k < n → f k ≤ c) : fb_sm f n ≤ n * c := by
  have h1 := fb_sm_le h
  rw [fb_sm_const] at h1
  exact h1
theorem mk_skip {f : Nat → Bool} {a : Nat} : ∀ {b : Nat}, (∀ i, a ≤ i → i < a + b → f i = false) → mk f (a + b) = mk f a
  | 0, _ => rfl
  | b + 1, h => by
    rw [← Nat.add_assoc, mk, h (a + b) (by omega) (by omega), mk_skip (fun i h1 h2 => h i h1 (by omega))]
    exact or_zero _
/-- how far a property holds from the first place on -/
def ldF (p : Nat → Bool) : Nat → Nat → Nat
  | 0, k => k
  | f + 1, k => if p k = true then ldF p f (k + 1) else k
def lead (p : Nat → Bool) (n : Nat) : Nat := ldF p n 0
theorem ldF_le (p : Nat → Bool) : ∀ f k, ldF p f k ≤ k + f
  | 0, k => Nat.le_refl _
  | f + 1, k => by
    rw [ldF]
    by_cases h : p k = true
    · rw [if_pos h]; have := ldF_le p f (k + 1); omega
    · rw [if_neg h]; omega
theorem ldF_ge (p : Nat → Bool) : ∀ f k, k ≤ ldF p f k
  | 0, k => Nat.le_refl _
  | f + 1, k => by
    rw [ldF]
    by_cases h : p k = true
    · rw [if_pos h]; have := ldF_ge p f (k + 1); omega
    · rw [if_neg h]; omega
theorem ldF_all (p : Nat → Bool) : ∀ f k i, k ≤ i → i < ldF p f k → p i = true
  | 0, k, i, h1, h2 => by rw [ldF] at h2; omega
  | f + 1, k, i, h1, h2 => by
    rw [ldF] at h2
    by_cases h : p k = true
    · rw [if_pos h] at h2
      by_cases e : i = k
      · subst e; exact h
      · exact ldF_all p f (k + 1) i (by omega) h2
    · rw [if_neg h] at h2; omega
theorem ldF_stop (p : Nat → Bool) : ∀ f k, ldF p f k < k + f → p (ldF p f k) = false
  | 0, k, h => by rw [ldF] at h; omega
  | f + 1, k, h => by
    rw [ldF] at h ⊢
    by_cases e : p k = true
    · rw [if_pos e] at h ⊢
      exact ldF_stop p f (k + 1) (by omega)
    · rw [if_neg e]
      simpa using e
theorem lead_le (p : Nat → Bool) (n : Nat) : lead p n ≤ n := by have := ldF_le p n 0; unfold lead; omega
theorem lead_all {p : Nat → Bool} {n i : Nat} (h : i < lead p n) : p i = true := ldF_all p n 0 i (Nat.zero_le _) h
theorem lead_stop {p : Nat → Bool} {n : Nat} (h : lead p n < n) : p (lead p n) = false := ldF_stop p n 0 (by unfold lead at h; omega)
theorem lead_max {p : Nat → Bool} {n k : Nat} (hk : k ≤ n) (h : ∀ i, i < k → p i = true) : k ≤ lead p n := by
  rcases Nat.lt_or_ge (lead p n) k with q | q
  · have := lead_stop (p := p) (n := n) (by omega)
    rw [h _ q] at this
    cases this
  · exact q
theorem isS_nat {n x : Nat} (hn : n < 2147483648) (hx : x < 2147483648) : isS n (nI x) = decide (x < n) := by
  by_cases h : x < n
  · rw [decide_eq_true h]
    exact (isS_iff hn).mpr ⟨x, h, rfl⟩
  · rw [decide_eq_false h]
    cases e : isS n (nI x) with
    | false => rfl
    | true =>
      obtain ⟨j, h1, h2⟩ := (isS_iff hn).mp e
      exact absurd ((nI_eq (by omega) (by omega)).mp h2) (by omega)
theorem st_st (S : St) (k i : Nat) (x y : Int32) : st (st S k i x) k i y = st S k i y := by
  rw [st_n S, st_sr, st_n]
  congr 1
  funext j
  unfold upd
  by_cases h : j = i <;> simp [h]
theorem sr_st {S : St} {k k' i : Nat} {r : Nat → Int32} {x : Int32} (h : k ≠ k') : sr (st S k i x) k' r = st (sr S k' r) k i x := by
  funext j
  unfold st sr
  by_cases h1 : j = k'
  · have h2 : ¬ j = k := fun e => h (e.symm.trans h1)
    rw [if_pos h1, if_neg h2, if_pos h1]
  · rw [if_neg h1]
    dsimp only
    by_cases h2 : j = k
    · rw [if_pos h2, if_pos h2, if_neg h]
    · rw [if_neg h2, if_neg h2, if_neg h1]
/-- a stretch written over, one place more -/
theorem seg_upd (g base : Nat → Int32) (a k : Nat) {v : Int32} (hv : v = g k) : upd (fun i => if a ≤ i ∧ i < a + k then g (i - a) else base i) (a + k) v = fun i => if a ≤ i ∧ i < a + (k + 1) then g (i - a) else base i := by
  subst hv
  funext i
  unfold upd
  by_cases h : i = a + k
  · rw [if_pos h, if_pos (by omega), h, Nat.add_sub_cancel_left]
  · rw [if_neg h]
    dsimp only
    by_cases h2 : a ≤ i ∧ i < a + k
    · rw [if_pos h2, if_pos (by omega)]
    · rw [if_neg h2, if_neg (by omega)]
theorem seg_0 (g base : Nat → Int32) (a : Nat) : (fun i => if a ≤ i ∧ i < a + 0 then g (i - a) else base i) = base := by
  funext i
  rw [if_neg (by omega)]
theorem seg_out {g base : Nat → Int32} {a k i : Nat} (h : ¬ (a ≤ i ∧ i < a + k)) : (fun i => if a ≤ i ∧ i < a + k then g (i - a) else base i) i = base i := if_neg h
def seg (g base : Nat → Int32) (a k : Nat) : Nat → Int32 := fun i => if a ≤ i ∧ i < a + k then g (i - a) else base i
theorem seg_s (g base : Nat → Int32) (a k : Nat) {v : Int32} (hv : v = g k) : upd (seg g base a k) (a + k) v = seg g base a (k + 1) := seg_upd g base a k hv
theorem seg_z (g base : Nat → Int32) (a : Nat) : seg g base a 0 = base := seg_0 g base a
theorem seg_in {g base : Nat → Int32} {a k j : Nat} (h : j < k) : seg g base a k (a + j) = g j := by
  unfold seg
  rw [if_pos (by omega), Nat.add_sub_cancel_left]
theorem seg_o {g base : Nat → Int32} {a k i : Nat} (h : ¬ (a ≤ i ∧ i < a + k)) : seg g base a k i = base i := if_neg h
end
section
/-! Integer.bitCount's own way of counting, byte by byte -/
theorem and_split {k a m : Nat} (y n : Nat) (ha : a < 2 ^ k) (hm : m < 2 ^ k) : (2 ^ k * y + a) &&& (2 ^ k * n + m) = 2 ^ k * (y &&& n) + (a &&& m) := by
  have ham : a &&& m < 2 ^ k := Nat.lt_of_le_of_lt Nat.and_le_left ha
  apply Nat.eq_of_testBit_eq
  intro i
  rw [Nat.testBit_and, Nat.testBit_two_pow_mul_add _ ha, Nat.testBit_two_pow_mul_add _ hm, Nat.testBit_two_pow_mul_add _ ham]
  by_cases h : i < k
  · simp only [h, if_true, Nat.testBit_and]
  · simp only [h, if_false, Nat.testBit_and]
theorem pc_1 : ∀ a, a < 256 → ∀ t, t < 2 → ((a / 2 + 128 * t) &&& 85) = (a / 2) &&& 85 := by decide +kernel
theorem pc_2 : ∀ a, a < 256 → ∀ t, t < 4 → ((a / 4 + 64 * t) &&& 51) = (a / 4) &&& 51 := by decide +kernel
theorem pc_3 : ∀ a, a < 128 → ∀ t, t < 5 → ((a + a / 16 + 16 * t) &&& 15) = (a + a / 16) &&& 15 := by decide +kernel
def pcA (a : Nat) : Nat := a - ((a / 2) &&& 85)
def pcB (a : Nat) : Nat := (a &&& 51) + ((a / 4) &&& 51)
def pcC (a : Nat) : Nat := (a + a / 16) &&& 15
theorem pcA_lt : ∀ a, a < 256 → pcA a < 256 := by decide +kernel
theorem pcB_lt : ∀ a, a < 256 → pcB (pcA a) < 69 ∧ pcB (pcA a) % 16 < 5 ∧ pcB (pcA a) / 16 < 5 := by decide +kernel
theorem pcC_ct : ∀ a, a < 256 → pcC (pcB (pcA a)) = fb_ct (fun i => a.testBit i) 8 := by decide +kernel
/-- masks of n bytes -/
def pcM (m : Nat) : Nat → Nat
  | 0 => 0
  | n + 1 => 256 * pcM m n + m
theorem pcA_step (n a Y : Nat) (ha : a < 256) : (256 * Y + a) - (((256 * Y + a) / 2) &&& pcM 85 (n + 1)) = 256 * (Y - ((Y / 2) &&& pcM 85 n)) + pcA a := by
  have e : (256 * Y + a) / 2 = 2 ^ 8 * (Y / 2) + (a / 2 + 128 * (Y % 2)) := by omega
  rw [e, show pcM 85 (n + 1) = 2 ^ 8 * pcM 85 n + 85 from rfl, and_split (Y / 2) (pcM 85 n) (by omega) (by omega), pc_1 a ha _ (by omega)]
  have h1 : (Y / 2) &&& pcM 85 n ≤ Y / 2 := Nat.and_le_left
  have h2 : (a / 2) &&& 85 ≤ a / 2 := Nat.and_le_left
  unfold pcA
  omega
theorem pcB_step (n a Y : Nat) (ha : a < 256) : ((256 * Y + a) &&& pcM 51 (n + 1)) + (((256 * Y + a) / 4) &&& pcM 51 (n + 1)) = 256 * ((Y &&& pcM 51 n) + ((Y / 4) &&& pcM 51 n)) + pcB a := by
  have e : (256 * Y + a) / 4 = 2 ^ 8 * (Y / 4) + (a / 4 + 64 * (Y % 4)) := by omega
  have e0 : 256 * Y + a = 2 ^ 8 * Y + a := by omega
  rw [e, e0, show pcM 51 (n + 1) = 2 ^ 8 * pcM 51 n + 51 from rfl, and_split (Y / 4) (pcM 51 n) (by omega) (by omega), and_split Y (pcM 51 n) (by omega) (by omega), pc_2 a ha _ (by omega)]
  unfold pcB
  omega
theorem pcC_step (n a Y : Nat) (ha : a < 69) (hY : Y % 16 < 5) : ((256 * Y + a) + (256 * Y + a) / 16) &&& pcM 15 (n + 1) = 256 * ((Y + Y / 16) &&& pcM 15 n) + pcC a := by
  have e : (256 * Y + a) + (256 * Y + a) / 16 = 2 ^ 8 * (Y + Y / 16) + (a + a / 16 + 16 * (Y % 16)) := by omega
  rw [e, show pcM 15 (n + 1) = 2 ^ 8 * pcM 15 n + 15 from rfl, and_split (Y + Y / 16) (pcM 15 n) (by omega) (by omega), pc_3 a (by omega) _ hY]
  rfl
/-- four bytes -/
theorem pc_bytes (b0 b1 b2 b3 : Nat) (h0 : b0 < 256) (h1 : b1 < 256) (h2 : b2 < 256) (h3 : b3 < 256) {X i1 i2 i3 : Nat} (hX : X = 256 * (256 * (256 * (256 * 0 + b3) + b2) + b1) + b0) (e1 : i1 = X - ((X / 2) &&& 1431655765)) (e2 : i2 = (i1 &&& 858993459) + ((i1 / 4) &&& 858993459)) (e3 : i3 = (i2 + i2 / 16) &&& 252645135) :
    i3 = 256 * (256 * (256 * pcC (pcB (pcA b3)) + pcC (pcB (pcA b2))) + pcC (pcB (pcA b1))) + pcC (pcB (pcA b0)) := by
  have m1 : (1431655765 : Nat) = pcM 85 4 := by decide +kernel
  have m2 : (858993459 : Nat) = pcM 51 4 := by decide +kernel
  have m3 : (252645135 : Nat) = pcM 15 4 := by decide +kernel
  have k0 := pcB_lt b0 h0
  have k1 := pcB_lt b1 h1
  have k2 := pcB_lt b2 h2
  have k3 := pcB_lt b3 h3
  rw [hX, m1, pcA_step _ _ _ h0, pcA_step _ _ _ h1, pcA_step _ _ _ h2, pcA_step _ _ _ h3] at e1
  rw [show (0 : Nat) - ((0 / 2) &&& pcM 85 0) = 0 from rfl] at e1
  rw [e1, m2, pcB_step _ _ _ (pcA_lt b0 h0), pcB_step _ _ _ (pcA_lt b1 h1), pcB_step _ _ _ (pcA_lt b2 h2), pcB_step _ _ _ (pcA_lt b3 h3)] at e2
  rw [show ((0 : Nat) &&& pcM 51 0) + ((0 / 4) &&& pcM 51 0) = 0 from rfl] at e2
  rw [e2, m3, pcC_step _ _ _ k0.1 (by omega), pcC_step _ _ _ k1.1 (by omega), pcC_step _ _ _ k2.1 (by omega), pcC_step _ _ _ k3.1 (by omega)] at e3
  rw [show ((0 : Nat) + 0 / 16) &&& pcM 15 0 = 0 from rfl] at e3
  rw [e3]
  omega
theorem b_toNat (x : Int32) (i : Nat) : bt x i = x.toBitVec.toNat.testBit i := rfl
theorem toNat_lt (x : Int32) : x.toBitVec.toNat < 4294967296 := x.toBitVec.isLt
theorem toNat_add (x y : Int32) (h : x.toBitVec.toNat + y.toBitVec.toNat < 4294967296) : (x + y).toBitVec.toNat = x.toBitVec.toNat + y.toBitVec.toNat := by
  rw [Int32.toBitVec_add, BitVec.toNat_add, Nat.mod_eq_of_lt (by omega)]
theorem toNat_sub (x y : Int32) (h : y.toBitVec.toNat ≤ x.toBitVec.toNat) : (x - y).toBitVec.toNat = x.toBitVec.toNat - y.toBitVec.toNat := by
  have := toNat_lt x
  rw [Int32.toBitVec_sub, BitVec.toNat_sub]
  omega
theorem toNat_and (x y : Int32) : (x &&& y).toBitVec.toNat = x.toBitVec.toNat &&& y.toBitVec.toNat := by
  rw [Int32.toBitVec_and, BitVec.toNat_and]
theorem toNat_ush (x : Int32) (k : Nat) (hk : k < 32) : (ush x (nI k)).toBitVec.toNat = x.toBitVec.toNat / 2 ^ k := pk_ushr x (nI k) k (s_u k hk)
theorem toNat_nI {n : Nat} (h : n < 4294967296) : (nI n).toBitVec.toNat = n := pk_tn (by omega)
theorem and_lt {x m : Nat} : x &&& m ≤ m := Nat.and_le_right
theorem popcount (x i1 i2 i3 i4 i5 : Int32) (e1 : i1 = x - (ush x (nI 1) &&& 1431655765)) (e2 : i2 = (i1 &&& 858993459) + (ush i1 (nI 2) &&& 858993459)) (e3 : i3 = (i2 + ush i2 (nI 4)) &&& 252645135) (e4 : i4 = i3 + ush i3 (nI 8)) (e5 : i5 = i4 + ush i4 (nI 16)) : i5 &&& nI 63 = nI (pcn x) := by
  have n1 : (1431655765 : Int32).toBitVec.toNat = 1431655765 := by decide +kernel
  have n2 : (858993459 : Int32).toBitVec.toNat = 858993459 := by decide +kernel
  have n3 : (252645135 : Int32).toBitVec.toNat = 252645135 := by decide +kernel
  obtain ⟨X, hX⟩ : ∃ X, X = x.toBitVec.toNat := ⟨_, rfl⟩
  have hXl : X < 4294967296 := by rw [hX]; exact toNat_lt x
  have q1 : i1.toBitVec.toNat = X - ((X / 2) &&& 1431655765) := by
    have a1 : (X / 2) &&& 1431655765 ≤ X / 2 := Nat.and_le_left
    rw [e1, toNat_sub, toNat_and, toNat_ush x 1 (by omega), n1, ← hX]
    rw [toNat_and, toNat_ush x 1 (by omega), n1, ← hX]
    show (X / 2) &&& 1431655765 ≤ X
    omega
  have q2 : i2.toBitVec.toNat = (i1.toBitVec.toNat &&& 858993459) + ((i1.toBitVec.toNat / 4) &&& 858993459) := by
    have a1 : i1.toBitVec.toNat &&& 858993459 ≤ 858993459 := and_lt
    have a2 : (i1.toBitVec.toNat / 4) &&& 858993459 ≤ 858993459 := and_lt
    have b1 : (i1 &&& 858993459).toBitVec.toNat = i1.toBitVec.toNat &&& 858993459 := by rw [toNat_and, n2]
    have b2 : (ush i1 (nI 2) &&& 858993459).toBitVec.toNat = (i1.toBitVec.toNat / 4) &&& 858993459 := by rw [toNat_and, n2, toNat_ush i1 2 (by omega)]
    rw [e2, toNat_add _ _ (by rw [b1, b2]; omega), b1, b2]
  have q3 : i3.toBitVec.toNat = (i2.toBitVec.toNat + i2.toBitVec.toNat / 16) &&& 252645135 := by
    have a1 : i1.toBitVec.toNat &&& 858993459 ≤ 858993459 := and_lt
    have a2 : (i1.toBitVec.toNat / 4) &&& 858993459 ≤ 858993459 := and_lt
    have b2 : (ush i2 (nI 4)).toBitVec.toNat = i2.toBitVec.toNat / 16 := toNat_ush i2 4 (by omega)
    rw [e3, toNat_and, n3, toNat_add _ _ (by rw [b2]; omega), b2]
  have hb := pc_bytes (X % 256) (X / 256 % 256) (X / 65536 % 256) (X / 16777216) (by omega) (by omega) (by omega) (by omega) (X := X) (by omega) q1 q2 q3
  have c0 := pcC_ct (X % 256) (by omega)
  have c1 := pcC_ct (X / 256 % 256) (by omega)
  have c2 := pcC_ct (X / 65536 % 256) (by omega)
  have c3 := pcC_ct (X / 16777216) (by omega)
  have f0 := fb_ct_le (fun i => (X % 256).testBit i) 8
  have f1 := fb_ct_le (fun i => (X / 256 % 256).testBit i) 8
  have f2 := fb_ct_le (fun i => (X / 65536 % 256).testBit i) 8
  have f3 := fb_ct_le (fun i => (X / 16777216).testBit i) 8
  have hp : pcn x = fb_ct (fun i => (X % 256).testBit i) 8 + fb_ct (fun i => (X / 256 % 256).testBit i) 8 + fb_ct (fun i => (X / 65536 % 256).testBit i) 8 + fb_ct (fun i => (X / 16777216).testBit i) 8 := by
    unfold pcn
    rw [show (32 : Nat) = 24 + 8 from rfl, fb_ct_split, show (24 : Nat) = 16 + 8 from rfl, fb_ct_split, show (16 : Nat) = 8 + 8 from rfl, fb_ct_split]
    have t : ∀ j : Nat, bt x j = X.testBit j := fun j => by rw [b_toNat, hX]
    have g0 : fb_ct (bt x) 8 = fb_ct (fun i => (X % 256).testBit i) 8 := fb_ct_cong fun k hk => by
      rw [t, show (256 : Nat) = 2 ^ 8 from rfl, Nat.testBit_mod_two_pow]; simp [hk]
    have g1 : fb_ct (fun k => bt x (8 + k)) 8 = fb_ct (fun i => (X / 256 % 256).testBit i) 8 := fb_ct_cong fun k hk => by
      rw [t, show X / 256 % 256 = X / 2 ^ 8 % 2 ^ 8 from rfl, Nat.testBit_mod_two_pow, Nat.testBit_div_two_pow]; simp [hk, Nat.add_comm]
    have g2 : fb_ct (fun k => bt x (8 + 8 + k)) 8 = fb_ct (fun i => (X / 65536 % 256).testBit i) 8 := fb_ct_cong fun k hk => by
      rw [t, show X / 65536 % 256 = X / 2 ^ 16 % 2 ^ 8 from rfl, Nat.testBit_mod_two_pow, Nat.testBit_div_two_pow]; simp [hk, Nat.add_comm]
    have g3 : fb_ct (fun k => bt x (8 + 8 + 8 + k)) 8 = fb_ct (fun i => (X / 16777216).testBit i) 8 := fb_ct_cong fun k hk => by
      rw [t, show X / 16777216 = X / 2 ^ 24 from rfl, Nat.testBit_div_two_pow]; simp [Nat.add_comm]
    rw [g0, g1, g2, g3]
  rw [c0, c1, c2, c3] at hb
  obtain ⟨p0, hp0⟩ : ∃ p, p = fb_ct (fun i => (X % 256).testBit i) 8 := ⟨_, rfl⟩
  obtain ⟨p1, hp1⟩ : ∃ p, p = fb_ct (fun i => (X / 256 % 256).testBit i) 8 := ⟨_, rfl⟩
  obtain ⟨p2, hp2⟩ : ∃ p, p = fb_ct (fun i => (X / 65536 % 256).testBit i) 8 := ⟨_, rfl⟩
  obtain ⟨p3, hp3⟩ : ∃ p, p = fb_ct (fun i => (X / 16777216).testBit i) 8 := ⟨_, rfl⟩
  rw [← hp0, ← hp1, ← hp2, ← hp3] at hb hp
  rw [← hp0] at f0
  rw [← hp1] at f1
  rw [← hp2] at f2
  rw [← hp3] at f3
  have r4 : i4.toBitVec.toNat = i3.toBitVec.toNat + i3.toBitVec.toNat / 256 := by
    have b2 : (ush i3 (nI 8)).toBitVec.toNat = i3.toBitVec.toNat / 256 := toNat_ush i3 8 (by omega)
    rw [e4, toNat_add _ _ (by rw [b2]; omega), b2]
  have r5 : i5.toBitVec.toNat = i4.toBitVec.toNat + i4.toBitVec.toNat / 65536 := by
    have b2 : (ush i4 (nI 16)).toBitVec.toNat = i4.toBitVec.toNat / 65536 := toNat_ush i4 16 (by omega)
    rw [e5, toNat_add _ _ (by rw [b2]; omega), b2]
  have w3 : i3.toBitVec.toNat = 16777216 * p3 + 65536 * p2 + 256 * p1 + p0 := by omega
  have d3 : i3.toBitVec.toNat / 256 = 65536 * p3 + 256 * p2 + p1 := by omega
  have w4 : i4.toBitVec.toNat = 16777216 * p3 + 65536 * (p2 + p3) + 256 * (p1 + p2) + (p0 + p1) := by omega
  have d4 : i4.toBitVec.toNat / 65536 = 256 * p3 + (p2 + p3) := by omega
  have w5 : i5.toBitVec.toNat = 64 * (262144 * p3 + 1024 * (p2 + p3) + 4 * (p1 + p2 + p3)) + (p0 + p1 + p2 + p3) := by omega
  have hfin : i5.toBitVec.toNat % 64 = pcn x := by rw [hp, w5, Nat.mul_add_mod, Nat.mod_eq_of_lt (by omega)]
  rw [pk_and i5 (m := nI 63) 6 (by decide +kernel), ← hfin]
end
section
theorem c_X2_in {ks : List Nat} {S : St} {v a b : Int32} : Cn ks mX2_in yX2_in [.inl v, .inl a, .inl b] S (Ri (bI (decide (a ≤ v) && decide (v ≤ b))) S) := by
  refine cnS okX2_in 0 rfl ?_
  show Ev ks mX2_in 0 [some (.inl v), some (.inl a), some (.inl b)] [] S _
  refine ev_iload_n0 dX2_in_0 ?_
  refine ev_iload_n1 dX2_in_1 ?_
  first | refine ev_icmp_lt 14 (by decide) dX2_in_2 (fun h2 => ?_) (fun h2 => ?_)
  · refine ev_c0 dX2_in_14 ?_
    refine ev_zreturn zr0 rfl dX2_in_15 ?_
    refine ⟨?_, rfl⟩
    first | rw [decide_eq_false (Int32.not_le.mpr h2)] | rw [decide_eq_true (Int32.not_lt.mp h2)]
    first | rfl | (rw [decide_eq_false (Int32.not_le.mpr h7)]; rfl) | (rw [decide_eq_true (Int32.not_lt.mp h7)]; rfl)
  · refine ev_iload_n0 dX2_in_5 ?_
    refine ev_iload_n2 dX2_in_6 ?_
    first | refine ev_icmp_gt 14 (by decide) dX2_in_7 (fun h7 => ?_) (fun h7 => ?_)
    · refine ev_c0 dX2_in_14 ?_
      refine ev_zreturn zr0 rfl dX2_in_15 ?_
      refine ⟨?_, rfl⟩
      first | rw [decide_eq_false (Int32.not_le.mpr h2)] | rw [decide_eq_true (Int32.not_lt.mp h2)]
      first | rfl | (rw [decide_eq_false (Int32.not_le.mpr h7)]; rfl) | (rw [decide_eq_true (Int32.not_lt.mp h7)]; rfl)
    · refine ev_c1 dX2_in_10 ?_
      refine ev_goto 15 (by decide) dX2_in_11 ?_
      refine ev_zreturn zr1 rfl dX2_in_15 ?_
      refine ⟨?_, rfl⟩
      first | rw [decide_eq_false (Int32.not_le.mpr h2)] | rw [decide_eq_true (Int32.not_lt.mp h2)]
      first | rfl | (rw [decide_eq_false (Int32.not_le.mpr h7)]; rfl) | (rw [decide_eq_true (Int32.not_lt.mp h7)]; rfl)
theorem c_X2_has {ks : List Nat} {S : St} {x : Int32} {c : Nat} (hc : c < 32) : Cn ks mX2_has yX2_has [.inl x, .inl (nI c)] S (Ri (bI (bt x c)) S) := by
  refine cnS okX2_has 0 rfl ?_
  show Ev ks mX2_has 0 [some (.inl x), some (.inl (nI c))] [] S _
  refine ev_iload_n0 dX2_has_0 ?_
  refine ev_iload_n1 dX2_has_1 ?_
  refine ev_ishr dX2_has_2 ?_
  refine ev_c1 dX2_has_3 ?_
  rw [nI_lit1]
  refine ev_iand dX2_has_4 ?_
  rw [x_bit x c hc]
  refine ev_c1 dX2_has_5 ?_
  first | refine ev_icmp_ne 13 (by decide) dX2_has_6 (fun h6 => ?_) (fun h6 => ?_)
  · refine ev_c0 dX2_has_13 ?_
    refine ev_zreturn zr0 rfl dX2_has_14 ?_
    refine ⟨?_, rfl⟩
    rw [bI_1] at h6
    cases hb : bt x c
    · first | rfl | exact absurd h6 (by rw [hb]; decide)
    · first | rfl | exact absurd hb h6
  · refine ev_c1 dX2_has_9 ?_
    refine ev_goto 14 (by decide) dX2_has_10 ?_
    refine ev_zreturn zr1 rfl dX2_has_14 ?_
    refine ⟨?_, rfl⟩
    rw [bI_1] at h6
    cases hb : bt x c
    · first | rfl | exact absurd h6 (by rw [hb]; decide)
    · first | rfl | exact absurd hb h6
theorem c_X2_bits {ks : List Nat} {S : St} {x : Int32} : Cn ks mX2_bits yX2_bits [.inl x] S (Ri (nI (pcn x)) S) := by
  refine cnS okX2_bits 2 rfl ?_
  show Ev ks mX2_bits 0 [some (.inl x), none, none] [] S _
  have loop : ∀ f k, k + f = 32 → Ev ks mX2_bits 4 [some (.inl x), some (.inl (nI (fb_ct (bt x) k))), some (.inl (nI k))] [] S (Ri (nI (pcn x)) S) := by
    intro f
    induction f with
    | zero =>
      intro k hk
      refine ev_iload_n2 dX2_bits_4 ?_
      refine ev_bipush (nI 32) kb_32 dX2_bits_5 ?_
      first | refine ev_icmp_geN 32 (by omega) (by omega) (by decide) dX2_bits_7 (fun h7 => ?_) (fun h7 => by exfalso; omega) | refine ev_icmp_ge 32 (by decide) dX2_bits_7 (fun h7 => ?_) (fun h7 => by exfalso; omega)
      refine ev_iload_n1 dX2_bits_32 ?_
      refine ev_ireturn rfl dX2_bits_33 ?_
      obtain rfl : k = 32 := by omega
      exact ⟨rfl, rfl⟩
    | succ f ih =>
      intro k hk
      have hs := fb_ct_succ (bt x) k
      refine ev_iload_n2 dX2_bits_4 ?_
      refine ev_bipush (nI 32) kb_32 dX2_bits_5 ?_
      first | refine ev_icmp_geN 32 (by omega) (by omega) (by decide) dX2_bits_7 (fun h7 => by exfalso; omega) (fun h7 => ?_) | refine ev_icmp_ge 32 (by decide) dX2_bits_7 (fun h7 => by exfalso; omega) (fun h7 => ?_)
      refine ev_iload_n1 dX2_bits_10 ?_
      refine ev_iload_n0 dX2_bits_11 ?_
      refine ev_iload_n2 dX2_bits_12 ?_
      refine ev_cS2f okX2_has lkX2_39 (Nat.le_of_ble_eq_true rfl) (Nat.le_of_ble_eq_true rfl) (c_X2_has (by omega)) dX2_bits_13 ?_
      first | refine ev_if_eqB 23 (by decide) dX2_bits_16 (fun h16 => ?_) (fun h16 => ?_)
      · refine ev_c0 dX2_bits_23 ?_
        first | refine ev_iaddN dX2_bits_24 ?_ | refine ev_iadd dX2_bits_24 ?_
        refine ev_istore_n1 dX2_bits_25 ?_
        refine ev_iinc2 dX2_bits_26 ?_
        refine ev_goto 4 (by decide) dX2_bits_29 ?_
        rw [h16] at hs
        simp only [if_true, Bool.false_eq_true, if_false] at hs
        rw [← hs]
        exact ih (k + 1) (by omega)
      · refine ev_c1 dX2_bits_19 ?_
        refine ev_goto 24 (by decide) dX2_bits_20 ?_
        first | refine ev_iaddN dX2_bits_24 ?_ | refine ev_iadd dX2_bits_24 ?_
        refine ev_istore_n1 dX2_bits_25 ?_
        refine ev_iinc2 dX2_bits_26 ?_
        refine ev_goto 4 (by decide) dX2_bits_29 ?_
        rw [h16] at hs
        simp only [if_true, Bool.false_eq_true, if_false] at hs
        rw [← hs]
        exact ih (k + 1) (by omega)
  refine ev_c0 dX2_bits_0 ?_
  refine ev_istore_n1 dX2_bits_1 ?_
  refine ev_c0 dX2_bits_2 ?_
  refine ev_istore_n2 dX2_bits_3 ?_
  exact loop 32 0 rfl
theorem c_X2_start {ks : List Nat} (hM : InM ks) {S : St} {a b : Int32} : Cn ks mX2_start yX2_start [.inr 103, .inl a, .inl b] S (Rv (sr S 104 (fun i => if i = 0 then a else if i = 1 then b else 0))) := by
  refine cnV okX2_start 1 rfl ?_
  show Ev ks mX2_start 0 [some (.inr 103), some (.inl a), some (.inl b), none] [] S _
  have loop : ∀ f k, k + f = 1263 → Ev ks mX2_start 2 [some (.inr 103), some (.inl a), some (.inl b), some (.inl (nI k))] [] (sr S 104 (fun i => if i < k then 0 else S 104 i)) (Rv (sr S 104 (fun i => if i = 0 then a else if i = 1 then b else 0))) := by
    intro f
    induction f with
    | zero =>
      intro k hk
      refine ev_iload_n3 dX2_start_2 ?_
      refine ev_sipush (nI 1263) kh_1263 dX2_start_3 ?_
      first | refine ev_icmp_geN 22 (by omega) (by omega) (by decide) dX2_start_6 (fun h6 => ?_) (fun h6 => by exfalso; omega) | refine ev_icmp_ge 22 (by decide) dX2_start_6 (fun h6 => ?_) (fun h6 => by exfalso; omega)
      refine ev_aload_n0 dX2_start_22 ?_
      refine gfX2_7 rfl (hM 103 rfl) dX2_start_23 ?_
      refine ev_c0 dX2_start_26 ?_
      refine ev_iload_n1 dX2_start_27 ?_
      refine ev_iast 1263 rfl rfl (hM 104 rfl) (by omega) dX2_start_28 ?_
      rw [st_sr]
      refine ev_aload_n0 dX2_start_29 ?_
      refine gfX2_7 rfl (hM 103 rfl) dX2_start_30 ?_
      refine ev_c1 dX2_start_33 ?_
      refine ev_iload_n2 dX2_start_34 ?_
      refine ev_iast 1263 rfl rfl (hM 104 rfl) (by omega) dX2_start_35 ?_
      rw [st_sr]
      obtain rfl : k = 1263 := by omega
      refine ev_cong (S' := sr S 104 (fun i => if i = 0 then a else if i = 1 then b else 0)) (fun q hq i hi => ?_) ?_
      · by_cases h : q = 104
        · subst h
          have hi : i < 1263 := hi
          rw [sr_s, sr_s]
          unfold upd
          by_cases h1 : i = 1
          · simp [h1]
          · by_cases h0 : i = 0
            · simp [h0]
            · simp [h1, h0, hi]
        · rw [sr_n h, sr_n h]
      refine ev_return rfl dX2_start_36 ?_
      exact ⟨rfl, rfl⟩
    | succ f ih =>
      intro k hk
      refine ev_iload_n3 dX2_start_2 ?_
      refine ev_sipush (nI 1263) kh_1263 dX2_start_3 ?_
      first | refine ev_icmp_geN 22 (by omega) (by omega) (by decide) dX2_start_6 (fun h6 => by exfalso; omega) (fun h6 => ?_) | refine ev_icmp_ge 22 (by decide) dX2_start_6 (fun h6 => by exfalso; omega) (fun h6 => ?_)
      refine ev_aload_n0 dX2_start_9 ?_
      refine gfX2_7 rfl (hM 103 rfl) dX2_start_10 ?_
      refine ev_iload_n3 dX2_start_13 ?_
      refine ev_c0 dX2_start_14 ?_
      refine ev_iast 1263 rfl rfl (hM 104 rfl) (by omega) dX2_start_15 ?_
      refine ev_iinc3 dX2_start_16 ?_
      refine ev_goto 2 (by decide) dX2_start_19 ?_
      rw [st_sr]
      have e : upd (fun i => if i < k then 0 else S 104 i) k (nI 0) = (fun i => if i < k + 1 then 0 else S 104 i) := by
        funext i
        unfold upd
        by_cases h : i = k
        · rw [if_pos h, if_pos (by omega), nI_0]
        · rw [if_neg h]
          dsimp only
          by_cases h2 : i < k
          · rw [if_pos h2, if_pos (by omega)]
          · rw [if_neg h2, if_neg (by omega)]
      rw [e]
      exact ih (k + 1) (by omega)
  refine ev_c0 dX2_start_0 ?_
  refine ev_istore_n3 dX2_start_1 ?_
  have h := loop 1263 0 rfl
  have e : sr S 104 (fun i => if i < 0 then 0 else S 104 i) = S := by
    have : (fun i => if i < 0 then 0 else S 104 i) = S 104 := by funext i; rw [if_neg (by omega)]
    rw [this, sr_self]
  rw [e] at h
  exact h
theorem c_X2_many {ks : List Nat} (hM : InM ks) {S : St} {n : Nat} (hn : S 104 0 = nI n) : Cn ks mX2_many yX2_many [.inr 103] S (Ri (nI n) S) := by
  refine cnV okX2_many 0 rfl ?_
  show Ev ks mX2_many 0 [some (.inr 103)] [] S _
  refine ev_aload_n0 dX2_many_0 ?_
  refine gfX2_7 rfl (hM 103 rfl) dX2_many_1 ?_
  refine ev_c0 dX2_many_4 ?_
  refine ev_iald 1263 rfl rfl (hM 104 rfl) (by omega) dX2_many_5 ?_
  rw [hn]
  refine ev_ireturn rfl dX2_many_6 ?_
  exact ⟨rfl, rfl⟩
theorem c_X2_isSite {ks : List Nat} (hM : InM ks) {S : St} {n : Nat} (hn : S 104 0 = nI n) (h2 : 2 ≤ n) (h4 : n ≤ 4) {q : Int32} : Cn ks mX2_isSite yX2_isSite [.inr 103, .inl q] S (Ri (bI (isS n q)) S) := by
  refine cnV okX2_isSite 0 rfl ?_
  show Ev ks mX2_isSite 0 [some (.inr 103), some (.inl q)] [] S _
  refine ev_iload_n1 dX2_isSite_0 ?_
  refine ev_c0 dX2_isSite_1 ?_
  refine ev_aload_n0 dX2_isSite_2 ?_
  refine gfX2_7 rfl (hM 103 rfl) dX2_isSite_3 ?_
  refine ev_c0 dX2_isSite_6 ?_
  refine ev_iald 1263 rfl rfl (hM 104 rfl) (by omega) dX2_isSite_7 ?_
  rw [hn]
  refine ev_c1 dX2_isSite_8 ?_
  first | refine ev_isubN (by omega) dX2_isSite_9 ?_ | refine ev_isub dX2_isSite_9 ?_
  refine ev_cS3f okX2_in lkX2_43 (Nat.le_of_ble_eq_true rfl) (Nat.le_of_ble_eq_true rfl) c_X2_in dX2_isSite_10 ?_
  rw [isS_le (by omega) (by omega)]
  refine ev_zreturn (bI_01 _) rfl dX2_isSite_13 ?_
  exact ⟨rfl, rfl⟩
theorem c_X2_isDown {ks : List Nat} (hM : InM ks) {S : St} {q : Nat} (hq : q < 32) : Cn ks mX2_isDown yX2_isDown [.inr 103, .inl (nI q)] S (Ri (bI (bt (S 104 2) q)) S) := by
  refine cnV okX2_isDown 0 rfl ?_
  show Ev ks mX2_isDown 0 [some (.inr 103), some (.inl (nI q))] [] S _
  refine ev_aload_n0 dX2_isDown_0 ?_
  refine gfX2_7 rfl (hM 103 rfl) dX2_isDown_1 ?_
  refine ev_c2 dX2_isDown_4 ?_
  refine ev_iald 1263 rfl rfl (hM 104 rfl) (by omega) dX2_isDown_5 ?_
  refine ev_iload_n1 dX2_isDown_6 ?_
  refine ev_cS2f okX2_has lkX2_39 (Nat.le_of_ble_eq_true rfl) (Nat.le_of_ble_eq_true rfl) (c_X2_has (by omega)) dX2_isDown_7 ?_
  refine ev_zreturn (bI_01 _) rfl dX2_isDown_10 ?_
  exact ⟨rfl, rfl⟩
theorem c_X2_receipts {ks : List Nat} (hM : InM ks) {S : St} {q : Nat} (hq : q < 4) : Cn ks mX2_receipts yX2_receipts [.inr 103, .inl (nI q)] S (Ri (S 104 (3 + q)) S) := by
  refine cnV okX2_receipts 0 rfl ?_
  show Ev ks mX2_receipts 0 [some (.inr 103), some (.inl (nI q))] [] S _
  refine ev_aload_n0 dX2_receipts_0 ?_
  refine gfX2_7 rfl (hM 103 rfl) dX2_receipts_1 ?_
  refine ev_c3 dX2_receipts_4 ?_
  refine ev_iload_n1 dX2_receipts_5 ?_
  first | refine ev_iaddN dX2_receipts_6 ?_ | refine ev_iadd dX2_receipts_6 ?_
  refine ev_iald 1263 rfl rfl (hM 104 rfl) (by omega) dX2_receipts_7 ?_
  refine ev_ireturn rfl dX2_receipts_8 ?_
  exact ⟨rfl, rfl⟩
theorem c_X2_ofReceipt {ks : List Nat} (hM : InM ks) {S : St} {q r a : Nat} (hq : q < 4) (hr : r < 8) (ha : a < 3) : Cn ks mX2_ofReceipt yX2_ofReceipt [.inr 103, .inl (nI q), .inl (nI r), .inl (nI a)] S (Ri (S 104 (7 + 24 * q + 3 * r + a)) S) := by
  refine cnV okX2_ofReceipt 0 rfl ?_
  show Ev ks mX2_ofReceipt 0 [some (.inr 103), some (.inl (nI q)), some (.inl (nI r)), some (.inl (nI a))] [] S _
  refine ev_aload_n0 dX2_ofReceipt_0 ?_
  refine gfX2_7 rfl (hM 103 rfl) dX2_ofReceipt_1 ?_
  refine ev_bipush (nI 7) kb_7 dX2_ofReceipt_4 ?_
  refine ev_bipush (nI 24) kb_24 dX2_ofReceipt_6 ?_
  refine ev_iload_n1 dX2_ofReceipt_8 ?_
  first | refine ev_imulN dX2_ofReceipt_9 ?_ | refine ev_imul dX2_ofReceipt_9 ?_
  first | refine ev_iaddN dX2_ofReceipt_10 ?_ | refine ev_iadd dX2_ofReceipt_10 ?_
  refine ev_c3 dX2_ofReceipt_11 ?_
  refine ev_iload_n2 dX2_ofReceipt_12 ?_
  first | refine ev_imulN dX2_ofReceipt_13 ?_ | refine ev_imul dX2_ofReceipt_13 ?_
  first | refine ev_iaddN dX2_ofReceipt_14 ?_ | refine ev_iadd dX2_ofReceipt_14 ?_
  refine ev_iload_n3 dX2_ofReceipt_15 ?_
  first | refine ev_iaddN dX2_ofReceipt_16 ?_ | refine ev_iadd dX2_ofReceipt_16 ?_
  refine ev_iald 1263 rfl rfl (hM 104 rfl) (by omega) dX2_ofReceipt_17 ?_
  refine ev_ireturn rfl dX2_ofReceipt_18 ?_
  exact ⟨rfl, rfl⟩
theorem c_X2_stateOf {ks : List Nat} (hM : InM ks) {S : St} {q r : Nat} (hq : q < 4) (hr : S 104 (3 + q) = nI r) (h8 : r ≤ 8) : Cn ks mX2_stateOf yX2_stateOf [.inr 103, .inl (nI q)] S (Ri (if r = 0 then nI (q + 1) else S 104 (7 + 24 * q + 3 * (r - 1) + 2)) S) := by
  refine cnV okX2_stateOf 0 rfl ?_
  show Ev ks mX2_stateOf 0 [some (.inr 103), some (.inl (nI q))] [] S _
  refine ev_aload_n0 dX2_stateOf_0 ?_
  refine ev_iload_n1 dX2_stateOf_1 ?_
  refine ev_cV1f okX2_receipts lkX2_47 (Nat.le_of_ble_eq_true rfl) (Nat.le_of_ble_eq_true rfl) (hM 103 rfl) isO_103 (c_X2_receipts hM (by omega)) dX2_stateOf_2 ?_
  rw [hr]
  first | refine ev_if_neN 14 (by omega) (by decide) dX2_stateOf_5 (fun h5 => ?_) (fun h5 => ?_) | refine ev_if_ne 14 (by decide) dX2_stateOf_5 (fun h5 => ?_) (fun h5 => ?_)
  · refine ev_aload_n0 dX2_stateOf_14 ?_
    refine ev_iload_n1 dX2_stateOf_15 ?_
    refine ev_aload_n0 dX2_stateOf_16 ?_
    refine ev_iload_n1 dX2_stateOf_17 ?_
    refine ev_cV1f okX2_receipts lkX2_47 (Nat.le_of_ble_eq_true rfl) (Nat.le_of_ble_eq_true rfl) (hM 103 rfl) isO_103 (c_X2_receipts hM (by omega)) dX2_stateOf_18 ?_
    rw [hr]
    refine ev_c1 dX2_stateOf_21 ?_
    first | refine ev_isubN (by omega) dX2_stateOf_22 ?_ | refine ev_isub dX2_stateOf_22 ?_
    refine ev_c2 dX2_stateOf_23 ?_
    refine ev_cV3f okX2_ofReceipt lkX2_51 (Nat.le_of_ble_eq_true rfl) (Nat.le_of_ble_eq_true rfl) (hM 103 rfl) isO_103 (c_X2_ofReceipt hM (by omega) (by omega) (by omega)) dX2_stateOf_24 ?_
    refine ev_ireturn rfl dX2_stateOf_27 ?_
    refine ⟨?_, rfl⟩
    first | rw [if_pos h5] | rw [if_neg (by omega)]
  · refine ev_iload_n1 dX2_stateOf_8 ?_
    refine ev_c1 dX2_stateOf_9 ?_
    first | refine ev_iaddN dX2_stateOf_10 ?_ | refine ev_iadd dX2_stateOf_10 ?_
    refine ev_goto 27 (by decide) dX2_stateOf_11 ?_
    refine ev_ireturn rfl dX2_stateOf_27 ?_
    refine ⟨?_, rfl⟩
    first | rw [if_pos h5] | rw [if_neg (by omega)]
theorem c_X2_way {ks : List Nat} {S : St} {x y : Nat} : Cn ks mX2_way yX2_way [.inl (nI x), .inl (nI y)] S (Ri (nI (4 * x + y)) S) := by
  refine cnS okX2_way 0 rfl ?_
  show Ev ks mX2_way 0 [some (.inl (nI x)), some (.inl (nI y))] [] S _
  refine ev_c4 dX2_way_0 ?_
  refine ev_iload_n0 dX2_way_1 ?_
  first | refine ev_imulN dX2_way_2 ?_ | refine ev_imul dX2_way_2 ?_
  refine ev_iload_n1 dX2_way_3 ?_
  first | refine ev_iaddN dX2_way_4 ?_ | refine ev_iadd dX2_way_4 ?_
  refine ev_ireturn rfl dX2_way_5 ?_
  exact ⟨rfl, rfl⟩
theorem c_X2_letters {ks : List Nat} (hM : InM ks) {S : St} {x y : Nat} (hx : x < 5) (hy : y < 4) : Cn ks mX2_letters yX2_letters [.inr 103, .inl (nI x), .inl (nI y)] S (Ri (S 104 (123 + (4 * x + y))) S) := by
  refine cnV okX2_letters 0 rfl ?_
  show Ev ks mX2_letters 0 [some (.inr 103), some (.inl (nI x)), some (.inl (nI y))] [] S _
  refine ev_aload_n0 dX2_letters_0 ?_
  refine gfX2_7 rfl (hM 103 rfl) dX2_letters_1 ?_
  refine ev_bipush (nI 123) kb_123 dX2_letters_4 ?_
  refine ev_iload_n1 dX2_letters_6 ?_
  refine ev_iload_n2 dX2_letters_7 ?_
  refine ev_cS2f okX2_way lkX2_55 (Nat.le_of_ble_eq_true rfl) (Nat.le_of_ble_eq_true rfl) c_X2_way dX2_letters_8 ?_
  first | refine ev_iaddN dX2_letters_11 ?_ | refine ev_iadd dX2_letters_11 ?_
  refine ev_iald 1263 rfl rfl (hM 104 rfl) (by omega) dX2_letters_12 ?_
  refine ev_ireturn rfl dX2_letters_13 ?_
  exact ⟨rfl, rfl⟩
theorem c_X2_letterAt {ks : List Nat} {S : St} {x y k : Nat} : Cn ks mX2_letterAt yX2_letterAt [.inl (nI x), .inl (nI y), .inl (nI k)] S (Ri (nI (143 + 7 * (8 * (4 * x + y) + k))) S) := by
  refine cnS okX2_letterAt 0 rfl ?_
  show Ev ks mX2_letterAt 0 [some (.inl (nI x)), some (.inl (nI y)), some (.inl (nI k))] [] S _
  refine ev_sipush (nI 143) kh_143 dX2_letterAt_0 ?_
  refine ev_bipush (nI 7) kb_7 dX2_letterAt_3 ?_
  refine ev_bipush (nI 8) kb_8 dX2_letterAt_5 ?_
  refine ev_iload_n0 dX2_letterAt_7 ?_
  refine ev_iload_n1 dX2_letterAt_8 ?_
  refine ev_cS2f okX2_way lkX2_55 (Nat.le_of_ble_eq_true rfl) (Nat.le_of_ble_eq_true rfl) c_X2_way dX2_letterAt_9 ?_
  first | refine ev_imulN dX2_letterAt_12 ?_ | refine ev_imul dX2_letterAt_12 ?_
  refine ev_iload_n2 dX2_letterAt_13 ?_
  first | refine ev_iaddN dX2_letterAt_14 ?_ | refine ev_iadd dX2_letterAt_14 ?_
  first | refine ev_imulN dX2_letterAt_15 ?_ | refine ev_imul dX2_letterAt_15 ?_
  first | refine ev_iaddN dX2_letterAt_16 ?_ | refine ev_iadd dX2_letterAt_16 ?_
  refine ev_ireturn rfl dX2_letterAt_17 ?_
  exact ⟨rfl, rfl⟩
/-- four bits of a word -/
def kni (w : Int32) (c : Nat) : Int32 := (w >>> (nI (4 * (c % 8)) &&& 31)) &&& nI 15
theorem c_X2_knownIn {ks : List Nat} {S : St} {w : Int32} {c : Nat} (hc : c < 32) : Cn ks mX2_knownIn yX2_knownIn [.inl w, .inl (nI c)] S (Ri (kni w c) S) := by
  refine cnS okX2_knownIn 0 rfl ?_
  show Ev ks mX2_knownIn 0 [some (.inl w), some (.inl (nI c))] [] S _
  refine ev_iload_n0 dX2_knownIn_0 ?_
  refine ev_c4 dX2_knownIn_1 ?_
  refine ev_iload_n1 dX2_knownIn_2 ?_
  refine ev_bipush (nI 8) kb_8 dX2_knownIn_3 ?_
  refine ev_iremN (by omega) (by omega) (by omega) dX2_knownIn_5 ?_
  first | refine ev_imulN dX2_knownIn_6 ?_ | refine ev_imul dX2_knownIn_6 ?_
  refine ev_ishr dX2_knownIn_7 ?_
  refine ev_bipush (nI 15) kb_15 dX2_knownIn_8 ?_
  refine ev_iand dX2_knownIn_10 ?_
  refine ev_ireturn rfl dX2_knownIn_11 ?_
  exact ⟨rfl, rfl⟩
theorem c_X2_knownBy {ks : List Nat} (hM : InM ks) {S : St} {q c : Nat} (hq : q < 4) (hc : c < 32) : Cn ks mX2_knownBy yX2_knownBy [.inr 103, .inl (nI q), .inl (nI c)] S (Ri (kni (S 104 (107 + 4 * q + c / 8)) c) S) := by
  refine cnV okX2_knownBy 0 rfl ?_
  show Ev ks mX2_knownBy 0 [some (.inr 103), some (.inl (nI q)), some (.inl (nI c))] [] S _
  refine ev_aload_n0 dX2_knownBy_0 ?_
  refine gfX2_7 rfl (hM 103 rfl) dX2_knownBy_1 ?_
  refine ev_bipush (nI 107) kb_107 dX2_knownBy_4 ?_
  refine ev_c4 dX2_knownBy_6 ?_
  refine ev_iload_n1 dX2_knownBy_7 ?_
  first | refine ev_imulN dX2_knownBy_8 ?_ | refine ev_imul dX2_knownBy_8 ?_
  first | refine ev_iaddN dX2_knownBy_9 ?_ | refine ev_iadd dX2_knownBy_9 ?_
  refine ev_iload_n2 dX2_knownBy_10 ?_
  refine ev_bipush (nI 8) kb_8 dX2_knownBy_11 ?_
  refine ev_idivN (by omega) (by omega) (by omega) dX2_knownBy_13 ?_
  first | refine ev_iaddN dX2_knownBy_14 ?_ | refine ev_iadd dX2_knownBy_14 ?_
  refine ev_iald 1263 rfl rfl (hM 104 rfl) (by omega) dX2_knownBy_15 ?_
  refine ev_iload_n2 dX2_knownBy_16 ?_
  refine ev_cS2f okX2_knownIn lkX2_59 (Nat.le_of_ble_eq_true rfl) (Nat.le_of_ble_eq_true rfl) (c_X2_knownIn (by omega)) dX2_knownBy_17 ?_
  refine ev_ireturn rfl dX2_knownBy_20 ?_
  exact ⟨rfl, rfl⟩
/-- the reference's row behind know(q, c, sites) -/
def knowR (m : Nat → Int32) (q c : Nat) (s : Int32) : Nat → Int32 :=
  let m1 := upd m (107 + 4 * q + c / 8) (m (107 + 4 * q + c / 8) &&& ((nI 15 <<< (nI (4 * (c % 8)) &&& 31)) ^^^ (-1)) ||| s <<< (nI (4 * (c % 8)) &&& 31))
  upd m1 (103 + q) (if s = 0 then m1 (103 + q) &&& ((nI 1 <<< (nI c &&& 31)) ^^^ (-1)) else m1 (103 + q) ||| nI 1 <<< (nI c &&& 31))
theorem c_X2_know {ks : List Nat} (hM : InM ks) {S : St} {q c : Nat} {s : Int32} (hq : q < 4) (hc : c < 32) : Cn ks mX2_know yX2_know [.inr 103, .inl (nI q), .inl (nI c), .inl s] S (Rv (sr S 104 (knowR (S 104) q c s))) := by
  refine cnV okX2_know 2 rfl ?_
  show Ev ks mX2_know 0 [some (.inr 103), some (.inl (nI q)), some (.inl (nI c)), some (.inl s), none, none] [] S _
  refine ev_bipush (nI 107) kb_107 dX2_know_0 ?_
  refine ev_c4 dX2_know_2 ?_
  refine ev_iload_n1 dX2_know_3 ?_
  first | refine ev_imulN dX2_know_4 ?_ | refine ev_imul dX2_know_4 ?_
  first | refine ev_iaddN dX2_know_5 ?_ | refine ev_iadd dX2_know_5 ?_
  refine ev_iload_n2 dX2_know_6 ?_
  refine ev_bipush (nI 8) kb_8 dX2_know_7 ?_
  refine ev_idivN (by omega) (by omega) (by omega) dX2_know_9 ?_
  first | refine ev_iaddN dX2_know_10 ?_ | refine ev_iadd dX2_know_10 ?_
  refine ev_istore4 dX2_know_11 ?_
  refine ev_c4 dX2_know_13 ?_
  refine ev_iload_n2 dX2_know_14 ?_
  refine ev_bipush (nI 8) kb_8 dX2_know_15 ?_
  refine ev_iremN (by omega) (by omega) (by omega) dX2_know_17 ?_
  first | refine ev_imulN dX2_know_18 ?_ | refine ev_imul dX2_know_18 ?_
  refine ev_istore5 dX2_know_19 ?_
  refine ev_aload_n0 dX2_know_21 ?_
  refine gfX2_7 rfl (hM 103 rfl) dX2_know_22 ?_
  refine ev_iload4 dX2_know_25 ?_
  refine ev_aload_n0 dX2_know_27 ?_
  refine gfX2_7 rfl (hM 103 rfl) dX2_know_28 ?_
  refine ev_iload4 dX2_know_31 ?_
  refine ev_iald 1263 rfl rfl (hM 104 rfl) (by omega) dX2_know_33 ?_
  refine ev_bipush (nI 15) kb_15 dX2_know_34 ?_
  refine ev_iload5 dX2_know_36 ?_
  refine ev_ishl dX2_know_38 ?_
  refine ev_cm1 dX2_know_39 ?_
  refine ev_ixor dX2_know_40 ?_
  refine ev_iand dX2_know_41 ?_
  refine ev_iload_n3 dX2_know_42 ?_
  refine ev_iload5 dX2_know_43 ?_
  refine ev_ishl dX2_know_45 ?_
  refine ev_ior dX2_know_46 ?_
  refine ev_iast 1263 rfl rfl (hM 104 rfl) (by omega) dX2_know_47 ?_
  rw [st_n]
  refine ev_aload_n0 dX2_know_48 ?_
  refine gfX2_7 rfl (hM 103 rfl) dX2_know_49 ?_
  refine ev_bipush (nI 103) kb_103 dX2_know_52 ?_
  refine ev_iload_n1 dX2_know_54 ?_
  first | refine ev_iaddN dX2_know_55 ?_ | refine ev_iadd dX2_know_55 ?_
  refine ev_iload_n3 dX2_know_56 ?_
  first | refine ev_if_neN 78 (by omega) (by decide) dX2_know_57 (fun h57 => ?_) (fun h57 => ?_) | refine ev_if_ne 78 (by decide) dX2_know_57 (fun h57 => ?_) (fun h57 => ?_)
  · refine ev_aload_n0 dX2_know_78 ?_
    refine gfX2_7 rfl (hM 103 rfl) dX2_know_79 ?_
    refine ev_bipush (nI 103) kb_103 dX2_know_82 ?_
    refine ev_iload_n1 dX2_know_84 ?_
    first | refine ev_iaddN dX2_know_85 ?_ | refine ev_iadd dX2_know_85 ?_
    refine ev_iald 1263 rfl rfl (hM 104 rfl) (by omega) dX2_know_86 ?_
    refine ev_c1 dX2_know_87 ?_
    refine ev_iload_n2 dX2_know_88 ?_
    refine ev_ishl dX2_know_89 ?_
    refine ev_ior dX2_know_90 ?_
    refine ev_iast 1263 rfl rfl (hM 104 rfl) (by omega) dX2_know_91 ?_
    refine ev_return rfl dX2_know_92 ?_
    rw [st_sr, sr_s]
    refine ⟨rfl, ?_⟩
    unfold knowR
    dsimp only
    first | rw [if_pos h57] | rw [if_neg h57]
  · refine ev_aload_n0 dX2_know_60 ?_
    refine gfX2_7 rfl (hM 103 rfl) dX2_know_61 ?_
    refine ev_bipush (nI 103) kb_103 dX2_know_64 ?_
    refine ev_iload_n1 dX2_know_66 ?_
    first | refine ev_iaddN dX2_know_67 ?_ | refine ev_iadd dX2_know_67 ?_
    refine ev_iald 1263 rfl rfl (hM 104 rfl) (by omega) dX2_know_68 ?_
    refine ev_c1 dX2_know_69 ?_
    refine ev_iload_n2 dX2_know_70 ?_
    refine ev_ishl dX2_know_71 ?_
    refine ev_cm1 dX2_know_72 ?_
    refine ev_ixor dX2_know_73 ?_
    refine ev_iand dX2_know_74 ?_
    refine ev_goto 91 (by decide) dX2_know_75 ?_
    refine ev_iast 1263 rfl rfl (hM 104 rfl) (by omega) dX2_know_91 ?_
    refine ev_return rfl dX2_know_92 ?_
    rw [st_sr, sr_s]
    refine ⟨rfl, ?_⟩
    unfold knowR
    dsimp only
    first | rw [if_pos h57] | rw [if_neg h57]
theorem c_X2_isWay {ks : List Nat} (hM : InM ks) {S : St} {n : Nat} (hn : S 104 0 = nI n) (h2 : 2 ≤ n) (h4 : n ≤ 4) {x y : Int32} : Cn ks mX2_isWay yX2_isWay [.inr 103, .inl x, .inl y] S (Ri (bI (isW n x y)) S) := by
  refine cnV okX2_isWay 0 rfl ?_
  show Ev ks mX2_isWay 0 [some (.inr 103), some (.inl x), some (.inl y)] [] S _
  refine ev_aload_n0 dX2_isWay_0 ?_
  refine ev_iload_n2 dX2_isWay_1 ?_
  refine ev_cV1f okX2_isSite lkX2_78 (Nat.le_of_ble_eq_true rfl) (Nat.le_of_ble_eq_true rfl) (hM 103 rfl) isO_103 (c_X2_isSite hM hn (by omega) (by omega)) dX2_isWay_2 ?_
  first | refine ev_if_eqB 29 (by decide) dX2_isWay_5 (fun h5 => ?_) (fun h5 => ?_)
  · refine ev_c0 dX2_isWay_29 ?_
    refine ev_zreturn zr0 rfl dX2_isWay_30 ?_
    refine ⟨?_, rfl⟩
    unfold isW
    rw [h5]
    first | rfl | (rw [h17]; first | done | rfl | (rw [decide_eq_true h22]; done) | (rw [decide_eq_true h22]; rfl) | (rw [decide_eq_false (fun z => z h22)]; done) | (rw [decide_eq_false (fun z => z h22)]; rfl))
  · refine ev_iload_n1 dX2_isWay_8 ?_
    refine ev_c0 dX2_isWay_9 ?_
    refine ev_aload_n0 dX2_isWay_10 ?_
    refine ev_cV0f okX2_many lkX2_82 (Nat.le_of_ble_eq_true rfl) (Nat.le_of_ble_eq_true rfl) (hM 103 rfl) isO_103 (c_X2_many hM hn) dX2_isWay_11 ?_
    refine ev_cS3f okX2_in lkX2_43 (Nat.le_of_ble_eq_true rfl) (Nat.le_of_ble_eq_true rfl) c_X2_in dX2_isWay_14 ?_
    rw [isS_in (by omega)]
    first | refine ev_if_eqB 29 (by decide) dX2_isWay_17 (fun h17 => ?_) (fun h17 => ?_)
    · refine ev_c0 dX2_isWay_29 ?_
      refine ev_zreturn zr0 rfl dX2_isWay_30 ?_
      refine ⟨?_, rfl⟩
      unfold isW
      rw [h5]
      first | rfl | (rw [h17]; first | done | rfl | (rw [decide_eq_true h22]; done) | (rw [decide_eq_true h22]; rfl) | (rw [decide_eq_false (fun z => z h22)]; done) | (rw [decide_eq_false (fun z => z h22)]; rfl))
    · refine ev_iload_n1 dX2_isWay_20 ?_
      refine ev_iload_n2 dX2_isWay_21 ?_
      first | refine ev_icmp_eq 29 (by decide) dX2_isWay_22 (fun h22 => ?_) (fun h22 => ?_)
      · refine ev_c0 dX2_isWay_29 ?_
        refine ev_zreturn zr0 rfl dX2_isWay_30 ?_
        refine ⟨?_, rfl⟩
        unfold isW
        rw [h5]
        first | rfl | (rw [h17]; first | done | rfl | (rw [decide_eq_true h22]; done) | (rw [decide_eq_true h22]; rfl) | (rw [decide_eq_false (fun z => z h22)]; done) | (rw [decide_eq_false (fun z => z h22)]; rfl))
      · refine ev_c1 dX2_isWay_25 ?_
        refine ev_goto 30 (by decide) dX2_isWay_26 ?_
        refine ev_zreturn zr1 rfl dX2_isWay_30 ?_
        refine ⟨?_, rfl⟩
        unfold isW
        rw [h5]
        first | rfl | (rw [h17]; first | done | rfl | (rw [decide_eq_true h22]; done) | (rw [decide_eq_true h22]; rfl) | (rw [decide_eq_false (fun z => z h22)]; done) | (rw [decide_eq_false (fun z => z h22)]; rfl))
theorem c_X2_isKeptCode_none {ks : List Nat} (hM : InM ks) {S : St} : Cn ks mX2_isKeptCode yX2_isKeptCode [.inr 103, .inl (-9)] S (Ri (bI true) S) := by
  refine cnV okX2_isKeptCode 0 rfl ?_
  show Ev ks mX2_isKeptCode 0 [some (.inr 103), some (.inl (-9))] [] S _
  refine ev_iload_n1 dX2_isKeptCode_0 ?_
  refine ev_bipush (-9 : Int32) kb_m9 dX2_isKeptCode_1 ?_
  first | refine ev_icmp_eq 22 (by decide) dX2_isKeptCode_3 (fun h3 => ?_) (fun h3 => by exact absurd rfl h3)
  refine ev_c1 dX2_isKeptCode_22 ?_
  refine ev_goto 27 (by decide) dX2_isKeptCode_23 ?_
  refine ev_zreturn zr1 rfl dX2_isKeptCode_27 ?_
  exact ⟨rfl, rfl⟩
theorem c_X2_isKeptCode {ks : List Nat} (hM : InM ks) {S : St} {c k : Nat} (hc : c < 32) (hk : S 110 (c / 8) = nI k) (h8 : k ≤ 8) : Cn ks mX2_isKeptCode yX2_isKeptCode [.inr 103, .inl (nI c)] S (Ri (bI (decide (c % 8 < k))) S) := by
  refine cnV okX2_isKeptCode 0 rfl ?_
  show Ev ks mX2_isKeptCode 0 [some (.inr 103), some (.inl (nI c))] [] S _
  refine ev_iload_n1 dX2_isKeptCode_0 ?_
  refine ev_bipush (-9 : Int32) kb_m9 dX2_isKeptCode_1 ?_
  first | refine ev_icmp_eq 22 (by decide) dX2_isKeptCode_3 (fun h3 => by exact absurd h3 (nI_neg (by omega) m9_neg)) (fun h3 => ?_)
  refine ev_iload_n1 dX2_isKeptCode_6 ?_
  refine ev_bipush (nI 8) kb_8 dX2_isKeptCode_7 ?_
  refine ev_iremN (by omega) (by omega) (by omega) dX2_isKeptCode_9 ?_
  refine ev_aload_n0 dX2_isKeptCode_10 ?_
  refine gfX2_29 rfl (hM 103 rfl) dX2_isKeptCode_11 ?_
  refine ev_iload_n1 dX2_isKeptCode_14 ?_
  refine ev_bipush (nI 8) kb_8 dX2_isKeptCode_15 ?_
  refine ev_idivN (by omega) (by omega) (by omega) dX2_isKeptCode_17 ?_
  refine ev_iald 4 rfl rfl (hM 110 rfl) (by omega) dX2_isKeptCode_18 ?_
  rw [hk]
  first | refine ev_icmp_geN 26 (by omega) (by omega) (by decide) dX2_isKeptCode_19 (fun h19 => ?_) (fun h19 => ?_) | refine ev_icmp_ge 26 (by decide) dX2_isKeptCode_19 (fun h19 => ?_) (fun h19 => ?_)
  · refine ev_c0 dX2_isKeptCode_26 ?_
    refine ev_zreturn zr0 rfl dX2_isKeptCode_27 ?_
    refine ⟨?_, rfl⟩
    first | (rw [decide_eq_true h19]; rfl) | (rw [decide_eq_false (by omega)]; rfl)
  · refine ev_c1 dX2_isKeptCode_22 ?_
    refine ev_goto 27 (by decide) dX2_isKeptCode_23 ?_
    refine ev_zreturn zr1 rfl dX2_isKeptCode_27 ?_
    refine ⟨?_, rfl⟩
    first | (rw [decide_eq_true h19]; rfl) | (rw [decide_eq_false (by omega)]; rfl)
theorem c_X2_birthOf {ks : List Nat} (hM : InM ks) {S : St} {q r x k : Nat} (hq : q < 4) (hr : r < 8) (hx : S 104 (7 + 24 * q + 3 * r + 0) = nI x) (hk : S 104 (7 + 24 * q + 3 * r + 1) = nI k) (hx5 : x < 5) (hk8 : k < 8) : Cn ks mX2_birthOf yX2_birthOf [.inr 103, .inl (nI q), .inl (nI r)] S (Ri (S 104 (143 + 7 * (8 * (4 * x + q) + k) + 1)) S) := by
  refine cnV okX2_birthOf 1 rfl ?_
  show Ev ks mX2_birthOf 0 [some (.inr 103), some (.inl (nI q)), some (.inl (nI r)), none] [] S _
  refine ev_aload_n0 dX2_birthOf_0 ?_
  refine ev_iload_n1 dX2_birthOf_1 ?_
  refine ev_iload_n2 dX2_birthOf_2 ?_
  refine ev_c0 dX2_birthOf_3 ?_
  refine ev_cV3f okX2_ofReceipt lkX2_51 (Nat.le_of_ble_eq_true rfl) (Nat.le_of_ble_eq_true rfl) (hM 103 rfl) isO_103 (c_X2_ofReceipt hM (by omega) (by omega) (by omega)) dX2_birthOf_4 ?_
  rw [hx]
  refine ev_istore_n3 dX2_birthOf_7 ?_
  refine ev_aload_n0 dX2_birthOf_8 ?_
  refine gfX2_7 rfl (hM 103 rfl) dX2_birthOf_9 ?_
  refine ev_iload_n3 dX2_birthOf_12 ?_
  refine ev_iload_n1 dX2_birthOf_13 ?_
  refine ev_aload_n0 dX2_birthOf_14 ?_
  refine ev_iload_n1 dX2_birthOf_15 ?_
  refine ev_iload_n2 dX2_birthOf_16 ?_
  refine ev_c1 dX2_birthOf_17 ?_
  refine ev_cV3f okX2_ofReceipt lkX2_51 (Nat.le_of_ble_eq_true rfl) (Nat.le_of_ble_eq_true rfl) (hM 103 rfl) isO_103 (c_X2_ofReceipt hM (by omega) (by omega) (by omega)) dX2_birthOf_18 ?_
  rw [hk]
  refine ev_cS3f okX2_letterAt lkX2_65 (Nat.le_of_ble_eq_true rfl) (Nat.le_of_ble_eq_true rfl) c_X2_letterAt dX2_birthOf_21 ?_
  refine ev_c1 dX2_birthOf_24 ?_
  first | refine ev_iaddN dX2_birthOf_25 ?_ | refine ev_iadd dX2_birthOf_25 ?_
  refine ev_iald 1263 rfl rfl (hM 104 rfl) (by omega) dX2_birthOf_26 ?_
  refine ev_ireturn rfl dX2_birthOf_27 ?_
  exact ⟨rfl, rfl⟩
end
section
set_option maxRecDepth 4000 in
theorem c_J7_fill {ks : List Nat} {k : Nat} (hk : k ∈ ks) (ha : isA k = true) {S : St} {x : Int32} : Cn ks mJ7_fill_53178 yJ7_fill_53178 [.inr k, .inl x] S (Rv (sr S k (fun _ => x))) := by
  refine cnS okJ7_fill_53178 2 rfl ?_
  show Ev ks mJ7_fill_53178 0 [some (.inr k), some (.inl x), none, none] [] S _
  have hle := alen_le k
  have loop : ∀ f j, j + f = alen k → Ev ks mJ7_fill_53178 5 [some (.inr k), some (.inl x), some (.inl (nI j)), some (.inl (nI (alen k)))] [] (sr S k (fun i => if i < j then x else S k i)) (Rv (sr S k (fun _ => x))) := by
    intro f
    induction f with
    | zero =>
      intro j hj
      refine ev_iload_n2 dJ7_fill_53178_5 ?_
      refine ev_iload_n3 dJ7_fill_53178_6 ?_
      refine ev_icmp_geN 20 (by omega) (by omega) (by decide) dJ7_fill_53178_7 (fun h7 => ?_) (fun h7 => by exfalso; omega)
      refine ev_cong (S' := sr S k (fun _ => x)) (fun q hq i hi => ?_) ?_
      · by_cases h : q = k
        · subst h
          rw [sr_s, sr_s]
          have hi : i < alen q := by unfold wid at hi; rw [ha] at hi; exact hi
          rw [if_pos (by omega)]
        · rw [sr_n h, sr_n h]
      · exact ev_return rfl dJ7_fill_53178_20 ⟨rfl, rfl⟩
    | succ f ih =>
      intro j hj
      refine ev_iload_n2 dJ7_fill_53178_5 ?_
      refine ev_iload_n3 dJ7_fill_53178_6 ?_
      refine ev_icmp_geN 20 (by omega) (by omega) (by decide) dJ7_fill_53178_7 (fun h7 => by exfalso; omega) (fun h7 => ?_)
      refine ev_aload_n0 dJ7_fill_53178_10 ?_
      refine ev_iload_n2 dJ7_fill_53178_11 ?_
      refine ev_iload_n1 dJ7_fill_53178_12 ?_
      refine ev_iast (alen k) rfl ha hk (by omega) dJ7_fill_53178_13 ?_
      refine ev_iinc2 dJ7_fill_53178_14 ?_
      refine ev_goto 5 (by decide) dJ7_fill_53178_17 ?_
      rw [st_sr]
      have e : upd (fun i => if i < j then x else S k i) j x = (fun i => if i < j + 1 then x else S k i) := by
        funext i
        unfold upd
        by_cases h : i = j
        · rw [if_pos h, if_pos (by omega)]
        · rw [if_neg h]
          dsimp only
          by_cases h2 : i < j
          · rw [if_pos h2, if_pos (by omega)]
          · rw [if_neg h2, if_neg (by omega)]
      rw [e]
      exact ih (j + 1) (by omega)
  refine ev_c0 dJ7_fill_53178_0 ?_
  refine ev_istore_n2 dJ7_fill_53178_1 ?_
  refine ev_aload_n0 dJ7_fill_53178_2 ?_
  refine ev_alen (alen k) rfl ha hk dJ7_fill_53178_3 ?_
  refine ev_istore_n3 dJ7_fill_53178_4 ?_
  have h := loop (alen k) 0 (by omega)
  have e : sr S k (fun i => if i < 0 then x else S k i) = S := by
    have : (fun i => if i < 0 then x else S k i) = S k := by funext i; rw [if_neg (by omega)]
    rw [this, sr_self]
  rw [e] at h
  exact h
theorem c_J6_bitCount_0f7a4 {ks : List Nat} {S : St} {x : Int32} : Cn ks mJ6_bitCount_0f7a4 yJ6_bitCount_0f7a4 [.inl x] S (Ri (nI (pcn x)) S) := by
  refine cnS okJ6_bitCount_0f7a4 0 rfl ?_
  show Ev ks mJ6_bitCount_0f7a4 0 [some (.inl x)] [] S _
  refine ev_iload_n0 dJ6_bitCount_0f7a4_0 ?_
  refine ev_iload_n0 dJ6_bitCount_0f7a4_1 ?_
  refine ev_c1 dJ6_bitCount_0f7a4_2 ?_
  refine ev_iushr dJ6_bitCount_0f7a4_3 ?_
  refine ev_ldcw _ kw_265 dJ6_bitCount_0f7a4_4 ?_
  refine ev_iand dJ6_bitCount_0f7a4_7 ?_
  refine ev_isub dJ6_bitCount_0f7a4_8 ?_
  refine ev_istore_n0 dJ6_bitCount_0f7a4_9 ?_
  generalize e1 : x - (ush x (nI 1) &&& 1431655765) = i1
  refine ev_iload_n0 dJ6_bitCount_0f7a4_10 ?_
  refine ev_ldcw _ kw_266 dJ6_bitCount_0f7a4_11 ?_
  refine ev_iand dJ6_bitCount_0f7a4_14 ?_
  refine ev_iload_n0 dJ6_bitCount_0f7a4_15 ?_
  refine ev_c2 dJ6_bitCount_0f7a4_16 ?_
  refine ev_iushr dJ6_bitCount_0f7a4_17 ?_
  refine ev_ldcw _ kw_266 dJ6_bitCount_0f7a4_18 ?_
  refine ev_iand dJ6_bitCount_0f7a4_21 ?_
  refine ev_iadd dJ6_bitCount_0f7a4_22 ?_
  refine ev_istore_n0 dJ6_bitCount_0f7a4_23 ?_
  generalize e2 : (i1 &&& 858993459) + (ush i1 (nI 2) &&& 858993459) = i2
  refine ev_iload_n0 dJ6_bitCount_0f7a4_24 ?_
  refine ev_iload_n0 dJ6_bitCount_0f7a4_25 ?_
  refine ev_c4 dJ6_bitCount_0f7a4_26 ?_
  refine ev_iushr dJ6_bitCount_0f7a4_27 ?_
  refine ev_iadd dJ6_bitCount_0f7a4_28 ?_
  refine ev_ldcw _ kw_267 dJ6_bitCount_0f7a4_29 ?_
  refine ev_iand dJ6_bitCount_0f7a4_32 ?_
  refine ev_istore_n0 dJ6_bitCount_0f7a4_33 ?_
  generalize e3 : (i2 + ush i2 (nI 4)) &&& 252645135 = i3
  refine ev_iload_n0 dJ6_bitCount_0f7a4_34 ?_
  refine ev_iload_n0 dJ6_bitCount_0f7a4_35 ?_
  refine ev_bipush (nI 8) kb_8 dJ6_bitCount_0f7a4_36 ?_
  refine ev_iushr dJ6_bitCount_0f7a4_38 ?_
  refine ev_iadd dJ6_bitCount_0f7a4_39 ?_
  refine ev_istore_n0 dJ6_bitCount_0f7a4_40 ?_
  generalize e4 : i3 + ush i3 (nI 8) = i4
  refine ev_iload_n0 dJ6_bitCount_0f7a4_41 ?_
  refine ev_iload_n0 dJ6_bitCount_0f7a4_42 ?_
  refine ev_bipush (nI 16) kb_16 dJ6_bitCount_0f7a4_43 ?_
  refine ev_iushr dJ6_bitCount_0f7a4_45 ?_
  refine ev_iadd dJ6_bitCount_0f7a4_46 ?_
  refine ev_istore_n0 dJ6_bitCount_0f7a4_47 ?_
  generalize e5 : i4 + ush i4 (nI 16) = i5
  refine ev_iload_n0 dJ6_bitCount_0f7a4_48 ?_
  refine ev_bipush (nI 63) kb_63 dJ6_bitCount_0f7a4_49 ?_
  refine ev_iand dJ6_bitCount_0f7a4_51 ?_
  refine ev_ireturn rfl dJ6_bitCount_0f7a4_52 ?_
  exact ⟨by rw [popcount x i1 i2 i3 i4 i5 e1.symm e2.symm e3.symm e4.symm e5.symm], rfl⟩
/-- a world begun anew -/
def startW (S : St) (a b : Int32) : St := sr (sr (sr (st (st (st S 0 0 a) 0 1 b) 0 2 0) 1 (fun _ => 0)) 6 (fun _ => 0)) 11 (fun _ => 0)
theorem c_X0_start {ks : List Nat} (hW : InW ks) {S : St} {a b : Int32} : Cn ks mX0_start yX0_start [.inr 0, .inl a, .inl b] S (Rv (startW S a b)) := by
  refine cnV okX0_start 0 rfl ?_
  show Ev ks mX0_start 0 [some (.inr 0), some (.inl a), some (.inl b)] [] S _
  refine ev_aload_n0 dX0_start_0 ?_
  refine ev_iload_n1 dX0_start_1 ?_
  refine pfX0_49 rfl (hW 0 rfl) dX0_start_2 ?_
  refine ev_aload_n0 dX0_start_5 ?_
  refine ev_iload_n2 dX0_start_6 ?_
  refine pfX0_53 rfl (hW 0 rfl) dX0_start_7 ?_
  refine ev_aload_n0 dX0_start_10 ?_
  refine ev_c0 dX0_start_11 ?_
  refine pfX0_56 rfl (hW 0 rfl) dX0_start_12 ?_
  refine ev_aload_n0 dX0_start_15 ?_
  refine gfX0_9 rfl (hW 0 rfl) dX0_start_16 ?_
  refine ev_c0 dX0_start_19 ?_
  refine ev_fill okJ7_fill_53178 lkX0_59 (Nat.le_of_ble_eq_true rfl) (Nat.le_of_ble_eq_true rfl) (c_J7_fill (hW 1 rfl) rfl) dX0_start_20 ?_
  refine ev_aload_n0 dX0_start_23 ?_
  refine gfX0_27 rfl (hW 0 rfl) dX0_start_24 ?_
  refine ev_c0 dX0_start_27 ?_
  refine ev_fill okJ7_fill_53178 lkX0_59 (Nat.le_of_ble_eq_true rfl) (Nat.le_of_ble_eq_true rfl) (c_J7_fill (hW 6 rfl) rfl) dX0_start_28 ?_
  refine ev_aload_n0 dX0_start_31 ?_
  refine gfX0_42 rfl (hW 0 rfl) dX0_start_32 ?_
  refine ev_c0 dX0_start_35 ?_
  refine ev_fill okJ7_fill_53178 lkX0_59 (Nat.le_of_ble_eq_true rfl) (Nat.le_of_ble_eq_true rfl) (c_J7_fill (hW 11 rfl) rfl) dX0_start_36 ?_
  refine ev_return rfl dX0_start_39 ?_
  exact ⟨rfl, by rw [nI_0]; rfl⟩
theorem c_X0_codeOf {ks : List Nat} {S : St} {q r : Nat} : Cn ks mX0_codeOf yX0_codeOf [.inl (nI q), .inl (nI r)] S (Ri (nI (q * 8 + r)) S) := by
  refine cnS okX0_codeOf 0 rfl ?_
  show Ev ks mX0_codeOf 0 [some (.inl (nI q)), some (.inl (nI r))] [] S _
  refine ev_iload_n0 dX0_codeOf_0 ?_
  refine ev_bipush (nI 8) kb_8 dX0_codeOf_1 ?_
  first | refine ev_imulN dX0_codeOf_3 ?_ | refine ev_imul dX0_codeOf_3 ?_
  refine ev_iload_n1 dX0_codeOf_4 ?_
  first | refine ev_iaddN dX0_codeOf_5 ?_ | refine ev_iadd dX0_codeOf_5 ?_
  refine ev_ireturn rfl dX0_codeOf_6 ?_
  exact ⟨rfl, rfl⟩
theorem c_X0_codesOf {ks : List Nat} {S : St} {q : Nat} : Cn ks mX0_codesOf yX0_codesOf [.inl (nI q)] S (Ri (nI 255 <<< (nI (q * 8) &&& 31)) S) := by
  refine cnS okX0_codesOf 0 rfl ?_
  show Ev ks mX0_codesOf 0 [some (.inl (nI q))] [] S _
  refine ev_sipush (nI 255) kh_255 dX0_codesOf_0 ?_
  refine ev_iload_n0 dX0_codesOf_3 ?_
  refine ev_bipush (nI 8) kb_8 dX0_codesOf_4 ?_
  first | refine ev_imulN dX0_codesOf_6 ?_ | refine ev_imul dX0_codesOf_6 ?_
  refine ev_ishl dX0_codesOf_7 ?_
  refine ev_ireturn rfl dX0_codesOf_8 ?_
  exact ⟨rfl, rfl⟩
theorem c_X0_receiptsIn {ks : List Nat} {S : St} {x : Int32} {q : Nat} : Cn ks mX0_receiptsIn yX0_receiptsIn [.inl x, .inl (nI q)] S (Ri (nI (pcn (x &&& (nI 255 <<< (nI (q * 8) &&& 31))))) S) := by
  refine cnS okX0_receiptsIn 0 rfl ?_
  show Ev ks mX0_receiptsIn 0 [some (.inl x), some (.inl (nI q))] [] S _
  refine ev_iload_n0 dX0_receiptsIn_0 ?_
  refine ev_iload_n1 dX0_receiptsIn_1 ?_
  refine ev_cS1f okX0_codesOf lkX0_71 (Nat.le_of_ble_eq_true rfl) (Nat.le_of_ble_eq_true rfl) c_X0_codesOf dX0_receiptsIn_2 ?_
  refine ev_iand dX0_receiptsIn_5 ?_
  refine ev_cS1f okJ6_bitCount_0f7a4 lkX0_75 (Nat.le_of_ble_eq_true rfl) (Nat.le_of_ble_eq_true rfl) c_J6_bitCount_0f7a4 dX0_receiptsIn_6 ?_
  refine ev_ireturn rfl dX0_receiptsIn_9 ?_
  exact ⟨rfl, rfl⟩
theorem c_X0_wayOf {ks : List Nat} {S : St} {x y : Nat} : Cn ks mX0_wayOf yX0_wayOf [.inl (nI x), .inl (nI y)] S (Ri (nI (x * 4 + y)) S) := by
  refine cnS okX0_wayOf 0 rfl ?_
  show Ev ks mX0_wayOf 0 [some (.inl (nI x)), some (.inl (nI y))] [] S _
  refine ev_iload_n0 dX0_wayOf_0 ?_
  refine ev_c4 dX0_wayOf_1 ?_
  first | refine ev_imulN dX0_wayOf_2 ?_ | refine ev_imul dX0_wayOf_2 ?_
  refine ev_iload_n1 dX0_wayOf_3 ?_
  first | refine ev_iaddN dX0_wayOf_4 ?_ | refine ev_iadd dX0_wayOf_4 ?_
  refine ev_ireturn rfl dX0_wayOf_5 ?_
  exact ⟨rfl, rfl⟩
theorem c_X0_letterOn {ks : List Nat} {S : St} {x y k : Nat} : Cn ks mX0_letterOn yX0_letterOn [.inl (nI x), .inl (nI y), .inl (nI k)] S (Ri (nI ((x * 4 + y) * 8 + k)) S) := by
  refine cnS okX0_letterOn 0 rfl ?_
  show Ev ks mX0_letterOn 0 [some (.inl (nI x)), some (.inl (nI y)), some (.inl (nI k))] [] S _
  refine ev_iload_n0 dX0_letterOn_0 ?_
  refine ev_iload_n1 dX0_letterOn_1 ?_
  refine ev_cS2f okX0_wayOf lkX0_80 (Nat.le_of_ble_eq_true rfl) (Nat.le_of_ble_eq_true rfl) c_X0_wayOf dX0_letterOn_2 ?_
  refine ev_bipush (nI 8) kb_8 dX0_letterOn_5 ?_
  first | refine ev_imulN dX0_letterOn_7 ?_ | refine ev_imul dX0_letterOn_7 ?_
  refine ev_iload_n2 dX0_letterOn_8 ?_
  first | refine ev_iaddN dX0_letterOn_9 ?_ | refine ev_iadd dX0_letterOn_9 ?_
  refine ev_ireturn rfl dX0_letterOn_10 ?_
  exact ⟨rfl, rfl⟩
theorem c_X0_isSite {ks : List Nat} (hW : InW ks) {S : St} {n : Nat} (hn : S 0 0 = nI n) {q : Int32} : Cn ks mX0_isSite yX0_isSite [.inr 0, .inl q] S (Ri (bI (isS n q)) S) := by
  refine cnV okX0_isSite 0 rfl ?_
  show Ev ks mX0_isSite 0 [some (.inr 0), some (.inl q)] [] S _
  refine ev_iload_n1 dX0_isSite_0 ?_
  first | refine ev_if_lt 16 (by decide) dX0_isSite_1 (fun h1 => ?_) (fun h1 => ?_)
  · refine ev_c0 dX0_isSite_16 ?_
    refine ev_zreturn zr0 rfl dX0_isSite_17 ?_
    refine ⟨?_, rfl⟩
    unfold isS
    first | (rw [decide_eq_false (Int32.not_le.mpr h1)]; rfl) | (rw [decide_eq_true (Int32.not_lt.mp h1)]; first | (rw [decide_eq_false (Int32.not_lt.mpr h9)]; rfl) | (rw [decide_eq_true (Int32.not_le.mp h9)]; rfl))
  · refine ev_iload_n1 dX0_isSite_4 ?_
    refine ev_aload_n0 dX0_isSite_5 ?_
    refine gfX0_49 rfl (hW 0 rfl) dX0_isSite_6 ?_
    rw [hn]
    first | refine ev_icmp_ge 16 (by decide) dX0_isSite_9 (fun h9 => ?_) (fun h9 => ?_)
    · refine ev_c0 dX0_isSite_16 ?_
      refine ev_zreturn zr0 rfl dX0_isSite_17 ?_
      refine ⟨?_, rfl⟩
      unfold isS
      first | (rw [decide_eq_false (Int32.not_le.mpr h1)]; rfl) | (rw [decide_eq_true (Int32.not_lt.mp h1)]; first | (rw [decide_eq_false (Int32.not_lt.mpr h9)]; rfl) | (rw [decide_eq_true (Int32.not_le.mp h9)]; rfl))
    · refine ev_c1 dX0_isSite_12 ?_
      refine ev_goto 17 (by decide) dX0_isSite_13 ?_
      refine ev_zreturn zr1 rfl dX0_isSite_17 ?_
      refine ⟨?_, rfl⟩
      unfold isS
      first | (rw [decide_eq_false (Int32.not_le.mpr h1)]; rfl) | (rw [decide_eq_true (Int32.not_lt.mp h1)]; first | (rw [decide_eq_false (Int32.not_lt.mpr h9)]; rfl) | (rw [decide_eq_true (Int32.not_le.mp h9)]; rfl))
theorem c_X0_isWay {ks : List Nat} (hW : InW ks) {S : St} {n : Nat} (hn : S 0 0 = nI n) (h4 : n ≤ 4) {x y : Int32} : Cn ks mX0_isWay yX0_isWay [.inr 0, .inl x, .inl y] S (Ri (bI (isW n x y)) S) := by
  refine cnV okX0_isWay 0 rfl ?_
  show Ev ks mX0_isWay 0 [some (.inr 0), some (.inl x), some (.inl y)] [] S _
  have e : isS (n + 1) x = (decide (0 ≤ x) && decide (x ≤ nI n)) := by rw [← isS_in (by omega), nI_0]
  refine ev_iload_n1 dX0_isWay_0 ?_
  first | refine ev_if_lt 29 (by decide) dX0_isWay_1 (fun h1 => ?_) (fun h1 => ?_)
  · refine ev_c0 dX0_isWay_29 ?_
    refine ev_zreturn zr0 rfl dX0_isWay_30 ?_
    refine ⟨?_, rfl⟩
    unfold isW
    rw [e]
    first | (rw [decide_eq_false (Int32.not_le.mpr h1), Bool.false_and, Bool.and_false]; rfl) | (rw [decide_eq_true (Int32.not_lt.mp h1)]; first | (rw [decide_eq_false (Int32.not_le.mpr h9), Bool.and_false, Bool.and_false]; rfl) | (rw [decide_eq_true (Int32.not_lt.mp h9), h17]; first | done | rfl | (rw [decide_eq_true h22]; first | done | rfl) | (rw [decide_eq_false (fun z => z h22)]; first | done | rfl)))
  · refine ev_iload_n1 dX0_isWay_4 ?_
    refine ev_aload_n0 dX0_isWay_5 ?_
    refine gfX0_49 rfl (hW 0 rfl) dX0_isWay_6 ?_
    rw [hn]
    first | refine ev_icmp_gt 29 (by decide) dX0_isWay_9 (fun h9 => ?_) (fun h9 => ?_)
    · refine ev_c0 dX0_isWay_29 ?_
      refine ev_zreturn zr0 rfl dX0_isWay_30 ?_
      refine ⟨?_, rfl⟩
      unfold isW
      rw [e]
      first | (rw [decide_eq_false (Int32.not_le.mpr h1), Bool.false_and, Bool.and_false]; rfl) | (rw [decide_eq_true (Int32.not_lt.mp h1)]; first | (rw [decide_eq_false (Int32.not_le.mpr h9), Bool.and_false, Bool.and_false]; rfl) | (rw [decide_eq_true (Int32.not_lt.mp h9), h17]; first | done | rfl | (rw [decide_eq_true h22]; first | done | rfl) | (rw [decide_eq_false (fun z => z h22)]; first | done | rfl)))
    · refine ev_aload_n0 dX0_isWay_12 ?_
      refine ev_iload_n2 dX0_isWay_13 ?_
      refine ev_cV1f okX0_isSite lkX0_84 (Nat.le_of_ble_eq_true rfl) (Nat.le_of_ble_eq_true rfl) (hW 0 rfl) isO_0 (c_X0_isSite hW hn) dX0_isWay_14 ?_
      first | refine ev_if_eqB 29 (by decide) dX0_isWay_17 (fun h17 => ?_) (fun h17 => ?_)
      · refine ev_c0 dX0_isWay_29 ?_
        refine ev_zreturn zr0 rfl dX0_isWay_30 ?_
        refine ⟨?_, rfl⟩
        unfold isW
        rw [e]
        first | (rw [decide_eq_false (Int32.not_le.mpr h1), Bool.false_and, Bool.and_false]; rfl) | (rw [decide_eq_true (Int32.not_lt.mp h1)]; first | (rw [decide_eq_false (Int32.not_le.mpr h9), Bool.and_false, Bool.and_false]; rfl) | (rw [decide_eq_true (Int32.not_lt.mp h9), h17]; first | done | rfl | (rw [decide_eq_true h22]; first | done | rfl) | (rw [decide_eq_false (fun z => z h22)]; first | done | rfl)))
      · refine ev_iload_n1 dX0_isWay_20 ?_
        refine ev_iload_n2 dX0_isWay_21 ?_
        first | refine ev_icmp_eq 29 (by decide) dX0_isWay_22 (fun h22 => ?_) (fun h22 => ?_)
        · refine ev_c0 dX0_isWay_29 ?_
          refine ev_zreturn zr0 rfl dX0_isWay_30 ?_
          refine ⟨?_, rfl⟩
          unfold isW
          rw [e]
          first | (rw [decide_eq_false (Int32.not_le.mpr h1), Bool.false_and, Bool.and_false]; rfl) | (rw [decide_eq_true (Int32.not_lt.mp h1)]; first | (rw [decide_eq_false (Int32.not_le.mpr h9), Bool.and_false, Bool.and_false]; rfl) | (rw [decide_eq_true (Int32.not_lt.mp h9), h17]; first | done | rfl | (rw [decide_eq_true h22]; first | done | rfl) | (rw [decide_eq_false (fun z => z h22)]; first | done | rfl)))
        · refine ev_c1 dX0_isWay_25 ?_
          refine ev_goto 30 (by decide) dX0_isWay_26 ?_
          refine ev_zreturn zr1 rfl dX0_isWay_30 ?_
          refine ⟨?_, rfl⟩
          unfold isW
          rw [e]
          first | (rw [decide_eq_false (Int32.not_le.mpr h1), Bool.false_and, Bool.and_false]; rfl) | (rw [decide_eq_true (Int32.not_lt.mp h1)]; first | (rw [decide_eq_false (Int32.not_le.mpr h9), Bool.and_false, Bool.and_false]; rfl) | (rw [decide_eq_true (Int32.not_lt.mp h9), h17]; first | done | rfl | (rw [decide_eq_true h22]; first | done | rfl) | (rw [decide_eq_false (fun z => z h22)]; first | done | rfl)))
theorem c_X0_isDown {ks : List Nat} (hW : InW ks) {S : St} {q : Nat} (hq : q < 32) : Cn ks mX0_isDown yX0_isDown [.inr 0, .inl (nI q)] S (Ri (bI (bt (S 0 2) q)) S) := by
  refine cnV okX0_isDown 0 rfl ?_
  show Ev ks mX0_isDown 0 [some (.inr 0), some (.inl (nI q))] [] S _
  refine ev_aload_n0 dX0_isDown_0 ?_
  refine gfX0_56 rfl (hW 0 rfl) dX0_isDown_1 ?_
  refine ev_iload_n1 dX0_isDown_4 ?_
  refine ev_ishr dX0_isDown_5 ?_
  refine ev_c1 dX0_isDown_6 ?_
  rw [nI_lit1]
  refine ev_iand dX0_isDown_7 ?_
  rw [x_bit _ q hq]
  first | refine ev_if_eq 15 (by decide) dX0_isDown_8 (fun h8 => ?_) (fun h8 => ?_)
  · refine ev_c0 dX0_isDown_15 ?_
    refine ev_zreturn zr0 rfl dX0_isDown_16 ?_
    refine ⟨?_, rfl⟩
    rw [bI_0] at h8
    cases hb : bt (S 0 2) q
    · first | rfl | exact absurd hb h8
    · first | rfl | exact absurd (hb.symm.trans h8) (by decide)
  · refine ev_c1 dX0_isDown_11 ?_
    refine ev_goto 16 (by decide) dX0_isDown_12 ?_
    refine ev_zreturn zr1 rfl dX0_isDown_16 ?_
    refine ⟨?_, rfl⟩
    rw [bI_0] at h8
    cases hb : bt (S 0 2) q
    · first | rfl | exact absurd hb h8
    · first | rfl | exact absurd (hb.symm.trans h8) (by decide)
theorem c_X0_allSites {ks : List Nat} (hW : InW ks) {S : St} {n : Nat} (hn : S 0 0 = nI n) (h2 : 2 ≤ n) (h4 : n ≤ 4) : Cn ks mX0_allSites yX0_allSites [.inr 0] S (Ri (nI (2 ^ n - 1)) S) := by
  refine cnV okX0_allSites 0 rfl ?_
  show Ev ks mX0_allSites 0 [some (.inr 0)] [] S _
  refine ev_c1 dX0_allSites_0 ?_
  refine ev_aload_n0 dX0_allSites_1 ?_
  refine gfX0_49 rfl (hW 0 rfl) dX0_allSites_2 ?_
  rw [hn]
  refine ev_ishl dX0_allSites_5 ?_
  refine ev_c1 dX0_allSites_6 ?_
  refine ev_isub dX0_allSites_7 ?_
  refine ev_ireturn rfl dX0_allSites_8 ?_
  exact ⟨by rw [pow_all h2 h4], rfl⟩
theorem c_X0_stateOf {ks : List Nat} (hW : InW ks) {S : St} {q r : Nat} (hq : q < 4) (hr : S 1 q = nI r) (h8 : r ≤ 8) : Cn ks mX0_stateOf yX0_stateOf [.inr 0, .inl (nI q)] S (Ri (if r = 0 then nI (q + 1) else S 4 (q * 8 + (r - 1))) S) := by
  refine cnV okX0_stateOf 0 rfl ?_
  show Ev ks mX0_stateOf 0 [some (.inr 0), some (.inl (nI q))] [] S _
  refine ev_aload_n0 dX0_stateOf_0 ?_
  refine gfX0_9 rfl (hW 0 rfl) dX0_stateOf_1 ?_
  refine ev_iload_n1 dX0_stateOf_4 ?_
  refine ev_iald 4 rfl rfl (hW 1 rfl) (by omega) dX0_stateOf_5 ?_
  rw [hr]
  first | refine ev_if_neN 15 (by omega) (by decide) dX0_stateOf_6 (fun h6 => ?_) (fun h6 => ?_) | refine ev_if_ne 15 (by decide) dX0_stateOf_6 (fun h6 => ?_) (fun h6 => ?_)
  · refine ev_aload_n0 dX0_stateOf_15 ?_
    refine gfX0_21 rfl (hW 0 rfl) dX0_stateOf_16 ?_
    refine ev_iload_n1 dX0_stateOf_19 ?_
    refine ev_aload_n0 dX0_stateOf_20 ?_
    refine gfX0_9 rfl (hW 0 rfl) dX0_stateOf_21 ?_
    refine ev_iload_n1 dX0_stateOf_24 ?_
    refine ev_iald 4 rfl rfl (hW 1 rfl) (by omega) dX0_stateOf_25 ?_
    rw [hr]
    refine ev_c1 dX0_stateOf_26 ?_
    first | refine ev_isubN (by omega) dX0_stateOf_27 ?_ | refine ev_isub dX0_stateOf_27 ?_
    refine ev_cS2f okX0_codeOf lkX0_88 (Nat.le_of_ble_eq_true rfl) (Nat.le_of_ble_eq_true rfl) c_X0_codeOf dX0_stateOf_28 ?_
    refine ev_iald 32 rfl rfl (hW 4 rfl) (by omega) dX0_stateOf_31 ?_
    refine ev_ireturn rfl dX0_stateOf_32 ?_
    refine ⟨?_, rfl⟩
    first | rw [if_pos h6] | rw [if_neg (by omega)]
  · refine ev_iload_n1 dX0_stateOf_9 ?_
    refine ev_c1 dX0_stateOf_10 ?_
    first | refine ev_iaddN dX0_stateOf_11 ?_ | refine ev_iadd dX0_stateOf_11 ?_
    refine ev_goto 32 (by decide) dX0_stateOf_12 ?_
    refine ev_ireturn rfl dX0_stateOf_32 ?_
    refine ⟨?_, rfl⟩
    first | rw [if_pos h6] | rw [if_neg (by omega)]
theorem c_X0_lettersOn {ks : List Nat} (hW : InW ks) {S : St} {x y : Nat} (hx : x < 5) (hy : y < 4) : Cn ks mX0_lettersOn yX0_lettersOn [.inr 0, .inl (nI x), .inl (nI y)] S (Ri (S 6 (x * 4 + y)) S) := by
  refine cnV okX0_lettersOn 0 rfl ?_
  show Ev ks mX0_lettersOn 0 [some (.inr 0), some (.inl (nI x)), some (.inl (nI y))] [] S _
  refine ev_aload_n0 dX0_lettersOn_0 ?_
  refine gfX0_27 rfl (hW 0 rfl) dX0_lettersOn_1 ?_
  refine ev_iload_n1 dX0_lettersOn_4 ?_
  refine ev_iload_n2 dX0_lettersOn_5 ?_
  refine ev_cS2f okX0_wayOf lkX0_80 (Nat.le_of_ble_eq_true rfl) (Nat.le_of_ble_eq_true rfl) c_X0_wayOf dX0_lettersOn_6 ?_
  refine ev_iald 20 rfl rfl (hW 6 rfl) (by omega) dX0_lettersOn_9 ?_
  refine ev_ireturn rfl dX0_lettersOn_10 ?_
  exact ⟨rfl, rfl⟩
theorem c_X0_heldBy {ks : List Nat} (hW : InW ks) {S : St} {p : Nat} (hp : p < 4) : Cn ks mX0_heldBy yX0_heldBy [.inr 0, .inl (nI p)] S (Ri (S 11 (p * 4 + p)) S) := by
  refine cnV okX0_heldBy 0 rfl ?_
  show Ev ks mX0_heldBy 0 [some (.inr 0), some (.inl (nI p))] [] S _
  refine ev_aload_n0 dX0_heldBy_0 ?_
  refine gfX0_42 rfl (hW 0 rfl) dX0_heldBy_1 ?_
  refine ev_iload_n1 dX0_heldBy_4 ?_
  refine ev_c4 dX0_heldBy_5 ?_
  first | refine ev_imulN dX0_heldBy_6 ?_ | refine ev_imul dX0_heldBy_6 ?_
  refine ev_iload_n1 dX0_heldBy_7 ?_
  first | refine ev_iaddN dX0_heldBy_8 ?_ | refine ev_iadd dX0_heldBy_8 ?_
  refine ev_iald 16 rfl rfl (hW 11 rfl) (by omega) dX0_heldBy_9 ?_
  refine ev_ireturn rfl dX0_heldBy_10 ?_
  exact ⟨rfl, rfl⟩
theorem c_X0_allReceipts {ks : List Nat} (hW : InW ks) {S : St} {n : Nat} {r : Nat → Nat} (hn : S 0 0 = nI n) (h4 : n ≤ 4) (hr : ∀ q, q < n → S 1 q = nI (r q)) : Cn ks mX0_allReceipts yX0_allReceipts [.inr 0] S (Ri (nI (fb_sm r n)) S) := by
  refine cnV okX0_allReceipts 2 rfl ?_
  show Ev ks mX0_allReceipts 0 [some (.inr 0), none, none] [] S _
  have loop : ∀ f k, k + f = n → Ev ks mX0_allReceipts 4 [some (.inr 0), some (.inl (nI (fb_sm r k))), some (.inl (nI k))] [] S (Ri (nI (fb_sm r n)) S) := by
    intro f
    induction f with
    | zero =>
      intro k hk
      refine ev_iload_n2 dX0_allReceipts_4 ?_
      refine ev_aload_n0 dX0_allReceipts_5 ?_
      refine gfX0_49 rfl (hW 0 rfl) dX0_allReceipts_6 ?_
      rw [hn]
      first | refine ev_icmp_geN 27 (by omega) (by omega) (by decide) dX0_allReceipts_9 (fun h9 => ?_) (fun h9 => by exfalso; omega) | refine ev_icmp_ge 27 (by decide) dX0_allReceipts_9 (fun h9 => ?_) (fun h9 => by exfalso; omega)
      refine ev_iload_n1 dX0_allReceipts_27 ?_
      refine ev_ireturn rfl dX0_allReceipts_28 ?_
      obtain rfl : k = n := by omega
      exact ⟨rfl, rfl⟩
    | succ f ih =>
      intro k hk
      refine ev_iload_n2 dX0_allReceipts_4 ?_
      refine ev_aload_n0 dX0_allReceipts_5 ?_
      refine gfX0_49 rfl (hW 0 rfl) dX0_allReceipts_6 ?_
      rw [hn]
      first | refine ev_icmp_geN 27 (by omega) (by omega) (by decide) dX0_allReceipts_9 (fun h9 => by exfalso; omega) (fun h9 => ?_) | refine ev_icmp_ge 27 (by decide) dX0_allReceipts_9 (fun h9 => by exfalso; omega) (fun h9 => ?_)
      refine ev_iload_n1 dX0_allReceipts_12 ?_
      refine ev_aload_n0 dX0_allReceipts_13 ?_
      refine gfX0_9 rfl (hW 0 rfl) dX0_allReceipts_14 ?_
      refine ev_iload_n2 dX0_allReceipts_17 ?_
      refine ev_iald 4 rfl rfl (hW 1 rfl) (by omega) dX0_allReceipts_18 ?_
      rw [hr k (by omega)]
      first | refine ev_iaddN dX0_allReceipts_19 ?_ | refine ev_iadd dX0_allReceipts_19 ?_
      refine ev_istore_n1 dX0_allReceipts_20 ?_
      refine ev_iinc2 dX0_allReceipts_21 ?_
      refine ev_goto 4 (by decide) dX0_allReceipts_24 ?_
      exact ih (k + 1) (by omega)
  refine ev_c0 dX0_allReceipts_0 ?_
  refine ev_istore_n1 dX0_allReceipts_1 ?_
  refine ev_c0 dX0_allReceipts_2 ?_
  refine ev_istore_n2 dX0_allReceipts_3 ?_
  exact loop n 0 (by omega)
theorem c_X0_lettersBy {ks : List Nat} (hW : InW ks) {S : St} {n x : Nat} {r : Nat → Nat} (hn : S 0 0 = nI n) (h4 : n ≤ 4) (hx : x < 5) (hr : ∀ q, q < n → S 6 (x * 4 + q) = nI (r q)) : Cn ks mX0_lettersBy yX0_lettersBy [.inr 0, .inl (nI x)] S (Ri (nI (fb_sm r n)) S) := by
  refine cnV okX0_lettersBy 2 rfl ?_
  show Ev ks mX0_lettersBy 0 [some (.inr 0), some (.inl (nI x)), none, none] [] S _
  have loop : ∀ f k, k + f = n → Ev ks mX0_lettersBy 4 [some (.inr 0), some (.inl (nI x)), some (.inl (nI (fb_sm r k))), some (.inl (nI k))] [] S (Ri (nI (fb_sm r n)) S) := by
    intro f
    induction f with
    | zero =>
      intro k hk
      refine ev_iload_n3 dX0_lettersBy_4 ?_
      refine ev_aload_n0 dX0_lettersBy_5 ?_
      refine gfX0_49 rfl (hW 0 rfl) dX0_lettersBy_6 ?_
      rw [hn]
      first | refine ev_icmp_geN 27 (by omega) (by omega) (by decide) dX0_lettersBy_9 (fun h9 => ?_) (fun h9 => by exfalso; omega) | refine ev_icmp_ge 27 (by decide) dX0_lettersBy_9 (fun h9 => ?_) (fun h9 => by exfalso; omega)
      refine ev_iload_n2 dX0_lettersBy_27 ?_
      refine ev_ireturn rfl dX0_lettersBy_28 ?_
      obtain rfl : k = n := by omega
      exact ⟨rfl, rfl⟩
    | succ f ih =>
      intro k hk
      refine ev_iload_n3 dX0_lettersBy_4 ?_
      refine ev_aload_n0 dX0_lettersBy_5 ?_
      refine gfX0_49 rfl (hW 0 rfl) dX0_lettersBy_6 ?_
      rw [hn]
      first | refine ev_icmp_geN 27 (by omega) (by omega) (by decide) dX0_lettersBy_9 (fun h9 => by exfalso; omega) (fun h9 => ?_) | refine ev_icmp_ge 27 (by decide) dX0_lettersBy_9 (fun h9 => by exfalso; omega) (fun h9 => ?_)
      refine ev_iload_n2 dX0_lettersBy_12 ?_
      refine ev_aload_n0 dX0_lettersBy_13 ?_
      refine ev_iload_n1 dX0_lettersBy_14 ?_
      refine ev_iload_n3 dX0_lettersBy_15 ?_
      refine ev_cV2f okX0_lettersOn lkX0_91 (Nat.le_of_ble_eq_true rfl) (Nat.le_of_ble_eq_true rfl) (hW 0 rfl) isO_0 (c_X0_lettersOn hW (by omega) (by omega)) dX0_lettersBy_16 ?_
      rw [hr k (by omega)]
      first | refine ev_iaddN dX0_lettersBy_19 ?_ | refine ev_iadd dX0_lettersBy_19 ?_
      refine ev_istore_n2 dX0_lettersBy_20 ?_
      refine ev_iinc3 dX0_lettersBy_21 ?_
      refine ev_goto 4 (by decide) dX0_lettersBy_24 ?_
      exact ih (k + 1) (by omega)
  refine ev_c0 dX0_lettersBy_0 ?_
  refine ev_istore_n2 dX0_lettersBy_1 ?_
  refine ev_c0 dX0_lettersBy_2 ?_
  refine ev_istore_n3 dX0_lettersBy_3 ?_
  exact loop n 0 (by omega)
theorem c_X0_allLetters {ks : List Nat} (hW : InW ks) {S : St} {n : Nat} {r : Nat → Nat → Nat} (hn : S 0 0 = nI n) (h4 : n ≤ 4) (hr : ∀ x q, x ≤ n → q < n → S 6 (x * 4 + q) = nI (r x q)) : Cn ks mX0_allLetters yX0_allLetters [.inr 0] S (Ri (nI (fb_sm (fun x => fb_sm (r x) n) (n + 1))) S) := by
  refine cnV okX0_allLetters 2 rfl ?_
  show Ev ks mX0_allLetters 0 [some (.inr 0), none, none] [] S _
  have loop : ∀ f k, k + f = n + 1 → Ev ks mX0_allLetters 4 [some (.inr 0), some (.inl (nI (fb_sm (fun x => fb_sm (r x) n) k))), some (.inl (nI k))] [] S (Ri (nI (fb_sm (fun x => fb_sm (r x) n) (n + 1))) S) := by
    intro f
    induction f with
    | zero =>
      intro k hk
      refine ev_iload_n2 dX0_allLetters_4 ?_
      refine ev_aload_n0 dX0_allLetters_5 ?_
      refine gfX0_49 rfl (hW 0 rfl) dX0_allLetters_6 ?_
      rw [hn]
      first | refine ev_icmp_gtN 26 (by omega) (by omega) (by decide) dX0_allLetters_9 (fun h9 => ?_) (fun h9 => by exfalso; omega) | refine ev_icmp_gt 26 (by decide) dX0_allLetters_9 (fun h9 => ?_) (fun h9 => by exfalso; omega)
      refine ev_iload_n1 dX0_allLetters_26 ?_
      refine ev_ireturn rfl dX0_allLetters_27 ?_
      obtain rfl : k = n + 1 := by omega
      exact ⟨rfl, rfl⟩
    | succ f ih =>
      intro k hk
      refine ev_iload_n2 dX0_allLetters_4 ?_
      refine ev_aload_n0 dX0_allLetters_5 ?_
      refine gfX0_49 rfl (hW 0 rfl) dX0_allLetters_6 ?_
      rw [hn]
      first | refine ev_icmp_gtN 26 (by omega) (by omega) (by decide) dX0_allLetters_9 (fun h9 => by exfalso; omega) (fun h9 => ?_) | refine ev_icmp_gt 26 (by decide) dX0_allLetters_9 (fun h9 => by exfalso; omega) (fun h9 => ?_)
      refine ev_iload_n1 dX0_allLetters_12 ?_
      refine ev_aload_n0 dX0_allLetters_13 ?_
      refine ev_iload_n2 dX0_allLetters_14 ?_
      refine ev_cV1f okX0_lettersBy lkX0_94 (Nat.le_of_ble_eq_true rfl) (Nat.le_of_ble_eq_true rfl) (hW 0 rfl) isO_0 (c_X0_lettersBy hW hn h4 (by omega) (fun q hq => hr k q (by omega) hq)) dX0_allLetters_15 ?_
      first | refine ev_iaddN dX0_allLetters_18 ?_ | refine ev_iadd dX0_allLetters_18 ?_
      refine ev_istore_n1 dX0_allLetters_19 ?_
      refine ev_iinc2 dX0_allLetters_20 ?_
      refine ev_goto 4 (by decide) dX0_allLetters_23 ?_
      exact ih (k + 1) (by omega)
  refine ev_c0 dX0_allLetters_0 ?_
  refine ev_istore_n1 dX0_allLetters_1 ?_
  refine ev_c0 dX0_allLetters_2 ?_
  refine ev_istore_n2 dX0_allLetters_3 ?_
  exact loop (n + 1) 0 (by omega)
theorem c_X0_carriedOn {ks : List Nat} (hW : InW ks) {S : St} {x y L : Nat} (hx : x < 5) (hy : y < 4) (hL : S 6 (x * 4 + y) = nI L) (h8 : L ≤ 8) : Cn ks mX0_carriedOn yX0_carriedOn [.inr 0, .inl (nI x), .inl (nI y)] S (Ri (nI (fb_sm (fun k => pcn (S 9 ((x * 4 + y) * 8 + k))) L)) S) := by
  refine cnV okX0_carriedOn 3 rfl ?_
  show Ev ks mX0_carriedOn 0 [some (.inr 0), some (.inl (nI x)), some (.inl (nI y)), none, none, none] [] S _
  have loop : ∀ f k, k + f = L → Ev ks mX0_carriedOn 13 [some (.inr 0), some (.inl (nI x)), some (.inl (nI y)), some (.inl (nI (fb_sm (fun k => pcn (S 9 ((x * 4 + y) * 8 + k))) k))), some (.inl (nI L)), some (.inl (nI k))] [] S (Ri (nI (fb_sm (fun k => pcn (S 9 ((x * 4 + y) * 8 + k))) L)) S) := by
    intro f
    induction f with
    | zero =>
      intro k hk
      refine ev_iload5 dX0_carriedOn_13 ?_
      refine ev_iload4 dX0_carriedOn_15 ?_
      first | refine ev_icmp_geN 44 (by omega) (by omega) (by decide) dX0_carriedOn_17 (fun h17 => ?_) (fun h17 => by exfalso; omega) | refine ev_icmp_ge 44 (by decide) dX0_carriedOn_17 (fun h17 => ?_) (fun h17 => by exfalso; omega)
      refine ev_iload_n3 dX0_carriedOn_44 ?_
      refine ev_ireturn rfl dX0_carriedOn_45 ?_
      obtain rfl : k = L := by omega
      exact ⟨rfl, rfl⟩
    | succ f ih =>
      intro k hk
      refine ev_iload5 dX0_carriedOn_13 ?_
      refine ev_iload4 dX0_carriedOn_15 ?_
      first | refine ev_icmp_geN 44 (by omega) (by omega) (by decide) dX0_carriedOn_17 (fun h17 => by exfalso; omega) (fun h17 => ?_) | refine ev_icmp_ge 44 (by decide) dX0_carriedOn_17 (fun h17 => by exfalso; omega) (fun h17 => ?_)
      refine ev_iload_n3 dX0_carriedOn_20 ?_
      refine ev_aload_n0 dX0_carriedOn_21 ?_
      refine gfX0_36 rfl (hW 0 rfl) dX0_carriedOn_22 ?_
      refine ev_iload_n1 dX0_carriedOn_25 ?_
      refine ev_iload_n2 dX0_carriedOn_26 ?_
      refine ev_iload5 dX0_carriedOn_27 ?_
      refine ev_cS3f okX0_letterOn lkX0_100 (Nat.le_of_ble_eq_true rfl) (Nat.le_of_ble_eq_true rfl) c_X0_letterOn dX0_carriedOn_29 ?_
      refine ev_iald 160 rfl rfl (hW 9 rfl) (by omega) dX0_carriedOn_32 ?_
      refine ev_cS1f okJ6_bitCount_0f7a4 lkX0_75 (Nat.le_of_ble_eq_true rfl) (Nat.le_of_ble_eq_true rfl) c_J6_bitCount_0f7a4 dX0_carriedOn_33 ?_
      first | refine ev_iaddN dX0_carriedOn_36 ?_ | refine ev_iadd dX0_carriedOn_36 ?_
      refine ev_istore_n3 dX0_carriedOn_37 ?_
      refine ev_iinc5 dX0_carriedOn_38 ?_
      refine ev_goto 13 (by decide) dX0_carriedOn_41 ?_
      exact ih (k + 1) (by omega)
  refine ev_c0 dX0_carriedOn_0 ?_
  refine ev_istore_n3 dX0_carriedOn_1 ?_
  refine ev_aload_n0 dX0_carriedOn_2 ?_
  refine ev_iload_n1 dX0_carriedOn_3 ?_
  refine ev_iload_n2 dX0_carriedOn_4 ?_
  refine ev_cV2f okX0_lettersOn lkX0_91 (Nat.le_of_ble_eq_true rfl) (Nat.le_of_ble_eq_true rfl) (hW 0 rfl) isO_0 (c_X0_lettersOn hW (by omega) (by omega)) dX0_carriedOn_5 ?_
  rw [hL]
  refine ev_istore4 dX0_carriedOn_8 ?_
  refine ev_c0 dX0_carriedOn_10 ?_
  refine ev_istore5 dX0_carriedOn_11 ?_
  exact loop L 0 (by omega)
theorem c_X0_allCarried {ks : List Nat} (hW : InW ks) {S : St} {n : Nat} {r : Nat → Nat → Nat} (hn : S 0 0 = nI n) (h4 : n ≤ 4) (hr : ∀ x q, x < n → q < n → S 6 (x * 4 + q) = nI (r x q) ∧ r x q ≤ 8) : Cn ks mX0_allCarried yX0_allCarried [.inr 0] S (Ri (nI (fb_sm (fun x => fb_sm (fun y => fb_sm (fun k => pcn (S 9 ((x * 4 + y) * 8 + k))) (r x y)) n) n)) S) := by
  refine cnV okX0_allCarried 3 rfl ?_
  show Ev ks mX0_allCarried 0 [some (.inr 0), none, none, none] [] S _
  generalize hF : (fun x => fb_sm (fun y => fb_sm (fun k => pcn (S 9 ((x * 4 + y) * 8 + k))) (r x y)) n) = F
  have loop2 : ∀ z x, x < n → (Ev ks mX0_allCarried 4 [some (.inr 0), some (.inl (nI (fb_sm F (x + 1)))), some (.inl (nI (x + 1))), some (.inl (nI n))] [] S (Ri (nI (fb_sm F n)) S)) → ∀ k, k + z = n → Ev ks mX0_allCarried 14 [some (.inr 0), some (.inl (nI (fb_sm F x + fb_sm (fun y => fb_sm (fun k => pcn (S 9 ((x * 4 + y) * 8 + k))) (r x y)) k))), some (.inl (nI x)), some (.inl (nI k))] [] S (Ri (nI (fb_sm F n)) S) := by
    intro z x hx hk4
    induction z with
    | zero =>
      intro k hk
      obtain rfl : k = n := by omega
      refine ev_iload_n3 dX0_allCarried_14 ?_
      refine ev_aload_n0 dX0_allCarried_15 ?_
      refine gfX0_49 rfl (hW 0 rfl) dX0_allCarried_16 ?_
      rw [hn]
      first | refine ev_icmp_geN 37 (by omega) (by omega) (by decide) dX0_allCarried_19 (fun h19 => ?_) (fun h19 => by exfalso; omega) | refine ev_icmp_ge 37 (by decide) dX0_allCarried_19 (fun h19 => ?_) (fun h19 => by exfalso; omega)
      refine ev_iinc2 dX0_allCarried_37 ?_
      refine ev_goto 4 (by decide) dX0_allCarried_40 ?_
      have e : fb_sm F (x + 1) = fb_sm F x + fb_sm (fun y => fb_sm (fun k => pcn (S 9 ((x * 4 + y) * 8 + k))) (r x y)) k := by rw [fb_sm_succ, ← hF]
      rw [← e]
      exact hk4
    | succ z ih =>
      intro k hk
      refine ev_iload_n3 dX0_allCarried_14 ?_
      refine ev_aload_n0 dX0_allCarried_15 ?_
      refine gfX0_49 rfl (hW 0 rfl) dX0_allCarried_16 ?_
      rw [hn]
      first | refine ev_icmp_geN 37 (by omega) (by omega) (by decide) dX0_allCarried_19 (fun h19 => by exfalso; omega) (fun h19 => ?_) | refine ev_icmp_ge 37 (by decide) dX0_allCarried_19 (fun h19 => by exfalso; omega) (fun h19 => ?_)
      refine ev_iload_n1 dX0_allCarried_22 ?_
      refine ev_aload_n0 dX0_allCarried_23 ?_
      refine ev_iload_n2 dX0_allCarried_24 ?_
      refine ev_iload_n3 dX0_allCarried_25 ?_
      refine ev_cV2f okX0_carriedOn lkX0_97 (Nat.le_of_ble_eq_true rfl) (Nat.le_of_ble_eq_true rfl) (hW 0 rfl) isO_0 (c_X0_carriedOn hW (by omega) (by omega) (hr x k hx (by omega)).1 (hr x k hx (by omega)).2) dX0_allCarried_26 ?_
      first | refine ev_iaddN dX0_allCarried_29 ?_ | refine ev_iadd dX0_allCarried_29 ?_
      refine ev_istore_n1 dX0_allCarried_30 ?_
      refine ev_iinc3 dX0_allCarried_31 ?_
      refine ev_goto 14 (by decide) dX0_allCarried_34 ?_
      rw [Nat.add_assoc, ← fb_sm_succ (fun y => fb_sm (fun k => pcn (S 9 ((x * 4 + y) * 8 + k))) (r x y)) k]
      exact ih (k + 1) (by omega)
  have loop : ∀ f x v, x + f = n → Ev ks mX0_allCarried 4 [some (.inr 0), some (.inl (nI (fb_sm F x))), some (.inl (nI x)), v] [] S (Ri (nI (fb_sm F n)) S) := by
    intro f
    induction f with
    | zero =>
      intro x v hx
      refine ev_iload_n2 dX0_allCarried_4 ?_
      refine ev_aload_n0 dX0_allCarried_5 ?_
      refine gfX0_49 rfl (hW 0 rfl) dX0_allCarried_6 ?_
      rw [hn]
      first | refine ev_icmp_geN 43 (by omega) (by omega) (by decide) dX0_allCarried_9 (fun h9 => ?_) (fun h9 => by exfalso; omega) | refine ev_icmp_ge 43 (by decide) dX0_allCarried_9 (fun h9 => ?_) (fun h9 => by exfalso; omega)
      refine ev_iload_n1 dX0_allCarried_43 ?_
      refine ev_ireturn rfl dX0_allCarried_44 ?_
      obtain rfl : x = n := by omega
      exact ⟨rfl, rfl⟩
    | succ f ih =>
      intro x v hx
      refine ev_iload_n2 dX0_allCarried_4 ?_
      refine ev_aload_n0 dX0_allCarried_5 ?_
      refine gfX0_49 rfl (hW 0 rfl) dX0_allCarried_6 ?_
      rw [hn]
      first | refine ev_icmp_geN 43 (by omega) (by omega) (by decide) dX0_allCarried_9 (fun h9 => by exfalso; omega) (fun h9 => ?_) | refine ev_icmp_ge 43 (by decide) dX0_allCarried_9 (fun h9 => by exfalso; omega) (fun h9 => ?_)
      refine ev_c0 dX0_allCarried_12 ?_
      refine ev_istore_n3 dX0_allCarried_13 ?_
      exact loop2 n x (by omega) (ih (x + 1) _ (by omega)) 0 (by omega)
  refine ev_c0 dX0_allCarried_0 ?_
  refine ev_istore_n1 dX0_allCarried_1 ?_
  refine ev_c0 dX0_allCarried_2 ?_
  refine ev_istore_n2 dX0_allCarried_3 ?_
  exact loop n 0 none (by omega)
theorem c_X0_takenFrom {ks : List Nat} (hW : InW ks) {S : St} {y r : Nat} {x : Int32} (hy : y < 4) (hr : S 1 y = nI r) (h8 : r ≤ 8) : Cn ks mX0_takenFrom yX0_takenFrom [.inr 0, .inl x, .inl (nI y)] S (Ri (nI (fb_ct (fun j => decide (S 2 (y * 8 + j) = x)) r)) S) := by
  refine cnV okX0_takenFrom 2 rfl ?_
  show Ev ks mX0_takenFrom 0 [some (.inr 0), some (.inl x), some (.inl (nI y)), none, none] [] S _
  have loop : ∀ f k, k + f = r → Ev ks mX0_takenFrom 5 [some (.inr 0), some (.inl x), some (.inl (nI y)), some (.inl (nI (fb_ct (fun j => decide (S 2 (y * 8 + j) = x)) k))), some (.inl (nI k))] [] S (Ri (nI (fb_ct (fun j => decide (S 2 (y * 8 + j) = x)) r)) S) := by
    intro f
    induction f with
    | zero =>
      intro k hk
      refine ev_iload4 dX0_takenFrom_5 ?_
      refine ev_aload_n0 dX0_takenFrom_7 ?_
      refine gfX0_9 rfl (hW 0 rfl) dX0_takenFrom_8 ?_
      refine ev_iload_n2 dX0_takenFrom_11 ?_
      refine ev_iald 4 rfl rfl (hW 1 rfl) (by omega) dX0_takenFrom_12 ?_
      rw [hr]
      first | refine ev_icmp_geN 40 (by omega) (by omega) (by decide) dX0_takenFrom_13 (fun h13 => ?_) (fun h13 => by exfalso; omega) | refine ev_icmp_ge 40 (by decide) dX0_takenFrom_13 (fun h13 => ?_) (fun h13 => by exfalso; omega)
      refine ev_iload_n3 dX0_takenFrom_40 ?_
      refine ev_ireturn rfl dX0_takenFrom_41 ?_
      obtain rfl : k = r := by omega
      exact ⟨rfl, rfl⟩
    | succ f ih =>
      intro k hk
      have hs := fb_ct_succ (fun j => decide (S 2 (y * 8 + j) = x)) k
      refine ev_iload4 dX0_takenFrom_5 ?_
      refine ev_aload_n0 dX0_takenFrom_7 ?_
      refine gfX0_9 rfl (hW 0 rfl) dX0_takenFrom_8 ?_
      refine ev_iload_n2 dX0_takenFrom_11 ?_
      refine ev_iald 4 rfl rfl (hW 1 rfl) (by omega) dX0_takenFrom_12 ?_
      rw [hr]
      first | refine ev_icmp_geN 40 (by omega) (by omega) (by decide) dX0_takenFrom_13 (fun h13 => by exfalso; omega) (fun h13 => ?_) | refine ev_icmp_ge 40 (by decide) dX0_takenFrom_13 (fun h13 => by exfalso; omega) (fun h13 => ?_)
      refine ev_aload_n0 dX0_takenFrom_16 ?_
      refine gfX0_15 rfl (hW 0 rfl) dX0_takenFrom_17 ?_
      refine ev_iload_n2 dX0_takenFrom_20 ?_
      refine ev_iload4 dX0_takenFrom_21 ?_
      refine ev_cS2f okX0_codeOf lkX0_88 (Nat.le_of_ble_eq_true rfl) (Nat.le_of_ble_eq_true rfl) c_X0_codeOf dX0_takenFrom_23 ?_
      refine ev_iald 32 rfl rfl (hW 2 rfl) (by omega) dX0_takenFrom_26 ?_
      refine ev_iload_n1 dX0_takenFrom_27 ?_
      first | refine ev_icmp_ne 34 (by decide) dX0_takenFrom_28 (fun h28 => ?_) (fun h28 => ?_)
      · refine ev_iinc4 dX0_takenFrom_34 ?_
        refine ev_goto 5 (by decide) dX0_takenFrom_37 ?_
        simp only [h28, decide_true, decide_false, if_true, Bool.false_eq_true, if_false, Nat.add_zero] at hs
        first | rw [← hs] | skip
        exact ih (k + 1) (by omega)
      · refine ev_iinc3 dX0_takenFrom_31 ?_
        refine ev_iinc4 dX0_takenFrom_34 ?_
        refine ev_goto 5 (by decide) dX0_takenFrom_37 ?_
        simp only [h28, decide_true, decide_false, if_true, Bool.false_eq_true, if_false, Nat.add_zero] at hs
        first | rw [← hs] | skip
        exact ih (k + 1) (by omega)
  refine ev_c0 dX0_takenFrom_0 ?_
  refine ev_istore_n3 dX0_takenFrom_1 ?_
  refine ev_c0 dX0_takenFrom_2 ?_
  refine ev_istore4 dX0_takenFrom_3 ?_
  exact loop r 0 (by omega)
theorem c_X0_holdersOf {ks : List Nat} (hW : InW ks) {S : St} {n c : Nat} (hn : S 0 0 = nI n) (h4 : n ≤ 4) (hc : c < 32) : Cn ks mX0_holdersOf yX0_holdersOf [.inr 0, .inl (nI c)] S (Ri (mk (fun p => bt (S 11 (p * 4 + p)) c) n) S) := by
  refine cnV okX0_holdersOf 2 rfl ?_
  show Ev ks mX0_holdersOf 0 [some (.inr 0), some (.inl (nI c)), none, none] [] S _
  have loop : ∀ f k, k + f = n → Ev ks mX0_holdersOf 4 [some (.inr 0), some (.inl (nI c)), some (.inl (mk (fun p => bt (S 11 (p * 4 + p)) c) k)), some (.inl (nI k))] [] S (Ri (mk (fun p => bt (S 11 (p * 4 + p)) c) n) S) := by
    intro f
    induction f with
    | zero =>
      intro k hk
      refine ev_iload_n3 dX0_holdersOf_4 ?_
      refine ev_aload_n0 dX0_holdersOf_5 ?_
      refine gfX0_49 rfl (hW 0 rfl) dX0_holdersOf_6 ?_
      rw [hn]
      first | refine ev_icmp_geN 32 (by omega) (by omega) (by decide) dX0_holdersOf_9 (fun h9 => ?_) (fun h9 => by exfalso; omega) | refine ev_icmp_ge 32 (by decide) dX0_holdersOf_9 (fun h9 => ?_) (fun h9 => by exfalso; omega)
      refine ev_iload_n2 dX0_holdersOf_32 ?_
      refine ev_ireturn rfl dX0_holdersOf_33 ?_
      obtain rfl : k = n := by omega
      exact ⟨rfl, rfl⟩
    | succ f ih =>
      intro k hk
      refine ev_iload_n3 dX0_holdersOf_4 ?_
      refine ev_aload_n0 dX0_holdersOf_5 ?_
      refine gfX0_49 rfl (hW 0 rfl) dX0_holdersOf_6 ?_
      rw [hn]
      first | refine ev_icmp_geN 32 (by omega) (by omega) (by decide) dX0_holdersOf_9 (fun h9 => by exfalso; omega) (fun h9 => ?_) | refine ev_icmp_ge 32 (by decide) dX0_holdersOf_9 (fun h9 => by exfalso; omega) (fun h9 => ?_)
      refine ev_iload_n2 dX0_holdersOf_12 ?_
      refine ev_aload_n0 dX0_holdersOf_13 ?_
      refine ev_iload_n3 dX0_holdersOf_14 ?_
      refine ev_cV1f okX0_heldBy lkX0_104 (Nat.le_of_ble_eq_true rfl) (Nat.le_of_ble_eq_true rfl) (hW 0 rfl) isO_0 (c_X0_heldBy hW (by omega)) dX0_holdersOf_15 ?_
      refine ev_iload_n1 dX0_holdersOf_18 ?_
      refine ev_iushr dX0_holdersOf_19 ?_
      refine ev_c1 dX0_holdersOf_20 ?_
      rw [nI_lit1]
      refine ev_iand dX0_holdersOf_21 ?_
      rw [u_bit _ c hc]
      refine ev_iload_n3 dX0_holdersOf_22 ?_
      refine ev_ishl dX0_holdersOf_23 ?_
      rw [bI_shl]
      refine ev_ior dX0_holdersOf_24 ?_
      refine ev_istore_n2 dX0_holdersOf_25 ?_
      refine ev_iinc3 dX0_holdersOf_26 ?_
      refine ev_goto 4 (by decide) dX0_holdersOf_29 ?_
      exact ih (k + 1) (by omega)
  refine ev_c0 dX0_holdersOf_0 ?_
  refine ev_istore_n2 dX0_holdersOf_1 ?_
  refine ev_c0 dX0_holdersOf_2 ?_
  refine ev_istore_n3 dX0_holdersOf_3 ?_
  exact loop n 0 (by omega)
theorem c_X0_holdersKnown {ks : List Nat} (hW : InW ks) {S : St} {n p c : Nat} (hn : S 0 0 = nI n) (h4 : n ≤ 4) (hp : p < 4) (hc : c < 32) : Cn ks mX0_holdersKnown yX0_holdersKnown [.inr 0, .inl (nI p), .inl (nI c)] S (Ri (mk (fun s => bt (S 11 (p * 4 + s)) c) n) S) := by
  refine cnV okX0_holdersKnown 2 rfl ?_
  show Ev ks mX0_holdersKnown 0 [some (.inr 0), some (.inl (nI p)), some (.inl (nI c)), none, none] [] S _
  have loop : ∀ f k, k + f = n → Ev ks mX0_holdersKnown 5 [some (.inr 0), some (.inl (nI p)), some (.inl (nI c)), some (.inl (mk (fun s => bt (S 11 (p * 4 + s)) c) k)), some (.inl (nI k))] [] S (Ri (mk (fun s => bt (S 11 (p * 4 + s)) c) n) S) := by
    intro f
    induction f with
    | zero =>
      intro k hk
      refine ev_iload4 dX0_holdersKnown_5 ?_
      refine ev_aload_n0 dX0_holdersKnown_7 ?_
      refine gfX0_49 rfl (hW 0 rfl) dX0_holdersKnown_8 ?_
      rw [hn]
      first | refine ev_icmp_geN 41 (by omega) (by omega) (by decide) dX0_holdersKnown_11 (fun h11 => ?_) (fun h11 => by exfalso; omega) | refine ev_icmp_ge 41 (by decide) dX0_holdersKnown_11 (fun h11 => ?_) (fun h11 => by exfalso; omega)
      refine ev_iload_n3 dX0_holdersKnown_41 ?_
      refine ev_ireturn rfl dX0_holdersKnown_42 ?_
      obtain rfl : k = n := by omega
      exact ⟨rfl, rfl⟩
    | succ f ih =>
      intro k hk
      refine ev_iload4 dX0_holdersKnown_5 ?_
      refine ev_aload_n0 dX0_holdersKnown_7 ?_
      refine gfX0_49 rfl (hW 0 rfl) dX0_holdersKnown_8 ?_
      rw [hn]
      first | refine ev_icmp_geN 41 (by omega) (by omega) (by decide) dX0_holdersKnown_11 (fun h11 => by exfalso; omega) (fun h11 => ?_) | refine ev_icmp_ge 41 (by decide) dX0_holdersKnown_11 (fun h11 => by exfalso; omega) (fun h11 => ?_)
      refine ev_iload_n3 dX0_holdersKnown_14 ?_
      refine ev_aload_n0 dX0_holdersKnown_15 ?_
      refine gfX0_42 rfl (hW 0 rfl) dX0_holdersKnown_16 ?_
      refine ev_iload_n1 dX0_holdersKnown_19 ?_
      refine ev_c4 dX0_holdersKnown_20 ?_
      first | refine ev_imulN dX0_holdersKnown_21 ?_ | refine ev_imul dX0_holdersKnown_21 ?_
      refine ev_iload4 dX0_holdersKnown_22 ?_
      first | refine ev_iaddN dX0_holdersKnown_24 ?_ | refine ev_iadd dX0_holdersKnown_24 ?_
      refine ev_iald 16 rfl rfl (hW 11 rfl) (by omega) dX0_holdersKnown_25 ?_
      refine ev_iload_n2 dX0_holdersKnown_26 ?_
      refine ev_iushr dX0_holdersKnown_27 ?_
      refine ev_c1 dX0_holdersKnown_28 ?_
      rw [nI_lit1]
      refine ev_iand dX0_holdersKnown_29 ?_
      rw [u_bit _ c hc]
      refine ev_iload4 dX0_holdersKnown_30 ?_
      refine ev_ishl dX0_holdersKnown_32 ?_
      rw [bI_shl]
      refine ev_ior dX0_holdersKnown_33 ?_
      refine ev_istore_n3 dX0_holdersKnown_34 ?_
      refine ev_iinc4 dX0_holdersKnown_35 ?_
      refine ev_goto 5 (by decide) dX0_holdersKnown_38 ?_
      exact ih (k + 1) (by omega)
  refine ev_c0 dX0_holdersKnown_0 ?_
  rw [nI_0]
  refine ev_istore_n3 dX0_holdersKnown_1 ?_
  refine ev_c0 dX0_holdersKnown_2 ?_
  refine ev_istore4 dX0_holdersKnown_3 ?_
  exact loop n 0 (by omega)
theorem c_X0_isSafe {ks : List Nat} (hW : InW ks) {S : St} {n e c : Nat} (hn : S 0 0 = nI n) (h4 : n ≤ 4) (he : S 0 1 = nI e) (he4 : e ≤ 4) (hc : c < 32) : Cn ks mX0_isSafe yX0_isSafe [.inr 0, .inl (nI c)] S (Ri (bI (decide (e ≤ pcn (mk (fun p => bt (S 11 (p * 4 + p)) c) n)))) S) := by
  refine cnV okX0_isSafe 0 rfl ?_
  show Ev ks mX0_isSafe 0 [some (.inr 0), some (.inl (nI c))] [] S _
  have hp := pcn_le (mk (fun p => bt (S 11 (p * 4 + p)) c) n)
  refine ev_aload_n0 dX0_isSafe_0 ?_
  refine ev_iload_n1 dX0_isSafe_1 ?_
  refine ev_cV1f okX0_holdersOf lkX0_107 (Nat.le_of_ble_eq_true rfl) (Nat.le_of_ble_eq_true rfl) (hW 0 rfl) isO_0 (c_X0_holdersOf hW hn (by omega) (by omega)) dX0_isSafe_2 ?_
  refine ev_cS1f okJ6_bitCount_0f7a4 lkX0_75 (Nat.le_of_ble_eq_true rfl) (Nat.le_of_ble_eq_true rfl) c_J6_bitCount_0f7a4 dX0_isSafe_5 ?_
  refine ev_aload_n0 dX0_isSafe_8 ?_
  refine gfX0_53 rfl (hW 0 rfl) dX0_isSafe_9 ?_
  rw [he]
  first | refine ev_icmp_ltN 19 (by omega) (by omega) (by decide) dX0_isSafe_12 (fun h12 => ?_) (fun h12 => ?_) | refine ev_icmp_lt 19 (by decide) dX0_isSafe_12 (fun h12 => ?_) (fun h12 => ?_)
  · refine ev_c0 dX0_isSafe_19 ?_
    refine ev_zreturn zr0 rfl dX0_isSafe_20 ?_
    refine ⟨?_, rfl⟩
    first | (rw [decide_eq_false (by omega)]; rfl) | (rw [decide_eq_true (by omega)]; rfl)
  · refine ev_c1 dX0_isSafe_15 ?_
    refine ev_goto 20 (by decide) dX0_isSafe_16 ?_
    refine ev_zreturn zr1 rfl dX0_isSafe_20 ?_
    refine ⟨?_, rfl⟩
    first | (rw [decide_eq_false (by omega)]; rfl) | (rw [decide_eq_true (by omega)]; rfl)
end
section
theorem c_X2_had {ks : List Nat} (hM : InM ks) {S : St} {y r : Nat} {x : Int32} (hy : y < 4) (hr : S 104 (3 + y) = nI r) (h8 : r ≤ 8) : Cn ks mX2_had yX2_had [.inr 103, .inl (nI y), .inl x] S (Ri (nI (fb_ct (fun j => decide (S 104 (7 + 24 * y + 3 * j + 0) = x)) r)) S) := by
  refine cnV okX2_had 2 rfl ?_
  show Ev ks mX2_had 0 [some (.inr 103), some (.inl (nI y)), some (.inl x), none, none] [] S _
  have loop : ∀ f k, k + f = r → Ev ks mX2_had 5 [some (.inr 103), some (.inl (nI y)), some (.inl x), some (.inl (nI (fb_ct (fun j => decide (S 104 (7 + 24 * y + 3 * j + 0) = x)) k))), some (.inl (nI k))] [] S (Ri (nI (fb_ct (fun j => decide (S 104 (7 + 24 * y + 3 * j + 0) = x)) r)) S) := by
    intro f
    induction f with
    | zero =>
      intro k hk
      refine ev_iload4 dX2_had_5 ?_
      refine ev_aload_n0 dX2_had_7 ?_
      refine ev_iload_n1 dX2_had_8 ?_
      refine ev_cV1f okX2_receipts lkX2_47 (Nat.le_of_ble_eq_true rfl) (Nat.le_of_ble_eq_true rfl) (hM 103 rfl) isO_103 (c_X2_receipts hM (by omega)) dX2_had_9 ?_
      rw [hr]
      first | refine ev_icmp_geN 41 (by omega) (by omega) (by decide) dX2_had_12 (fun h12 => ?_) (fun h12 => by exfalso; omega) | refine ev_icmp_ge 41 (by decide) dX2_had_12 (fun h12 => ?_) (fun h12 => by exfalso; omega)
      refine ev_iload_n3 dX2_had_41 ?_
      refine ev_ireturn rfl dX2_had_42 ?_
      obtain rfl : k = r := by omega
      exact ⟨rfl, rfl⟩
    | succ f ih =>
      intro k hk
      have hs := fb_ct_succ (fun j => decide (S 104 (7 + 24 * y + 3 * j + 0) = x)) k
      refine ev_iload4 dX2_had_5 ?_
      refine ev_aload_n0 dX2_had_7 ?_
      refine ev_iload_n1 dX2_had_8 ?_
      refine ev_cV1f okX2_receipts lkX2_47 (Nat.le_of_ble_eq_true rfl) (Nat.le_of_ble_eq_true rfl) (hM 103 rfl) isO_103 (c_X2_receipts hM (by omega)) dX2_had_9 ?_
      rw [hr]
      first | refine ev_icmp_geN 41 (by omega) (by omega) (by decide) dX2_had_12 (fun h12 => by exfalso; omega) (fun h12 => ?_) | refine ev_icmp_ge 41 (by decide) dX2_had_12 (fun h12 => by exfalso; omega) (fun h12 => ?_)
      refine ev_iload_n3 dX2_had_15 ?_
      refine ev_aload_n0 dX2_had_16 ?_
      refine ev_iload_n1 dX2_had_17 ?_
      refine ev_iload4 dX2_had_18 ?_
      refine ev_c0 dX2_had_20 ?_
      refine ev_cV3f okX2_ofReceipt lkX2_51 (Nat.le_of_ble_eq_true rfl) (Nat.le_of_ble_eq_true rfl) (hM 103 rfl) isO_103 (c_X2_ofReceipt hM (by omega) (by omega) (by omega)) dX2_had_21 ?_
      refine ev_iload_n2 dX2_had_24 ?_
      first | refine ev_icmp_ne 32 (by decide) dX2_had_25 (fun h25 => ?_) (fun h25 => ?_)
      · refine ev_c0 dX2_had_32 ?_
        first | refine ev_iaddN dX2_had_33 ?_ | refine ev_iadd dX2_had_33 ?_
        refine ev_istore_n3 dX2_had_34 ?_
        refine ev_iinc4 dX2_had_35 ?_
        refine ev_goto 5 (by decide) dX2_had_38 ?_
        simp only [h25, decide_true, decide_false, if_true, Bool.false_eq_true, if_false] at hs
        rw [← hs]
        exact ih (k + 1) (by omega)
      · refine ev_c1 dX2_had_28 ?_
        refine ev_goto 33 (by decide) dX2_had_29 ?_
        first | refine ev_iaddN dX2_had_33 ?_ | refine ev_iadd dX2_had_33 ?_
        refine ev_istore_n3 dX2_had_34 ?_
        refine ev_iinc4 dX2_had_35 ?_
        refine ev_goto 5 (by decide) dX2_had_38 ?_
        simp only [h25, decide_true, decide_false, if_true, Bool.false_eq_true, if_false] at hs
        rw [← hs]
        exact ih (k + 1) (by omega)
  refine ev_c0 dX2_had_0 ?_
  refine ev_istore_n3 dX2_had_1 ?_
  refine ev_c0 dX2_had_2 ?_
  refine ev_istore4 dX2_had_3 ?_
  exact loop r 0 (by omega)
theorem c_X2_lost {ks : List Nat} (hM : InM ks) {S : St} {n : Nat} {r K : Nat → Nat} (hn : S 104 0 = nI n) (h4 : n ≤ 4) (hr : ∀ q, q < n → S 104 (3 + q) = nI (r q)) (hK : ∀ q, q < n → S 110 q = nI (K q) ∧ K q ≤ r q) : Cn ks mX2_lost yX2_lost [.inr 103] S (Ri (nI (fb_sm (fun q => r q - K q) n)) S) := by
  refine cnV okX2_lost 2 rfl ?_
  show Ev ks mX2_lost 0 [some (.inr 103), none, none] [] S _
  have loop : ∀ f k, k + f = n → Ev ks mX2_lost 4 [some (.inr 103), some (.inl (nI (fb_sm (fun q => r q - K q) k))), some (.inl (nI k))] [] S (Ri (nI (fb_sm (fun q => r q - K q) n)) S) := by
    intro f
    induction f with
    | zero =>
      intro k hk
      refine ev_iload_n2 dX2_lost_4 ?_
      refine ev_aload_n0 dX2_lost_5 ?_
      refine ev_cV0f okX2_many lkX2_82 (Nat.le_of_ble_eq_true rfl) (Nat.le_of_ble_eq_true rfl) (hM 103 rfl) isO_103 (c_X2_many hM hn) dX2_lost_6 ?_
      first | refine ev_icmp_geN 33 (by omega) (by omega) (by decide) dX2_lost_9 (fun h9 => ?_) (fun h9 => by exfalso; omega) | refine ev_icmp_ge 33 (by decide) dX2_lost_9 (fun h9 => ?_) (fun h9 => by exfalso; omega)
      refine ev_iload_n1 dX2_lost_33 ?_
      refine ev_ireturn rfl dX2_lost_34 ?_
      obtain rfl : k = n := by omega
      exact ⟨rfl, rfl⟩
    | succ f ih =>
      intro k hk
      have hk2 := hK k (by omega)
      refine ev_iload_n2 dX2_lost_4 ?_
      refine ev_aload_n0 dX2_lost_5 ?_
      refine ev_cV0f okX2_many lkX2_82 (Nat.le_of_ble_eq_true rfl) (Nat.le_of_ble_eq_true rfl) (hM 103 rfl) isO_103 (c_X2_many hM hn) dX2_lost_6 ?_
      first | refine ev_icmp_geN 33 (by omega) (by omega) (by decide) dX2_lost_9 (fun h9 => by exfalso; omega) (fun h9 => ?_) | refine ev_icmp_ge 33 (by decide) dX2_lost_9 (fun h9 => by exfalso; omega) (fun h9 => ?_)
      refine ev_iload_n1 dX2_lost_12 ?_
      refine ev_aload_n0 dX2_lost_13 ?_
      refine ev_iload_n2 dX2_lost_14 ?_
      refine ev_cV1f okX2_receipts lkX2_47 (Nat.le_of_ble_eq_true rfl) (Nat.le_of_ble_eq_true rfl) (hM 103 rfl) isO_103 (c_X2_receipts hM (by omega)) dX2_lost_15 ?_
      rw [hr k (by omega)]
      refine ev_aload_n0 dX2_lost_18 ?_
      refine gfX2_29 rfl (hM 103 rfl) dX2_lost_19 ?_
      refine ev_iload_n2 dX2_lost_22 ?_
      refine ev_iald 4 rfl rfl (hM 110 rfl) (by omega) dX2_lost_23 ?_
      rw [hk2.1]
      first | refine ev_isubN (by omega) dX2_lost_24 ?_ | refine ev_isub dX2_lost_24 ?_
      first | refine ev_iaddN dX2_lost_25 ?_ | refine ev_iadd dX2_lost_25 ?_
      refine ev_istore_n1 dX2_lost_26 ?_
      refine ev_iinc2 dX2_lost_27 ?_
      refine ev_goto 4 (by decide) dX2_lost_30 ?_
      exact ih (k + 1) (by omega)
  refine ev_c0 dX2_lost_0 ?_
  refine ev_istore_n1 dX2_lost_1 ?_
  refine ev_c0 dX2_lost_2 ?_
  refine ev_istore_n2 dX2_lost_3 ?_
  exact loop n 0 (by omega)
theorem c_X2_orphans {ks : List Nat} (hM : InM ks) {S : St} {n : Nat} {d : Int32} {r K : Nat → Nat} (hn : S 104 0 = nI n) (h4 : n ≤ 4) (hr : ∀ q, q < n → S 104 (3 + q) = nI (r q) ∧ r q ≤ 8) (hK : ∀ q, q < n → S 110 q = nI (K q) ∧ K q ≤ 8) : Cn ks mX2_orphans yX2_orphans [.inr 103, .inl d] S (Ri (nI (fb_ct (fun q => !bt d q && decide (K q < r q)) n)) S) := by
  refine cnV okX2_orphans 2 rfl ?_
  show Ev ks mX2_orphans 0 [some (.inr 103), some (.inl d), none, none] [] S _
  have loop : ∀ f k, k + f = n → Ev ks mX2_orphans 4 [some (.inr 103), some (.inl d), some (.inl (nI (fb_ct (fun q => !bt d q && decide (K q < r q)) k))), some (.inl (nI k))] [] S (Ri (nI (fb_ct (fun q => !bt d q && decide (K q < r q)) n)) S) := by
    intro f
    induction f with
    | zero =>
      intro k hk
      refine ev_iload_n3 dX2_orphans_4 ?_
      refine ev_aload_n0 dX2_orphans_5 ?_
      refine ev_cV0f okX2_many lkX2_82 (Nat.le_of_ble_eq_true rfl) (Nat.le_of_ble_eq_true rfl) (hM 103 rfl) isO_103 (c_X2_many hM hn) dX2_orphans_6 ?_
      first | refine ev_icmp_geN 48 (by omega) (by omega) (by decide) dX2_orphans_9 (fun h9 => ?_) (fun h9 => by exfalso; omega) | refine ev_icmp_ge 48 (by decide) dX2_orphans_9 (fun h9 => ?_) (fun h9 => by exfalso; omega)
      refine ev_iload_n2 dX2_orphans_48 ?_
      refine ev_ireturn rfl dX2_orphans_49 ?_
      obtain rfl : k = n := by omega
      exact ⟨rfl, rfl⟩
    | succ f ih =>
      intro k hk
      have hk2 := hK k (by omega)
      have hr2 := hr k (by omega)
      have hs := fb_ct_succ (fun q => !bt d q && decide (K q < r q)) k
      refine ev_iload_n3 dX2_orphans_4 ?_
      refine ev_aload_n0 dX2_orphans_5 ?_
      refine ev_cV0f okX2_many lkX2_82 (Nat.le_of_ble_eq_true rfl) (Nat.le_of_ble_eq_true rfl) (hM 103 rfl) isO_103 (c_X2_many hM hn) dX2_orphans_6 ?_
      first | refine ev_icmp_geN 48 (by omega) (by omega) (by decide) dX2_orphans_9 (fun h9 => by exfalso; omega) (fun h9 => ?_) | refine ev_icmp_ge 48 (by decide) dX2_orphans_9 (fun h9 => by exfalso; omega) (fun h9 => ?_)
      refine ev_iload_n2 dX2_orphans_12 ?_
      refine ev_iload_n1 dX2_orphans_13 ?_
      refine ev_iload_n3 dX2_orphans_14 ?_
      refine ev_cS2f okX2_has lkX2_39 (Nat.le_of_ble_eq_true rfl) (Nat.le_of_ble_eq_true rfl) (c_X2_has (by omega)) dX2_orphans_15 ?_
      first | refine ev_if_neB 39 (by decide) dX2_orphans_18 (fun h18 => ?_) (fun h18 => ?_)
      · refine ev_c0 dX2_orphans_39 ?_
        first | refine ev_iaddN dX2_orphans_40 ?_ | refine ev_iadd dX2_orphans_40 ?_
        refine ev_istore_n2 dX2_orphans_41 ?_
        refine ev_iinc3 dX2_orphans_42 ?_
        refine ev_goto 4 (by decide) dX2_orphans_45 ?_
        first | rw [h18] at hs | skip
        first | rw [decide_eq_true h32] at hs | rw [decide_eq_false (Nat.not_lt.mpr h32)] at hs | skip
        simp only [Bool.not_true, Bool.not_false, Bool.false_and, Bool.true_and, if_true, Bool.false_eq_true, if_false] at hs
        rw [← hs]
        exact ih (k + 1) (by omega)
      · refine ev_aload_n0 dX2_orphans_21 ?_
        refine gfX2_29 rfl (hM 103 rfl) dX2_orphans_22 ?_
        refine ev_iload_n3 dX2_orphans_25 ?_
        refine ev_iald 4 rfl rfl (hM 110 rfl) (by omega) dX2_orphans_26 ?_
        rw [hk2.1]
        refine ev_aload_n0 dX2_orphans_27 ?_
        refine ev_iload_n3 dX2_orphans_28 ?_
        refine ev_cV1f okX2_receipts lkX2_47 (Nat.le_of_ble_eq_true rfl) (Nat.le_of_ble_eq_true rfl) (hM 103 rfl) isO_103 (c_X2_receipts hM (by omega)) dX2_orphans_29 ?_
        rw [hr2.1]
        first | refine ev_icmp_geN 39 (by omega) (by omega) (by decide) dX2_orphans_32 (fun h32 => ?_) (fun h32 => ?_) | refine ev_icmp_ge 39 (by decide) dX2_orphans_32 (fun h32 => ?_) (fun h32 => ?_)
        · refine ev_c0 dX2_orphans_39 ?_
          first | refine ev_iaddN dX2_orphans_40 ?_ | refine ev_iadd dX2_orphans_40 ?_
          refine ev_istore_n2 dX2_orphans_41 ?_
          refine ev_iinc3 dX2_orphans_42 ?_
          refine ev_goto 4 (by decide) dX2_orphans_45 ?_
          first | rw [h18] at hs | skip
          first | rw [decide_eq_true h32] at hs | rw [decide_eq_false (Nat.not_lt.mpr h32)] at hs | skip
          simp only [Bool.not_true, Bool.not_false, Bool.false_and, Bool.true_and, if_true, Bool.false_eq_true, if_false] at hs
          rw [← hs]
          exact ih (k + 1) (by omega)
        · refine ev_c1 dX2_orphans_35 ?_
          refine ev_goto 40 (by decide) dX2_orphans_36 ?_
          first | refine ev_iaddN dX2_orphans_40 ?_ | refine ev_iadd dX2_orphans_40 ?_
          refine ev_istore_n2 dX2_orphans_41 ?_
          refine ev_iinc3 dX2_orphans_42 ?_
          refine ev_goto 4 (by decide) dX2_orphans_45 ?_
          first | rw [h18] at hs | skip
          first | rw [decide_eq_true h32] at hs | rw [decide_eq_false (Nat.not_lt.mpr h32)] at hs | skip
          simp only [Bool.not_true, Bool.not_false, Bool.false_and, Bool.true_and, if_true, Bool.false_eq_true, if_false] at hs
          rw [← hs]
          exact ih (k + 1) (by omega)
  refine ev_c0 dX2_orphans_0 ?_
  refine ev_istore_n2 dX2_orphans_1 ?_
  refine ev_c0 dX2_orphans_2 ?_
  refine ev_istore_n3 dX2_orphans_3 ?_
  exact loop n 0 (by omega)
theorem c_X2_codesKept {ks : List Nat} (hM : InM ks) {S : St} {n : Nat} {K : Nat → Nat} (hn : S 104 0 = nI n) (h4 : n ≤ 4) (hK : ∀ q, q < n → S 110 q = nI (K q) ∧ K q ≤ 8) : Cn ks mX2_codesKept yX2_codesKept [.inr 103] S (Ri (mk (fun c => decide (c % 8 < K (c / 8))) (8 * n)) S) := by
  refine cnV okX2_codesKept 3 rfl ?_
  show Ev ks mX2_codesKept 0 [some (.inr 103), none, none, none] [] S _
  generalize hF : (fun c => decide (c % 8 < K (c / 8))) = F
  have hFv : ∀ q r, r < 8 → F (8 * q + r) = decide (r < K q) := fun q r h => by rw [← hF]; dsimp only; rw [show (8 * q + r) % 8 = r by omega, show (8 * q + r) / 8 = q by omega]
  have loop2 : ∀ z q, q < n → (∀ v, Ev ks mX2_codesKept 4 [some (.inr 103), some (.inl (mk F (8 * (q + 1)))), some (.inl (nI (q + 1))), v] [] S (Ri (mk F (8 * n)) S)) → ∀ r, r + z = K q → Ev ks mX2_codesKept 14 [some (.inr 103), some (.inl (mk F (8 * q + r))), some (.inl (nI q)), some (.inl (nI r))] [] S (Ri (mk F (8 * n)) S) := by
    intro z q hq hnext
    have hk2 := hK q hq
    induction z with
    | zero =>
      intro r hr
      refine ev_iload_n3 dX2_codesKept_14 ?_
      refine ev_aload_n0 dX2_codesKept_15 ?_
      refine gfX2_29 rfl (hM 103 rfl) dX2_codesKept_16 ?_
      refine ev_iload_n2 dX2_codesKept_19 ?_
      refine ev_iald 4 rfl rfl (hM 110 rfl) (by omega) dX2_codesKept_20 ?_
      rw [hk2.1]
      first | refine ev_icmp_geN 41 (by omega) (by omega) (by decide) dX2_codesKept_21 (fun h21 => ?_) (fun h21 => by exfalso; omega) | refine ev_icmp_ge 41 (by decide) dX2_codesKept_21 (fun h21 => ?_) (fun h21 => by exfalso; omega)
      refine ev_iinc2 dX2_codesKept_41 ?_
      refine ev_goto 4 (by decide) dX2_codesKept_44 ?_
      have e := mk_skip (f := F) (a := 8 * q + r) (b := 8 - r) (fun i h1 h2 => by
        have e2 : i = 8 * q + (i - 8 * q) := by omega
        rw [e2, hFv q _ (by omega)]
        exact decide_eq_false (by omega))
      rw [show 8 * q + r + (8 - r) = 8 * (q + 1) by omega] at e
      rw [← e]
      exact hnext _
    | succ z ih =>
      intro r hr
      have e : mk F (8 * q + (r + 1)) = mk F (8 * q + r) ||| (nI 1 <<< (nI (8 * q + r) &&& 31)) := by
        rw [← Nat.add_assoc, mk, hFv q r (by omega), decide_eq_true (by omega : r < K q), nI_lit1]
        rfl
      refine ev_iload_n3 dX2_codesKept_14 ?_
      refine ev_aload_n0 dX2_codesKept_15 ?_
      refine gfX2_29 rfl (hM 103 rfl) dX2_codesKept_16 ?_
      refine ev_iload_n2 dX2_codesKept_19 ?_
      refine ev_iald 4 rfl rfl (hM 110 rfl) (by omega) dX2_codesKept_20 ?_
      rw [hk2.1]
      first | refine ev_icmp_geN 41 (by omega) (by omega) (by decide) dX2_codesKept_21 (fun h21 => by exfalso; omega) (fun h21 => ?_) | refine ev_icmp_ge 41 (by decide) dX2_codesKept_21 (fun h21 => by exfalso; omega) (fun h21 => ?_)
      refine ev_iload_n1 dX2_codesKept_24 ?_
      refine ev_c1 dX2_codesKept_25 ?_
      refine ev_bipush (nI 8) kb_8 dX2_codesKept_26 ?_
      refine ev_iload_n2 dX2_codesKept_28 ?_
      first | refine ev_imulN dX2_codesKept_29 ?_ | refine ev_imul dX2_codesKept_29 ?_
      refine ev_iload_n3 dX2_codesKept_30 ?_
      first | refine ev_iaddN dX2_codesKept_31 ?_ | refine ev_iadd dX2_codesKept_31 ?_
      refine ev_ishl dX2_codesKept_32 ?_
      refine ev_ior dX2_codesKept_33 ?_
      refine ev_istore_n1 dX2_codesKept_34 ?_
      refine ev_iinc3 dX2_codesKept_35 ?_
      refine ev_goto 14 (by decide) dX2_codesKept_38 ?_
      rw [← e]
      exact ih (r + 1) (by omega)
  have loop : ∀ f q v, q + f = n → Ev ks mX2_codesKept 4 [some (.inr 103), some (.inl (mk F (8 * q))), some (.inl (nI q)), v] [] S (Ri (mk F (8 * n)) S) := by
    intro f
    induction f with
    | zero =>
      intro q v hq
      refine ev_iload_n2 dX2_codesKept_4 ?_
      refine ev_aload_n0 dX2_codesKept_5 ?_
      refine ev_cV0f okX2_many lkX2_82 (Nat.le_of_ble_eq_true rfl) (Nat.le_of_ble_eq_true rfl) (hM 103 rfl) isO_103 (c_X2_many hM hn) dX2_codesKept_6 ?_
      first | refine ev_icmp_geN 47 (by omega) (by omega) (by decide) dX2_codesKept_9 (fun h9 => ?_) (fun h9 => by exfalso; omega) | refine ev_icmp_ge 47 (by decide) dX2_codesKept_9 (fun h9 => ?_) (fun h9 => by exfalso; omega)
      refine ev_iload_n1 dX2_codesKept_47 ?_
      refine ev_ireturn rfl dX2_codesKept_48 ?_
      obtain rfl : q = n := by omega
      exact ⟨rfl, rfl⟩
    | succ f ih =>
      intro q v hq
      refine ev_iload_n2 dX2_codesKept_4 ?_
      refine ev_aload_n0 dX2_codesKept_5 ?_
      refine ev_cV0f okX2_many lkX2_82 (Nat.le_of_ble_eq_true rfl) (Nat.le_of_ble_eq_true rfl) (hM 103 rfl) isO_103 (c_X2_many hM hn) dX2_codesKept_6 ?_
      first | refine ev_icmp_geN 47 (by omega) (by omega) (by decide) dX2_codesKept_9 (fun h9 => by exfalso; omega) (fun h9 => ?_) | refine ev_icmp_ge 47 (by decide) dX2_codesKept_9 (fun h9 => by exfalso; omega) (fun h9 => ?_)
      refine ev_c0 dX2_codesKept_12 ?_
      refine ev_istore_n3 dX2_codesKept_13 ?_
      exact loop2 (K q) q (by omega) (fun v => ih (q + 1) v (by omega)) 0 (by omega)
  refine ev_c0 dX2_codesKept_0 ?_
  rw [nI_0]
  refine ev_istore_n1 dX2_codesKept_1 ?_
  refine ev_c0 dX2_codesKept_2 ?_
  refine ev_istore_n2 dX2_codesKept_3 ?_
  exact loop n 0 none (by omega)
theorem c_X2_written {ks : List Nat} (hM : InM ks) {S : St} {n x : Nat} {r : Nat → Nat} (hn : S 104 0 = nI n) (h4 : n ≤ 4) (hx : x < 5) (hr : ∀ q, q < n → S 104 (123 + (4 * x + q)) = nI (r q)) : Cn ks mX2_written yX2_written [.inr 103, .inl (nI x)] S (Ri (nI (fb_sm r n)) S) := by
  refine cnV okX2_written 2 rfl ?_
  show Ev ks mX2_written 0 [some (.inr 103), some (.inl (nI x)), none, none] [] S _
  have loop : ∀ f k, k + f = n → Ev ks mX2_written 4 [some (.inr 103), some (.inl (nI x)), some (.inl (nI (fb_sm r k))), some (.inl (nI k))] [] S (Ri (nI (fb_sm r n)) S) := by
    intro f
    induction f with
    | zero =>
      intro k hk
      refine ev_iload_n3 dX2_written_4 ?_
      refine ev_aload_n0 dX2_written_5 ?_
      refine ev_cV0f okX2_many lkX2_82 (Nat.le_of_ble_eq_true rfl) (Nat.le_of_ble_eq_true rfl) (hM 103 rfl) isO_103 (c_X2_many hM hn) dX2_written_6 ?_
      first | refine ev_icmp_geN 27 (by omega) (by omega) (by decide) dX2_written_9 (fun h9 => ?_) (fun h9 => by exfalso; omega) | refine ev_icmp_ge 27 (by decide) dX2_written_9 (fun h9 => ?_) (fun h9 => by exfalso; omega)
      refine ev_iload_n2 dX2_written_27 ?_
      refine ev_ireturn rfl dX2_written_28 ?_
      obtain rfl : k = n := by omega
      exact ⟨rfl, rfl⟩
    | succ f ih =>
      intro k hk
      refine ev_iload_n3 dX2_written_4 ?_
      refine ev_aload_n0 dX2_written_5 ?_
      refine ev_cV0f okX2_many lkX2_82 (Nat.le_of_ble_eq_true rfl) (Nat.le_of_ble_eq_true rfl) (hM 103 rfl) isO_103 (c_X2_many hM hn) dX2_written_6 ?_
      first | refine ev_icmp_geN 27 (by omega) (by omega) (by decide) dX2_written_9 (fun h9 => by exfalso; omega) (fun h9 => ?_) | refine ev_icmp_ge 27 (by decide) dX2_written_9 (fun h9 => by exfalso; omega) (fun h9 => ?_)
      refine ev_iload_n2 dX2_written_12 ?_
      refine ev_aload_n0 dX2_written_13 ?_
      refine ev_iload_n1 dX2_written_14 ?_
      refine ev_iload_n3 dX2_written_15 ?_
      refine ev_cV2f okX2_letters lkX2_62 (Nat.le_of_ble_eq_true rfl) (Nat.le_of_ble_eq_true rfl) (hM 103 rfl) isO_103 (c_X2_letters hM (by omega) (by omega)) dX2_written_16 ?_
      rw [hr k (by omega)]
      first | refine ev_iaddN dX2_written_19 ?_ | refine ev_iadd dX2_written_19 ?_
      refine ev_istore_n2 dX2_written_20 ?_
      refine ev_iinc3 dX2_written_21 ?_
      refine ev_goto 4 (by decide) dX2_written_24 ?_
      exact ih (k + 1) (by omega)
  refine ev_c0 dX2_written_0 ?_
  refine ev_istore_n2 dX2_written_1 ?_
  refine ev_c0 dX2_written_2 ?_
  refine ev_istore_n3 dX2_written_3 ?_
  exact loop n 0 (by omega)
theorem c_X2_allReceipts {ks : List Nat} (hM : InM ks) {S : St} {n : Nat} {r : Nat → Nat} (hn : S 104 0 = nI n) (h4 : n ≤ 4) (hr : ∀ q, q < n → S 104 (3 + q) = nI (r q)) : Cn ks mX2_allReceipts yX2_allReceipts [.inr 103] S (Ri (nI (fb_sm r n)) S) := by
  refine cnV okX2_allReceipts 2 rfl ?_
  show Ev ks mX2_allReceipts 0 [some (.inr 103), none, none] [] S _
  have loop : ∀ f k, k + f = n → Ev ks mX2_allReceipts 4 [some (.inr 103), some (.inl (nI (fb_sm r k))), some (.inl (nI k))] [] S (Ri (nI (fb_sm r n)) S) := by
    intro f
    induction f with
    | zero =>
      intro k hk
      refine ev_iload_n2 dX2_allReceipts_4 ?_
      refine ev_aload_n0 dX2_allReceipts_5 ?_
      refine ev_cV0f okX2_many lkX2_82 (Nat.le_of_ble_eq_true rfl) (Nat.le_of_ble_eq_true rfl) (hM 103 rfl) isO_103 (c_X2_many hM hn) dX2_allReceipts_6 ?_
      first | refine ev_icmp_geN 26 (by omega) (by omega) (by decide) dX2_allReceipts_9 (fun h9 => ?_) (fun h9 => by exfalso; omega) | refine ev_icmp_ge 26 (by decide) dX2_allReceipts_9 (fun h9 => ?_) (fun h9 => by exfalso; omega)
      refine ev_iload_n1 dX2_allReceipts_26 ?_
      refine ev_ireturn rfl dX2_allReceipts_27 ?_
      obtain rfl : k = n := by omega
      exact ⟨rfl, rfl⟩
    | succ f ih =>
      intro k hk
      refine ev_iload_n2 dX2_allReceipts_4 ?_
      refine ev_aload_n0 dX2_allReceipts_5 ?_
      refine ev_cV0f okX2_many lkX2_82 (Nat.le_of_ble_eq_true rfl) (Nat.le_of_ble_eq_true rfl) (hM 103 rfl) isO_103 (c_X2_many hM hn) dX2_allReceipts_6 ?_
      first | refine ev_icmp_geN 26 (by omega) (by omega) (by decide) dX2_allReceipts_9 (fun h9 => by exfalso; omega) (fun h9 => ?_) | refine ev_icmp_ge 26 (by decide) dX2_allReceipts_9 (fun h9 => by exfalso; omega) (fun h9 => ?_)
      refine ev_iload_n1 dX2_allReceipts_12 ?_
      refine ev_aload_n0 dX2_allReceipts_13 ?_
      refine ev_iload_n2 dX2_allReceipts_14 ?_
      refine ev_cV1f okX2_receipts lkX2_47 (Nat.le_of_ble_eq_true rfl) (Nat.le_of_ble_eq_true rfl) (hM 103 rfl) isO_103 (c_X2_receipts hM (by omega)) dX2_allReceipts_15 ?_
      rw [hr k (by omega)]
      first | refine ev_iaddN dX2_allReceipts_18 ?_ | refine ev_iadd dX2_allReceipts_18 ?_
      refine ev_istore_n1 dX2_allReceipts_19 ?_
      refine ev_iinc2 dX2_allReceipts_20 ?_
      refine ev_goto 4 (by decide) dX2_allReceipts_23 ?_
      exact ih (k + 1) (by omega)
  refine ev_c0 dX2_allReceipts_0 ?_
  refine ev_istore_n1 dX2_allReceipts_1 ?_
  refine ev_c0 dX2_allReceipts_2 ?_
  refine ev_istore_n2 dX2_allReceipts_3 ?_
  exact loop n 0 (by omega)
theorem c_X2_allLetters {ks : List Nat} (hM : InM ks) {S : St} {n : Nat} {r : Nat → Nat → Nat} (hn : S 104 0 = nI n) (h4 : n ≤ 4) (hr : ∀ x q, x ≤ n → q < n → S 104 (123 + (4 * x + q)) = nI (r x q)) : Cn ks mX2_allLetters yX2_allLetters [.inr 103] S (Ri (nI (fb_sm (fun x => fb_sm (r x) n) (n + 1))) S) := by
  refine cnV okX2_allLetters 2 rfl ?_
  show Ev ks mX2_allLetters 0 [some (.inr 103), none, none] [] S _
  have loop : ∀ f k, k + f = n + 1 → Ev ks mX2_allLetters 4 [some (.inr 103), some (.inl (nI (fb_sm (fun x => fb_sm (r x) n) k))), some (.inl (nI k))] [] S (Ri (nI (fb_sm (fun x => fb_sm (r x) n) (n + 1))) S) := by
    intro f
    induction f with
    | zero =>
      intro k hk
      refine ev_iload_n2 dX2_allLetters_4 ?_
      refine ev_aload_n0 dX2_allLetters_5 ?_
      refine ev_cV0f okX2_many lkX2_82 (Nat.le_of_ble_eq_true rfl) (Nat.le_of_ble_eq_true rfl) (hM 103 rfl) isO_103 (c_X2_many hM hn) dX2_allLetters_6 ?_
      first | refine ev_icmp_gtN 26 (by omega) (by omega) (by decide) dX2_allLetters_9 (fun h9 => ?_) (fun h9 => by exfalso; omega) | refine ev_icmp_gt 26 (by decide) dX2_allLetters_9 (fun h9 => ?_) (fun h9 => by exfalso; omega)
      refine ev_iload_n1 dX2_allLetters_26 ?_
      refine ev_ireturn rfl dX2_allLetters_27 ?_
      obtain rfl : k = n + 1 := by omega
      exact ⟨rfl, rfl⟩
    | succ f ih =>
      intro k hk
      refine ev_iload_n2 dX2_allLetters_4 ?_
      refine ev_aload_n0 dX2_allLetters_5 ?_
      refine ev_cV0f okX2_many lkX2_82 (Nat.le_of_ble_eq_true rfl) (Nat.le_of_ble_eq_true rfl) (hM 103 rfl) isO_103 (c_X2_many hM hn) dX2_allLetters_6 ?_
      first | refine ev_icmp_gtN 26 (by omega) (by omega) (by decide) dX2_allLetters_9 (fun h9 => by exfalso; omega) (fun h9 => ?_) | refine ev_icmp_gt 26 (by decide) dX2_allLetters_9 (fun h9 => by exfalso; omega) (fun h9 => ?_)
      refine ev_iload_n1 dX2_allLetters_12 ?_
      refine ev_aload_n0 dX2_allLetters_13 ?_
      refine ev_iload_n2 dX2_allLetters_14 ?_
      refine ev_cV1f okX2_written lkX2_140 (Nat.le_of_ble_eq_true rfl) (Nat.le_of_ble_eq_true rfl) (hM 103 rfl) isO_103 (c_X2_written hM hn h4 (by omega) (fun q hq => hr k q (by omega) hq)) dX2_allLetters_15 ?_
      first | refine ev_iaddN dX2_allLetters_18 ?_ | refine ev_iadd dX2_allLetters_18 ?_
      refine ev_istore_n1 dX2_allLetters_19 ?_
      refine ev_iinc2 dX2_allLetters_20 ?_
      refine ev_goto 4 (by decide) dX2_allLetters_23 ?_
      exact ih (k + 1) (by omega)
  refine ev_c0 dX2_allLetters_0 ?_
  refine ev_istore_n1 dX2_allLetters_1 ?_
  refine ev_c0 dX2_allLetters_2 ?_
  refine ev_istore_n2 dX2_allLetters_3 ?_
  exact loop (n + 1) 0 (by omega)
theorem c_X2_holders {ks : List Nat} (hM : InM ks) {S : St} {n c : Nat} (hn : S 104 0 = nI n) (h4 : n ≤ 4) (hc : c < 32) : Cn ks mX2_holders yX2_holders [.inr 103, .inl (nI c)] S (Ri (mk (fun p => bt (S 104 (103 + p)) c) n) S) := by
  refine cnV okX2_holders 2 rfl ?_
  show Ev ks mX2_holders 0 [some (.inr 103), some (.inl (nI c)), none, none] [] S _
  have loop : ∀ f k, k + f = n → Ev ks mX2_holders 4 [some (.inr 103), some (.inl (nI c)), some (.inl (mk (fun p => bt (S 104 (103 + p)) c) k)), some (.inl (nI k))] [] S (Ri (mk (fun p => bt (S 104 (103 + p)) c) n) S) := by
    intro f
    induction f with
    | zero =>
      intro k hk
      refine ev_iload_n3 dX2_holders_4 ?_
      refine ev_aload_n0 dX2_holders_5 ?_
      refine ev_cV0f okX2_many lkX2_82 (Nat.le_of_ble_eq_true rfl) (Nat.le_of_ble_eq_true rfl) (hM 103 rfl) isO_103 (c_X2_many hM hn) dX2_holders_6 ?_
      first | refine ev_icmp_geN 44 (by omega) (by omega) (by decide) dX2_holders_9 (fun h9 => ?_) (fun h9 => by exfalso; omega) | refine ev_icmp_ge 44 (by decide) dX2_holders_9 (fun h9 => ?_) (fun h9 => by exfalso; omega)
      refine ev_iload_n2 dX2_holders_44 ?_
      refine ev_ireturn rfl dX2_holders_45 ?_
      obtain rfl : k = n := by omega
      exact ⟨rfl, rfl⟩
    | succ f ih =>
      intro k hk
      have e : mk (fun p => bt (S 104 (103 + p)) c) (k + 1) = mk (fun p => bt (S 104 (103 + p)) c) k ||| (bif bt (S 104 (103 + k)) c then (1 : Int32) <<< (nI k &&& 31) else 0) := rfl
      refine ev_iload_n3 dX2_holders_4 ?_
      refine ev_aload_n0 dX2_holders_5 ?_
      refine ev_cV0f okX2_many lkX2_82 (Nat.le_of_ble_eq_true rfl) (Nat.le_of_ble_eq_true rfl) (hM 103 rfl) isO_103 (c_X2_many hM hn) dX2_holders_6 ?_
      first | refine ev_icmp_geN 44 (by omega) (by omega) (by decide) dX2_holders_9 (fun h9 => by exfalso; omega) (fun h9 => ?_) | refine ev_icmp_ge 44 (by decide) dX2_holders_9 (fun h9 => by exfalso; omega) (fun h9 => ?_)
      refine ev_iload_n2 dX2_holders_12 ?_
      refine ev_aload_n0 dX2_holders_13 ?_
      refine gfX2_7 rfl (hM 103 rfl) dX2_holders_14 ?_
      refine ev_bipush (nI 103) kb_103 dX2_holders_17 ?_
      refine ev_iload_n3 dX2_holders_19 ?_
      first | refine ev_iaddN dX2_holders_20 ?_ | refine ev_iadd dX2_holders_20 ?_
      refine ev_iald 1263 rfl rfl (hM 104 rfl) (by omega) dX2_holders_21 ?_
      refine ev_iload_n1 dX2_holders_22 ?_
      refine ev_cS2f okX2_has lkX2_39 (Nat.le_of_ble_eq_true rfl) (Nat.le_of_ble_eq_true rfl) (c_X2_has (by omega)) dX2_holders_23 ?_
      first | refine ev_if_eqB 35 (by decide) dX2_holders_26 (fun h26 => ?_) (fun h26 => ?_)
      · refine ev_c0 dX2_holders_35 ?_
        refine ev_ior dX2_holders_36 ?_
        refine ev_istore_n2 dX2_holders_37 ?_
        refine ev_iinc3 dX2_holders_38 ?_
        refine ev_goto 4 (by decide) dX2_holders_41 ?_
        rw [h26] at e
        simp only [cond_true, cond_false] at e
        first | rw [nI_lit1, ← e] | rw [nI_0, ← e]
        exact ih (k + 1) (by omega)
      · refine ev_c1 dX2_holders_29 ?_
        refine ev_iload_n3 dX2_holders_30 ?_
        refine ev_ishl dX2_holders_31 ?_
        refine ev_goto 36 (by decide) dX2_holders_32 ?_
        refine ev_ior dX2_holders_36 ?_
        refine ev_istore_n2 dX2_holders_37 ?_
        refine ev_iinc3 dX2_holders_38 ?_
        refine ev_goto 4 (by decide) dX2_holders_41 ?_
        rw [h26] at e
        simp only [cond_true, cond_false] at e
        first | rw [nI_lit1, ← e] | rw [nI_0, ← e]
        exact ih (k + 1) (by omega)
  refine ev_c0 dX2_holders_0 ?_
  rw [nI_0]
  refine ev_istore_n2 dX2_holders_1 ?_
  refine ev_c0 dX2_holders_2 ?_
  refine ev_istore_n3 dX2_holders_3 ?_
  exact loop n 0 (by omega)
theorem c_X2_isSafe {ks : List Nat} (hM : InM ks) {S : St} {n e q r : Nat} (hn : S 104 0 = nI n) (h4 : n ≤ 4) (he : S 104 1 = nI e) (he4 : e ≤ 4) (hq : q < 4) (hr : r < 8) : Cn ks mX2_isSafe yX2_isSafe [.inr 103, .inl (nI q), .inl (nI r)] S (Ri (bI (decide (e ≤ pcn (mk (fun p => bt (S 104 (103 + p)) (8 * q + r)) n)))) S) := by
  refine cnV okX2_isSafe 0 rfl ?_
  show Ev ks mX2_isSafe 0 [some (.inr 103), some (.inl (nI q)), some (.inl (nI r))] [] S _
  have hp := pcn_le (mk (fun p => bt (S 104 (103 + p)) (8 * q + r)) n)
  refine ev_aload_n0 dX2_isSafe_0 ?_
  refine ev_bipush (nI 8) kb_8 dX2_isSafe_1 ?_
  refine ev_iload_n1 dX2_isSafe_3 ?_
  first | refine ev_imulN dX2_isSafe_4 ?_ | refine ev_imul dX2_isSafe_4 ?_
  refine ev_iload_n2 dX2_isSafe_5 ?_
  first | refine ev_iaddN dX2_isSafe_6 ?_ | refine ev_iadd dX2_isSafe_6 ?_
  refine ev_cV1f okX2_holders lkX2_143 (Nat.le_of_ble_eq_true rfl) (Nat.le_of_ble_eq_true rfl) (hM 103 rfl) isO_103 (c_X2_holders hM hn (by omega) (by omega)) dX2_isSafe_7 ?_
  refine ev_cS1f okX2_bits lkX2_112 (Nat.le_of_ble_eq_true rfl) (Nat.le_of_ble_eq_true rfl) c_X2_bits dX2_isSafe_10 ?_
  refine ev_aload_n0 dX2_isSafe_13 ?_
  refine gfX2_7 rfl (hM 103 rfl) dX2_isSafe_14 ?_
  refine ev_c1 dX2_isSafe_17 ?_
  refine ev_iald 1263 rfl rfl (hM 104 rfl) (by omega) dX2_isSafe_18 ?_
  rw [he]
  first | refine ev_icmp_ltN 26 (by omega) (by omega) (by decide) dX2_isSafe_19 (fun h19 => ?_) (fun h19 => ?_) | refine ev_icmp_lt 26 (by decide) dX2_isSafe_19 (fun h19 => ?_) (fun h19 => ?_)
  · refine ev_c0 dX2_isSafe_26 ?_
    refine ev_zreturn zr0 rfl dX2_isSafe_27 ?_
    refine ⟨?_, rfl⟩
    first | (rw [decide_eq_false (by omega)]; rfl) | (rw [decide_eq_true (by omega)]; rfl)
  · refine ev_c1 dX2_isSafe_22 ?_
    refine ev_goto 27 (by decide) dX2_isSafe_23 ?_
    refine ev_zreturn zr1 rfl dX2_isSafe_27 ?_
    refine ⟨?_, rfl⟩
    first | (rw [decide_eq_false (by omega)]; rfl) | (rw [decide_eq_true (by omega)]; rfl)
theorem c_X2_nth {ks : List Nat} {S : St} {x : Int32} {j : Nat} (hj : j < 2147483648) : Cn ks mX2_nth yX2_nth [.inl x, .inl (nI j)] S (Ri (nth x j) S) := by
  refine cnS okX2_nth 2 rfl ?_
  show Ev ks mX2_nth 0 [some (.inl x), some (.inl (nI j)), none, none] [] S _
  have loop : ∀ f c, c + f = 32 → fb_ct (bt x) c ≤ j → Ev ks mX2_nth 4 [some (.inl x), some (.inl (nI j)), some (.inl (nI (j - fb_ct (bt x) c))), some (.inl (nI c))] [] S (Ri (nthF x j f c) S) := by
    intro f
    induction f with
    | zero =>
      intro c hc hj2
      refine ev_iload_n3 dX2_nth_4 ?_
      refine ev_bipush (nI 32) kb_32 dX2_nth_5 ?_
      first | refine ev_icmp_geN 33 (by omega) (by omega) (by decide) dX2_nth_7 (fun h7 => ?_) (fun h7 => by exfalso; omega) | refine ev_icmp_ge 33 (by decide) dX2_nth_7 (fun h7 => ?_) (fun h7 => by exfalso; omega)
      refine ev_bipush (-9 : Int32) kb_m9 dX2_nth_33 ?_
      refine ev_ireturn rfl dX2_nth_35 ?_
      exact ⟨rfl, rfl⟩
    | succ f ih =>
      intro c hc hj2
      have hs := fb_ct_succ (bt x) c
      have e1 : fb_ct (bt x) c < j → fb_ct (bt x) (c + 1) = fb_ct (bt x) c + 1 → nI (j - fb_ct (bt x) c) - 1 = nI (j - fb_ct (bt x) (c + 1)) := fun q1 q2 => by
        rw [← nI_lit1, pk_sub (by omega), q2]
        congr 1
      rw [nthF]
      refine ev_iload_n3 dX2_nth_4 ?_
      refine ev_bipush (nI 32) kb_32 dX2_nth_5 ?_
      first | refine ev_icmp_geN 33 (by omega) (by omega) (by decide) dX2_nth_7 (fun h7 => by exfalso; omega) (fun h7 => ?_) | refine ev_icmp_ge 33 (by decide) dX2_nth_7 (fun h7 => by exfalso; omega) (fun h7 => ?_)
      refine ev_iload_n0 dX2_nth_10 ?_
      refine ev_iload_n3 dX2_nth_11 ?_
      refine ev_cS2f okX2_has lkX2_39 (Nat.le_of_ble_eq_true rfl) (Nat.le_of_ble_eq_true rfl) (c_X2_has (by omega)) dX2_nth_12 ?_
      first | refine ev_if_eqB 27 (by decide) dX2_nth_15 (fun h15 => ?_) (fun h15 => ?_)
      · refine ev_iinc3 dX2_nth_27 ?_
        refine ev_goto 4 (by decide) dX2_nth_30 ?_
        rw [h15] at hs
        simp only [if_true, Bool.false_eq_true, if_false, Nat.add_zero] at hs
        first | (rw [if_neg (by rw [h15]; decide), ← hs]; exact ih (c + 1) (by omega) (by omega)) | (rw [if_pos h15, if_neg (by omega), e1 (by omega) hs]; exact ih (c + 1) (by omega) (by omega))
      · refine ev_iload_n2 dX2_nth_18 ?_
        first | refine ev_if_neN 24 (by omega) (by decide) dX2_nth_19 (fun h19 => ?_) (fun h19 => ?_) | refine ev_if_ne 24 (by decide) dX2_nth_19 (fun h19 => ?_) (fun h19 => ?_)
        · refine ev_idec2 dX2_nth_24 ?_
          refine ev_iinc3 dX2_nth_27 ?_
          refine ev_goto 4 (by decide) dX2_nth_30 ?_
          rw [h15] at hs
          simp only [if_true, Bool.false_eq_true, if_false, Nat.add_zero] at hs
          first | (rw [if_neg (by rw [h15]; decide), ← hs]; exact ih (c + 1) (by omega) (by omega)) | (rw [if_pos h15, if_neg (by omega), e1 (by omega) hs]; exact ih (c + 1) (by omega) (by omega))
        · refine ev_iload_n3 dX2_nth_22 ?_
          refine ev_ireturn rfl dX2_nth_23 ?_
          exact ⟨by rw [if_pos h15, if_pos (by omega)], rfl⟩
  refine ev_iload_n1 dX2_nth_0 ?_
  refine ev_istore_n2 dX2_nth_1 ?_
  refine ev_c0 dX2_nth_2 ?_
  refine ev_istore_n3 dX2_nth_3 ?_
  exact loop 32 0 rfl (by exact Nat.zero_le _)
theorem c_X2_heldBut {ks : List Nat} (hM : InM ks) {S : St} {n : Nat} {d : Int32} (hn : S 104 0 = nI n) (h4 : n ≤ 4) : Cn ks mX2_heldBut yX2_heldBut [.inr 103, .inl d] S (Ri (orF (fun q => bif bt d q then 0 else S 104 (103 + q)) n) S) := by
  refine cnV okX2_heldBut 2 rfl ?_
  show Ev ks mX2_heldBut 0 [some (.inr 103), some (.inl d), none, none] [] S _
  have loop : ∀ f k, k + f = n → Ev ks mX2_heldBut 4 [some (.inr 103), some (.inl d), some (.inl (orF (fun q => bif bt d q then 0 else S 104 (103 + q)) k)), some (.inl (nI k))] [] S (Ri (orF (fun q => bif bt d q then 0 else S 104 (103 + q)) n) S) := by
    intro f
    induction f with
    | zero =>
      intro k hk
      refine ev_iload_n3 dX2_heldBut_4 ?_
      refine ev_aload_n0 dX2_heldBut_5 ?_
      refine ev_cV0f okX2_many lkX2_82 (Nat.le_of_ble_eq_true rfl) (Nat.le_of_ble_eq_true rfl) (hM 103 rfl) isO_103 (c_X2_many hM hn) dX2_heldBut_6 ?_
      first | refine ev_icmp_geN 42 (by omega) (by omega) (by decide) dX2_heldBut_9 (fun h9 => ?_) (fun h9 => by exfalso; omega) | refine ev_icmp_ge 42 (by decide) dX2_heldBut_9 (fun h9 => ?_) (fun h9 => by exfalso; omega)
      refine ev_iload_n2 dX2_heldBut_42 ?_
      refine ev_ireturn rfl dX2_heldBut_43 ?_
      obtain rfl : k = n := by omega
      exact ⟨rfl, rfl⟩
    | succ f ih =>
      intro k hk
      have e : orF (fun q => bif bt d q then 0 else S 104 (103 + q)) (k + 1) = orF (fun q => bif bt d q then 0 else S 104 (103 + q)) k ||| (bif bt d k then 0 else S 104 (103 + k)) := rfl
      refine ev_iload_n3 dX2_heldBut_4 ?_
      refine ev_aload_n0 dX2_heldBut_5 ?_
      refine ev_cV0f okX2_many lkX2_82 (Nat.le_of_ble_eq_true rfl) (Nat.le_of_ble_eq_true rfl) (hM 103 rfl) isO_103 (c_X2_many hM hn) dX2_heldBut_6 ?_
      first | refine ev_icmp_geN 42 (by omega) (by omega) (by decide) dX2_heldBut_9 (fun h9 => by exfalso; omega) (fun h9 => ?_) | refine ev_icmp_ge 42 (by decide) dX2_heldBut_9 (fun h9 => by exfalso; omega) (fun h9 => ?_)
      refine ev_iload_n2 dX2_heldBut_12 ?_
      refine ev_iload_n1 dX2_heldBut_13 ?_
      refine ev_iload_n3 dX2_heldBut_14 ?_
      refine ev_cS2f okX2_has lkX2_39 (Nat.le_of_ble_eq_true rfl) (Nat.le_of_ble_eq_true rfl) (c_X2_has (by omega)) dX2_heldBut_15 ?_
      first | refine ev_if_eqB 25 (by decide) dX2_heldBut_18 (fun h18 => ?_) (fun h18 => ?_)
      · refine ev_aload_n0 dX2_heldBut_25 ?_
        refine gfX2_7 rfl (hM 103 rfl) dX2_heldBut_26 ?_
        refine ev_bipush (nI 103) kb_103 dX2_heldBut_29 ?_
        refine ev_iload_n3 dX2_heldBut_31 ?_
        first | refine ev_iaddN dX2_heldBut_32 ?_ | refine ev_iadd dX2_heldBut_32 ?_
        refine ev_iald 1263 rfl rfl (hM 104 rfl) (by omega) dX2_heldBut_33 ?_
        refine ev_ior dX2_heldBut_34 ?_
        refine ev_istore_n2 dX2_heldBut_35 ?_
        refine ev_iinc3 dX2_heldBut_36 ?_
        refine ev_goto 4 (by decide) dX2_heldBut_39 ?_
        rw [h18] at e
        simp only [cond_true, cond_false] at e
        first | rw [nI_0, ← e] | rw [← e]
        exact ih (k + 1) (by omega)
      · refine ev_c0 dX2_heldBut_21 ?_
        refine ev_goto 34 (by decide) dX2_heldBut_22 ?_
        refine ev_ior dX2_heldBut_34 ?_
        refine ev_istore_n2 dX2_heldBut_35 ?_
        refine ev_iinc3 dX2_heldBut_36 ?_
        refine ev_goto 4 (by decide) dX2_heldBut_39 ?_
        rw [h18] at e
        simp only [cond_true, cond_false] at e
        first | rw [nI_0, ← e] | rw [← e]
        exact ih (k + 1) (by omega)
  refine ev_c0 dX2_heldBut_0 ?_
  rw [nI_0]
  refine ev_istore_n2 dX2_heldBut_1 ?_
  refine ev_c0 dX2_heldBut_2 ?_
  refine ev_istore_n3 dX2_heldBut_3 ?_
  exact loop n 0 (by omega)
theorem c_X2_isReceipt {ks : List Nat} (hM : InM ks) {S : St} {n : Nat} {rr : Nat → Nat} (hn : S 104 0 = nI n) (h2 : 2 ≤ n) (h4 : n ≤ 4) (hr : ∀ q, q < n → S 104 (3 + q) = nI (rr q) ∧ rr q ≤ 8) {q r : Int32} : Cn ks mX2_isReceipt yX2_isReceipt [.inr 103, .inl q, .inl r] S (Ri (bI (isS n q && isS (rr (tn q)) r)) S) := by
  refine cnV okX2_isReceipt 0 rfl ?_
  show Ev ks mX2_isReceipt 0 [some (.inr 103), some (.inl q), some (.inl r)] [] S _
  by_cases hq : isS n q = true
  · obtain ⟨j, hj, rfl⟩ := (isS_iff (by omega)).mp hq
    have hr2 := hr j hj
    have e : (decide (nI 0 ≤ r) && decide (r ≤ nI (rr j) - nI 1)) = isS (rr j) r := by
      by_cases h0 : rr j = 0
      · rw [h0]
        unfold isS
        rw [nI_0]
        by_cases h : 0 ≤ r
        · have h3 : ¬ r < 0 := Int32.not_lt.mpr h
          have h5 : ¬ r ≤ 0 - nI 1 := fun z => h3 (by
            have a := Int32.le_iff_toInt_le.mp z
            have b : (0 - nI 1 : Int32).toInt = -1 := by decide +kernel
            rw [b] at a
            rw [Int32.lt_iff_toInt_lt]
            show r.toInt < 0
            omega)
          rw [decide_eq_false h3, decide_eq_false h5]
        · rw [decide_eq_false h]; rfl
      · rw [pk_sub (by omega), isS_le (by omega) (by omega)]
    refine ev_aload_n0 dX2_isReceipt_0 ?_
    refine ev_iload_n1 dX2_isReceipt_1 ?_
    refine ev_cV1f okX2_isSite lkX2_78 (Nat.le_of_ble_eq_true rfl) (Nat.le_of_ble_eq_true rfl) (hM 103 rfl) isO_103 (c_X2_isSite hM hn (by omega) (by omega)) dX2_isReceipt_2 ?_
    first | refine ev_if_eqB 27 (by decide) dX2_isReceipt_5 (fun h5 => by rw [hq] at h5; cases h5) (fun h5 => ?_)
    refine ev_iload_n2 dX2_isReceipt_8 ?_
    refine ev_c0 dX2_isReceipt_9 ?_
    refine ev_aload_n0 dX2_isReceipt_10 ?_
    refine ev_iload_n1 dX2_isReceipt_11 ?_
    refine ev_cV1f okX2_receipts lkX2_47 (Nat.le_of_ble_eq_true rfl) (Nat.le_of_ble_eq_true rfl) (hM 103 rfl) isO_103 (c_X2_receipts hM (by omega)) dX2_isReceipt_12 ?_
    rw [hr2.1]
    refine ev_c1 dX2_isReceipt_15 ?_
    refine ev_isub dX2_isReceipt_16 ?_
    refine ev_cS3f okX2_in lkX2_43 (Nat.le_of_ble_eq_true rfl) (Nat.le_of_ble_eq_true rfl) c_X2_in dX2_isReceipt_17 ?_
    rw [e]
    first | refine ev_if_eqB 27 (by decide) dX2_isReceipt_20 (fun h20 => ?_) (fun h20 => ?_)
    · refine ev_c0 dX2_isReceipt_27 ?_
      refine ev_zreturn zr0 rfl dX2_isReceipt_28 ?_
      refine ⟨?_, rfl⟩
      rw [hq, tn_nI (by omega), h20]
      rfl
    · refine ev_c1 dX2_isReceipt_23 ?_
      refine ev_goto 28 (by decide) dX2_isReceipt_24 ?_
      refine ev_zreturn zr1 rfl dX2_isReceipt_28 ?_
      refine ⟨?_, rfl⟩
      rw [hq, tn_nI (by omega), h20]
      rfl
  · have hq : isS n q = false := by simpa using hq
    refine ev_aload_n0 dX2_isReceipt_0 ?_
    refine ev_iload_n1 dX2_isReceipt_1 ?_
    refine ev_cV1f okX2_isSite lkX2_78 (Nat.le_of_ble_eq_true rfl) (Nat.le_of_ble_eq_true rfl) (hM 103 rfl) isO_103 (c_X2_isSite hM hn (by omega) (by omega)) dX2_isReceipt_2 ?_
    first | refine ev_if_eqB 27 (by decide) dX2_isReceipt_5 (fun h5 => ?_) (fun h5 => by rw [hq] at h5; cases h5)
    refine ev_c0 dX2_isReceipt_27 ?_
    refine ev_zreturn zr0 rfl dX2_isReceipt_28 ?_
    exact ⟨by rw [hq]; rfl, rfl⟩
theorem c_X2_allSafe {ks : List Nat} (hM : InM ks) {S : St} {n e : Nat} {rr : Nat → Nat} (hn : S 104 0 = nI n) (h4 : n ≤ 4) (he : S 104 1 = nI e) (he4 : e ≤ 4) (hr : ∀ q, q < n → S 104 (3 + q) = nI (rr q) ∧ rr q ≤ 8) : Cn ks mX2_allSafe yX2_allSafe [.inr 103] S (Ri (nI (fb_sm (fun q => fb_ct (fun r => decide (e ≤ pcn (mk (fun p => bt (S 104 (103 + p)) (8 * q + r)) n))) (rr q)) n)) S) := by
  refine cnV okX2_allSafe 3 rfl ?_
  show Ev ks mX2_allSafe 0 [some (.inr 103), none, none, none] [] S _
  generalize hG : (fun q r => decide (e ≤ pcn (mk (fun p => bt (S 104 (103 + p)) (8 * q + r)) n))) = G
  have hGv : ∀ q r, decide (e ≤ pcn (mk (fun p => bt (S 104 (103 + p)) (8 * q + r)) n)) = G q r := fun q r => by rw [← hG]
  have hF2 : (fun q => fb_ct (fun r => decide (e ≤ pcn (mk (fun p => bt (S 104 (103 + p)) (8 * q + r)) n))) (rr q)) = fun q => fb_ct (G q) (rr q) := by rw [← hG]
  rw [hF2]
  have loop2 : ∀ z q, q < n → (∀ v, Ev ks mX2_allSafe 4 [some (.inr 103), some (.inl (nI (fb_sm (fun q => fb_ct (G q) (rr q)) (q + 1)))), some (.inl (nI (q + 1))), v] [] S (Ri (nI (fb_sm (fun q => fb_ct (G q) (rr q)) n)) S)) → ∀ r, r + z = rr q → Ev ks mX2_allSafe 14 [some (.inr 103), some (.inl (nI (fb_sm (fun q => fb_ct (G q) (rr q)) q + fb_ct (G q) r))), some (.inl (nI q)), some (.inl (nI r))] [] S (Ri (nI (fb_sm (fun q => fb_ct (G q) (rr q)) n)) S) := by
    intro z q hq hnext
    have hr2 := hr q hq
    induction z with
    | zero =>
      intro r hr3
      refine ev_iload_n3 dX2_allSafe_14 ?_
      refine ev_aload_n0 dX2_allSafe_15 ?_
      refine ev_iload_n2 dX2_allSafe_16 ?_
      refine ev_cV1f okX2_receipts lkX2_47 (Nat.le_of_ble_eq_true rfl) (Nat.le_of_ble_eq_true rfl) (hM 103 rfl) isO_103 (c_X2_receipts hM (by omega)) dX2_allSafe_17 ?_
      rw [hr2.1]
      first | refine ev_icmp_geN 46 (by omega) (by omega) (by decide) dX2_allSafe_20 (fun h20 => ?_) (fun h20 => by exfalso; omega) | refine ev_icmp_ge 46 (by decide) dX2_allSafe_20 (fun h20 => ?_) (fun h20 => by exfalso; omega)
      refine ev_iinc2 dX2_allSafe_46 ?_
      refine ev_goto 4 (by decide) dX2_allSafe_49 ?_
      obtain rfl : r = rr q := by omega
      exact hnext _
    | succ z ih =>
      intro r hr3
      have hs := fb_ct_succ (G q) r
      refine ev_iload_n3 dX2_allSafe_14 ?_
      refine ev_aload_n0 dX2_allSafe_15 ?_
      refine ev_iload_n2 dX2_allSafe_16 ?_
      refine ev_cV1f okX2_receipts lkX2_47 (Nat.le_of_ble_eq_true rfl) (Nat.le_of_ble_eq_true rfl) (hM 103 rfl) isO_103 (c_X2_receipts hM (by omega)) dX2_allSafe_17 ?_
      rw [hr2.1]
      first | refine ev_icmp_geN 46 (by omega) (by omega) (by decide) dX2_allSafe_20 (fun h20 => by exfalso; omega) (fun h20 => ?_) | refine ev_icmp_ge 46 (by decide) dX2_allSafe_20 (fun h20 => by exfalso; omega) (fun h20 => ?_)
      refine ev_iload_n1 dX2_allSafe_23 ?_
      refine ev_aload_n0 dX2_allSafe_24 ?_
      refine ev_iload_n2 dX2_allSafe_25 ?_
      refine ev_iload_n3 dX2_allSafe_26 ?_
      refine ev_cV2f okX2_isSafe lkX2_149 (Nat.le_of_ble_eq_true rfl) (Nat.le_of_ble_eq_true rfl) (hM 103 rfl) isO_103 (c_X2_isSafe hM hn (by omega) he (by omega) (by omega) (by omega)) dX2_allSafe_27 ?_
      rw [hGv]
      first | refine ev_if_eqB 37 (by decide) dX2_allSafe_30 (fun h30 => ?_) (fun h30 => ?_)
      · refine ev_c0 dX2_allSafe_37 ?_
        first | refine ev_iaddN dX2_allSafe_38 ?_ | refine ev_iadd dX2_allSafe_38 ?_
        refine ev_istore_n1 dX2_allSafe_39 ?_
        refine ev_iinc3 dX2_allSafe_40 ?_
        refine ev_goto 14 (by decide) dX2_allSafe_43 ?_
        rw [h30] at hs
        simp only [if_true, Bool.false_eq_true, if_false] at hs
        rw [Nat.add_assoc, ← hs]
        exact ih (r + 1) (by omega)
      · refine ev_c1 dX2_allSafe_33 ?_
        refine ev_goto 38 (by decide) dX2_allSafe_34 ?_
        first | refine ev_iaddN dX2_allSafe_38 ?_ | refine ev_iadd dX2_allSafe_38 ?_
        refine ev_istore_n1 dX2_allSafe_39 ?_
        refine ev_iinc3 dX2_allSafe_40 ?_
        refine ev_goto 14 (by decide) dX2_allSafe_43 ?_
        rw [h30] at hs
        simp only [if_true, Bool.false_eq_true, if_false] at hs
        rw [Nat.add_assoc, ← hs]
        exact ih (r + 1) (by omega)
  have loop : ∀ f q v, q + f = n → Ev ks mX2_allSafe 4 [some (.inr 103), some (.inl (nI (fb_sm (fun q => fb_ct (G q) (rr q)) q))), some (.inl (nI q)), v] [] S (Ri (nI (fb_sm (fun q => fb_ct (G q) (rr q)) n)) S) := by
    intro f
    induction f with
    | zero =>
      intro q v hq
      refine ev_iload_n2 dX2_allSafe_4 ?_
      refine ev_aload_n0 dX2_allSafe_5 ?_
      refine ev_cV0f okX2_many lkX2_82 (Nat.le_of_ble_eq_true rfl) (Nat.le_of_ble_eq_true rfl) (hM 103 rfl) isO_103 (c_X2_many hM hn) dX2_allSafe_6 ?_
      first | refine ev_icmp_geN 52 (by omega) (by omega) (by decide) dX2_allSafe_9 (fun h9 => ?_) (fun h9 => by exfalso; omega) | refine ev_icmp_ge 52 (by decide) dX2_allSafe_9 (fun h9 => ?_) (fun h9 => by exfalso; omega)
      refine ev_iload_n1 dX2_allSafe_52 ?_
      refine ev_ireturn rfl dX2_allSafe_53 ?_
      obtain rfl : q = n := by omega
      exact ⟨rfl, rfl⟩
    | succ f ih =>
      intro q v hq
      refine ev_iload_n2 dX2_allSafe_4 ?_
      refine ev_aload_n0 dX2_allSafe_5 ?_
      refine ev_cV0f okX2_many lkX2_82 (Nat.le_of_ble_eq_true rfl) (Nat.le_of_ble_eq_true rfl) (hM 103 rfl) isO_103 (c_X2_many hM hn) dX2_allSafe_6 ?_
      first | refine ev_icmp_geN 52 (by omega) (by omega) (by decide) dX2_allSafe_9 (fun h9 => by exfalso; omega) (fun h9 => ?_) | refine ev_icmp_ge 52 (by decide) dX2_allSafe_9 (fun h9 => by exfalso; omega) (fun h9 => ?_)
      refine ev_c0 dX2_allSafe_12 ?_
      refine ev_istore_n3 dX2_allSafe_13 ?_
      exact loop2 (rr q) q (by omega) (fun v => ih (q + 1) v (by omega)) 0 (by omega)
  refine ev_c0 dX2_allSafe_0 ?_
  refine ev_istore_n1 dX2_allSafe_1 ?_
  refine ev_c0 dX2_allSafe_2 ?_
  refine ev_istore_n2 dX2_allSafe_3 ?_
  exact loop n 0 none (by omega)
theorem c_X2_allCarried {ks : List Nat} (hM : InM ks) {S : St} {n : Nat} {r : Nat → Nat → Nat} (hn : S 104 0 = nI n) (h4 : n ≤ 4) (hr : ∀ x q, x ≤ n → q < n → S 104 (123 + (4 * x + q)) = nI (r x q) ∧ r x q ≤ 8) : Cn ks mX2_allCarried yX2_allCarried [.inr 103] S (Ri (nI (fb_sm (fun x => fb_sm (fun y => fb_sm (fun k => pcn (S 104 (143 + 7 * (8 * (4 * x + y) + k) + 2))) (r x y)) n) (n + 1))) S) := by
  refine cnV okX2_allCarried 4 rfl ?_
  show Ev ks mX2_allCarried 0 [some (.inr 103), none, none, none, none] [] S _
  generalize hG : (fun x y k => pcn (S 104 (143 + 7 * (8 * (4 * x + y) + k) + 2))) = G
  have hGv : ∀ x y k, pcn (S 104 (143 + 7 * (8 * (4 * x + y) + k) + 2)) = G x y k := fun x y k => by rw [← hG]
  have hF2 : (fun x => fb_sm (fun y => fb_sm (fun k => pcn (S 104 (143 + 7 * (8 * (4 * x + y) + k) + 2))) (r x y)) n) = fun x => fb_sm (fun y => fb_sm (G x y) (r x y)) n := by rw [← hG]
  rw [hF2]
  generalize hF : (fun x => fb_sm (fun y => fb_sm (G x y) (r x y)) n) = F
  have loop3 : ∀ z x y, x ≤ n → y < n → (∀ v, Ev ks mX2_allCarried 14 [some (.inr 103), some (.inl (nI (fb_sm F x + fb_sm (fun y => fb_sm (G x y) (r x y)) (y + 1)))), some (.inl (nI x)), some (.inl (nI (y + 1))), v] [] S (Ri (nI (fb_sm F (n + 1))) S)) → ∀ k, k + z = r x y → Ev ks mX2_allCarried 25 [some (.inr 103), some (.inl (nI (fb_sm F x + fb_sm (fun y => fb_sm (G x y) (r x y)) y + fb_sm (G x y) k))), some (.inl (nI x)), some (.inl (nI y)), some (.inl (nI k))] [] S (Ri (nI (fb_sm F (n + 1))) S) := by
    intro z x y hx hy hnext
    have hr2 := hr x y hx hy
    induction z with
    | zero =>
      intro k hk
      refine ev_iload4 dX2_allCarried_25 ?_
      refine ev_aload_n0 dX2_allCarried_27 ?_
      refine ev_iload_n2 dX2_allCarried_28 ?_
      refine ev_iload_n3 dX2_allCarried_29 ?_
      refine ev_cV2f okX2_letters lkX2_62 (Nat.le_of_ble_eq_true rfl) (Nat.le_of_ble_eq_true rfl) (hM 103 rfl) isO_103 (c_X2_letters hM (by omega) (by omega)) dX2_allCarried_30 ?_
      rw [hr2.1]
      first | refine ev_icmp_geN 62 (by omega) (by omega) (by decide) dX2_allCarried_33 (fun h33 => ?_) (fun h33 => by exfalso; omega) | refine ev_icmp_ge 62 (by decide) dX2_allCarried_33 (fun h33 => ?_) (fun h33 => by exfalso; omega)
      refine ev_iinc3 dX2_allCarried_62 ?_
      refine ev_goto 14 (by decide) dX2_allCarried_65 ?_
      obtain rfl : k = r x y := by omega
      rw [Nat.add_assoc]
      exact hnext _
    | succ z ih =>
      intro k hk
      refine ev_iload4 dX2_allCarried_25 ?_
      refine ev_aload_n0 dX2_allCarried_27 ?_
      refine ev_iload_n2 dX2_allCarried_28 ?_
      refine ev_iload_n3 dX2_allCarried_29 ?_
      refine ev_cV2f okX2_letters lkX2_62 (Nat.le_of_ble_eq_true rfl) (Nat.le_of_ble_eq_true rfl) (hM 103 rfl) isO_103 (c_X2_letters hM (by omega) (by omega)) dX2_allCarried_30 ?_
      rw [hr2.1]
      first | refine ev_icmp_geN 62 (by omega) (by omega) (by decide) dX2_allCarried_33 (fun h33 => by exfalso; omega) (fun h33 => ?_) | refine ev_icmp_ge 62 (by decide) dX2_allCarried_33 (fun h33 => by exfalso; omega) (fun h33 => ?_)
      refine ev_iload_n1 dX2_allCarried_36 ?_
      refine ev_aload_n0 dX2_allCarried_37 ?_
      refine gfX2_7 rfl (hM 103 rfl) dX2_allCarried_38 ?_
      refine ev_iload_n2 dX2_allCarried_41 ?_
      refine ev_iload_n3 dX2_allCarried_42 ?_
      refine ev_iload4 dX2_allCarried_43 ?_
      refine ev_cS3f okX2_letterAt lkX2_65 (Nat.le_of_ble_eq_true rfl) (Nat.le_of_ble_eq_true rfl) c_X2_letterAt dX2_allCarried_45 ?_
      refine ev_c2 dX2_allCarried_48 ?_
      first | refine ev_iaddN dX2_allCarried_49 ?_ | refine ev_iadd dX2_allCarried_49 ?_
      refine ev_iald 1263 rfl rfl (hM 104 rfl) (by omega) dX2_allCarried_50 ?_
      refine ev_cS1f okX2_bits lkX2_112 (Nat.le_of_ble_eq_true rfl) (Nat.le_of_ble_eq_true rfl) c_X2_bits dX2_allCarried_51 ?_
      rw [hGv]
      first | refine ev_iaddN dX2_allCarried_54 ?_ | refine ev_iadd dX2_allCarried_54 ?_
      refine ev_istore_n1 dX2_allCarried_55 ?_
      refine ev_iinc4 dX2_allCarried_56 ?_
      refine ev_goto 25 (by decide) dX2_allCarried_59 ?_
      rw [Nat.add_assoc _ (fb_sm (G x y) k), ← fb_sm_succ]
      exact ih (k + 1) (by omega)
  have loop2 : ∀ z x, x ≤ n → (∀ v v2, Ev ks mX2_allCarried 4 [some (.inr 103), some (.inl (nI (fb_sm F (x + 1)))), some (.inl (nI (x + 1))), v, v2] [] S (Ri (nI (fb_sm F (n + 1))) S)) → ∀ y v, y + z = n → Ev ks mX2_allCarried 14 [some (.inr 103), some (.inl (nI (fb_sm F x + fb_sm (fun y => fb_sm (G x y) (r x y)) y))), some (.inl (nI x)), some (.inl (nI y)), v] [] S (Ri (nI (fb_sm F (n + 1))) S) := by
    intro z x hx hnext
    induction z with
    | zero =>
      intro y v hy
      refine ev_iload_n3 dX2_allCarried_14 ?_
      refine ev_aload_n0 dX2_allCarried_15 ?_
      refine ev_cV0f okX2_many lkX2_82 (Nat.le_of_ble_eq_true rfl) (Nat.le_of_ble_eq_true rfl) (hM 103 rfl) isO_103 (c_X2_many hM hn) dX2_allCarried_16 ?_
      first | refine ev_icmp_geN 68 (by omega) (by omega) (by decide) dX2_allCarried_19 (fun h19 => ?_) (fun h19 => by exfalso; omega) | refine ev_icmp_ge 68 (by decide) dX2_allCarried_19 (fun h19 => ?_) (fun h19 => by exfalso; omega)
      refine ev_iinc2 dX2_allCarried_68 ?_
      refine ev_goto 4 (by decide) dX2_allCarried_71 ?_
      obtain rfl : y = n := by omega
      have e : fb_sm F (x + 1) = fb_sm F x + fb_sm (fun y => fb_sm (G x y) (r x y)) y := by rw [fb_sm_succ, ← hF]
      rw [← e]
      exact hnext _ _
    | succ z ih =>
      intro y v hy
      refine ev_iload_n3 dX2_allCarried_14 ?_
      refine ev_aload_n0 dX2_allCarried_15 ?_
      refine ev_cV0f okX2_many lkX2_82 (Nat.le_of_ble_eq_true rfl) (Nat.le_of_ble_eq_true rfl) (hM 103 rfl) isO_103 (c_X2_many hM hn) dX2_allCarried_16 ?_
      first | refine ev_icmp_geN 68 (by omega) (by omega) (by decide) dX2_allCarried_19 (fun h19 => by exfalso; omega) (fun h19 => ?_) | refine ev_icmp_ge 68 (by decide) dX2_allCarried_19 (fun h19 => by exfalso; omega) (fun h19 => ?_)
      refine ev_c0 dX2_allCarried_22 ?_
      refine ev_istore4 dX2_allCarried_23 ?_
      exact loop3 (r x y) x y hx (by omega) (fun v => ih (y + 1) v (by omega)) 0 (by omega)
  have loop : ∀ f x v v2, x + f = n + 1 → Ev ks mX2_allCarried 4 [some (.inr 103), some (.inl (nI (fb_sm F x))), some (.inl (nI x)), v, v2] [] S (Ri (nI (fb_sm F (n + 1))) S) := by
    intro f
    induction f with
    | zero =>
      intro x v v2 hx
      refine ev_iload_n2 dX2_allCarried_4 ?_
      refine ev_aload_n0 dX2_allCarried_5 ?_
      refine ev_cV0f okX2_many lkX2_82 (Nat.le_of_ble_eq_true rfl) (Nat.le_of_ble_eq_true rfl) (hM 103 rfl) isO_103 (c_X2_many hM hn) dX2_allCarried_6 ?_
      first | refine ev_icmp_gtN 74 (by omega) (by omega) (by decide) dX2_allCarried_9 (fun h9 => ?_) (fun h9 => by exfalso; omega) | refine ev_icmp_gt 74 (by decide) dX2_allCarried_9 (fun h9 => ?_) (fun h9 => by exfalso; omega)
      refine ev_iload_n1 dX2_allCarried_74 ?_
      refine ev_ireturn rfl dX2_allCarried_75 ?_
      obtain rfl : x = n + 1 := by omega
      exact ⟨rfl, rfl⟩
    | succ f ih =>
      intro x v v2 hx
      refine ev_iload_n2 dX2_allCarried_4 ?_
      refine ev_aload_n0 dX2_allCarried_5 ?_
      refine ev_cV0f okX2_many lkX2_82 (Nat.le_of_ble_eq_true rfl) (Nat.le_of_ble_eq_true rfl) (hM 103 rfl) isO_103 (c_X2_many hM hn) dX2_allCarried_6 ?_
      first | refine ev_icmp_gtN 74 (by omega) (by omega) (by decide) dX2_allCarried_9 (fun h9 => by exfalso; omega) (fun h9 => ?_) | refine ev_icmp_gt 74 (by decide) dX2_allCarried_9 (fun h9 => by exfalso; omega) (fun h9 => ?_)
      refine ev_c0 dX2_allCarried_12 ?_
      refine ev_istore_n3 dX2_allCarried_13 ?_
      exact loop2 n x (by omega) (fun v v2 => ih (x + 1) v v2 (by omega)) 0 v2 (by omega)
  refine ev_c0 dX2_allCarried_0 ?_
  refine ev_istore_n1 dX2_allCarried_1 ?_
  refine ev_c0 dX2_allCarried_2 ?_
  refine ev_istore_n2 dX2_allCarried_3 ?_
  exact loop (n + 1) 0 none none (by omega)
end
section
theorem c_X1_numberAt {ks : List Nat} {S : St} {x : Int32} {j : Nat} (hj : j < 2147483648) : Cn ks mX1_numberAt yX1_numberAt [.inl x, .inl (nI j)] S (Ri (nth x j) S) := by
  refine cnS okX1_numberAt 2 rfl ?_
  show Ev ks mX1_numberAt 0 [some (.inl x), some (.inl (nI j)), none, none] [] S _
  have loop : ∀ f c, c + f = 32 → Ev ks mX1_numberAt 4 [some (.inl x), some (.inl (nI j)), some (.inl (nI (fb_ct (bt x) c))), some (.inl (nI c))] [] S (Ri (nthF x j f c) S) := by
    intro f
    induction f with
    | zero =>
      intro c hc
      refine ev_iload_n3 dX1_numberAt_4 ?_
      refine ev_bipush (nI 32) kb_32 dX1_numberAt_5 ?_
      first | refine ev_icmp_geN 34 (by omega) (by omega) (by decide) dX1_numberAt_7 (fun h7 => ?_) (fun h7 => by exfalso; omega) | refine ev_icmp_ge 34 (by decide) dX1_numberAt_7 (fun h7 => ?_) (fun h7 => by exfalso; omega)
      refine ev_bipush (-9 : Int32) kb_m9 dX1_numberAt_34 ?_
      refine ev_ireturn rfl dX1_numberAt_36 ?_
      exact ⟨rfl, rfl⟩
    | succ f ih =>
      intro c hc
      have hs := fb_ct_succ (bt x) c
      have hle := fb_ct_le (bt x) c
      rw [nthF]
      refine ev_iload_n3 dX1_numberAt_4 ?_
      refine ev_bipush (nI 32) kb_32 dX1_numberAt_5 ?_
      first | refine ev_icmp_geN 34 (by omega) (by omega) (by decide) dX1_numberAt_7 (fun h7 => by exfalso; omega) (fun h7 => ?_) | refine ev_icmp_ge 34 (by decide) dX1_numberAt_7 (fun h7 => by exfalso; omega) (fun h7 => ?_)
      refine ev_iload_n0 dX1_numberAt_10 ?_
      refine ev_iload_n3 dX1_numberAt_11 ?_
      refine ev_iushr dX1_numberAt_12 ?_
      refine ev_c1 dX1_numberAt_13 ?_
      rw [nI_lit1]
      refine ev_iand dX1_numberAt_14 ?_
      rw [u_bit x c (by omega)]
      first | refine ev_if_eqB 28 (by decide) dX1_numberAt_15 (fun h15 => ?_) (fun h15 => ?_)
      · refine ev_iinc3 dX1_numberAt_28 ?_
        refine ev_goto 4 (by decide) dX1_numberAt_31 ?_
        rw [h15] at hs
        simp only [if_true, Bool.false_eq_true, if_false, Nat.add_zero] at hs
        first | (rw [if_neg (by rw [h15]; decide), ← hs]; exact ih (c + 1) (by omega)) | (rw [if_pos h15, if_neg h20, ← hs]; exact ih (c + 1) (by omega))
      · refine ev_iload_n2 dX1_numberAt_18 ?_
        refine ev_iload_n1 dX1_numberAt_19 ?_
        first | refine ev_icmp_neN 25 (by omega) (by omega) (by decide) dX1_numberAt_20 (fun h20 => ?_) (fun h20 => ?_) | refine ev_icmp_ne 25 (by decide) dX1_numberAt_20 (fun h20 => ?_) (fun h20 => ?_)
        · refine ev_iinc2 dX1_numberAt_25 ?_
          refine ev_iinc3 dX1_numberAt_28 ?_
          refine ev_goto 4 (by decide) dX1_numberAt_31 ?_
          rw [h15] at hs
          simp only [if_true, Bool.false_eq_true, if_false, Nat.add_zero] at hs
          first | (rw [if_neg (by rw [h15]; decide), ← hs]; exact ih (c + 1) (by omega)) | (rw [if_pos h15, if_neg h20, ← hs]; exact ih (c + 1) (by omega))
        · refine ev_iload_n3 dX1_numberAt_23 ?_
          refine ev_ireturn rfl dX1_numberAt_24 ?_
          exact ⟨by rw [if_pos h15, if_pos h20], rfl⟩
  refine ev_c0 dX1_numberAt_0 ?_
  refine ev_istore_n2 dX1_numberAt_1 ?_
  refine ev_c0 dX1_numberAt_2 ?_
  refine ev_istore_n3 dX1_numberAt_3 ?_
  exact loop 32 0 rfl
theorem c_X0_unsafeFor {ks : List Nat} (hW : InW ks) {S : St} {n e p : Nat} (hn : S 0 0 = nI n) (h4 : n ≤ 4) (he : S 0 1 = nI e) (he4 : e ≤ 4) (hp : p < 4) : Cn ks mX0_unsafeFor yX0_unsafeFor [.inr 0, .inl (nI p)] S (Ri (mk (fun c => bt (S 11 (p * 4 + p)) c && decide (pcn (mk (fun s => bt (S 11 (p * 4 + s)) c) n) < e)) 32) S) := by
  refine cnV okX0_unsafeFor 2 rfl ?_
  show Ev ks mX0_unsafeFor 0 [some (.inr 0), some (.inl (nI p)), none, none] [] S _
  generalize hF : (fun c => bt (S 11 (p * 4 + p)) c && decide (pcn (mk (fun s => bt (S 11 (p * 4 + s)) c) n) < e)) = F
  have hFv : ∀ c, F c = (bt (S 11 (p * 4 + p)) c && decide (pcn (mk (fun s => bt (S 11 (p * 4 + s)) c) n) < e)) := fun c => by rw [← hF]
  have loop : ∀ f c, c + f = 32 → Ev ks mX0_unsafeFor 4 [some (.inr 0), some (.inl (nI p)), some (.inl (mk F c)), some (.inl (nI c))] [] S (Ri (mk F 32) S) := by
    intro f
    induction f with
    | zero =>
      intro c hc
      refine ev_iload_n3 dX0_unsafeFor_4 ?_
      refine ev_bipush (nI 32) kb_32 dX0_unsafeFor_5 ?_
      first | refine ev_icmp_geN 50 (by omega) (by omega) (by decide) dX0_unsafeFor_7 (fun h7 => ?_) (fun h7 => by exfalso; omega) | refine ev_icmp_ge 50 (by decide) dX0_unsafeFor_7 (fun h7 => ?_) (fun h7 => by exfalso; omega)
      refine ev_iload_n2 dX0_unsafeFor_50 ?_
      refine ev_ireturn rfl dX0_unsafeFor_51 ?_
      obtain rfl : c = 32 := by omega
      exact ⟨rfl, rfl⟩
    | succ f ih =>
      intro c hc
      have hs : mk F (c + 1) = mk F c ||| (bif F c then (1 : Int32) <<< (nI c &&& 31) else 0) := rfl
      have hle := pcn_le (mk (fun s => bt (S 11 (p * 4 + s)) c) n)
      rw [hFv] at hs
      refine ev_iload_n3 dX0_unsafeFor_4 ?_
      refine ev_bipush (nI 32) kb_32 dX0_unsafeFor_5 ?_
      first | refine ev_icmp_geN 50 (by omega) (by omega) (by decide) dX0_unsafeFor_7 (fun h7 => by exfalso; omega) (fun h7 => ?_) | refine ev_icmp_ge 50 (by decide) dX0_unsafeFor_7 (fun h7 => by exfalso; omega) (fun h7 => ?_)
      refine ev_aload_n0 dX0_unsafeFor_10 ?_
      refine ev_iload_n1 dX0_unsafeFor_11 ?_
      refine ev_cV1f okX0_heldBy lkX0_104 (Nat.le_of_ble_eq_true rfl) (Nat.le_of_ble_eq_true rfl) (hW 0 rfl) isO_0 (c_X0_heldBy hW (by omega)) dX0_unsafeFor_12 ?_
      refine ev_iload_n3 dX0_unsafeFor_15 ?_
      refine ev_iushr dX0_unsafeFor_16 ?_
      refine ev_c1 dX0_unsafeFor_17 ?_
      rw [nI_lit1]
      refine ev_iand dX0_unsafeFor_18 ?_
      rw [u_bit _ c (by omega)]
      first | refine ev_if_eqB 44 (by decide) dX0_unsafeFor_19 (fun h19 => ?_) (fun h19 => ?_)
      · refine ev_iinc3 dX0_unsafeFor_44 ?_
        refine ev_goto 4 (by decide) dX0_unsafeFor_47 ?_
        rw [h19] at hs
        first | rw [decide_eq_true h35] at hs | rw [decide_eq_false (Nat.not_lt.mpr h35)] at hs | skip
        simp only [Bool.true_and, Bool.false_and, cond_true, cond_false, or_zero] at hs
        first | rw [nI_lit1] | skip
        rw [← hs]
        exact ih (c + 1) (by omega)
      · refine ev_aload_n0 dX0_unsafeFor_22 ?_
        refine ev_iload_n1 dX0_unsafeFor_23 ?_
        refine ev_iload_n3 dX0_unsafeFor_24 ?_
        refine ev_cV2f okX0_holdersKnown lkX0_113 (Nat.le_of_ble_eq_true rfl) (Nat.le_of_ble_eq_true rfl) (hW 0 rfl) isO_0 (c_X0_holdersKnown hW hn (by omega) (by omega) (by omega)) dX0_unsafeFor_25 ?_
        refine ev_cS1f okJ6_bitCount_0f7a4 lkX0_75 (Nat.le_of_ble_eq_true rfl) (Nat.le_of_ble_eq_true rfl) c_J6_bitCount_0f7a4 dX0_unsafeFor_28 ?_
        refine ev_aload_n0 dX0_unsafeFor_31 ?_
        refine gfX0_53 rfl (hW 0 rfl) dX0_unsafeFor_32 ?_
        rw [he]
        first | refine ev_icmp_geN 44 (by omega) (by omega) (by decide) dX0_unsafeFor_35 (fun h35 => ?_) (fun h35 => ?_) | refine ev_icmp_ge 44 (by decide) dX0_unsafeFor_35 (fun h35 => ?_) (fun h35 => ?_)
        · refine ev_iinc3 dX0_unsafeFor_44 ?_
          refine ev_goto 4 (by decide) dX0_unsafeFor_47 ?_
          rw [h19] at hs
          first | rw [decide_eq_true h35] at hs | rw [decide_eq_false (Nat.not_lt.mpr h35)] at hs | skip
          simp only [Bool.true_and, Bool.false_and, cond_true, cond_false, or_zero] at hs
          first | rw [nI_lit1] | skip
          rw [← hs]
          exact ih (c + 1) (by omega)
        · refine ev_iload_n2 dX0_unsafeFor_38 ?_
          refine ev_c1 dX0_unsafeFor_39 ?_
          refine ev_iload_n3 dX0_unsafeFor_40 ?_
          refine ev_ishl dX0_unsafeFor_41 ?_
          refine ev_ior dX0_unsafeFor_42 ?_
          refine ev_istore_n2 dX0_unsafeFor_43 ?_
          refine ev_iinc3 dX0_unsafeFor_44 ?_
          refine ev_goto 4 (by decide) dX0_unsafeFor_47 ?_
          rw [h19] at hs
          first | rw [decide_eq_true h35] at hs | rw [decide_eq_false (Nat.not_lt.mpr h35)] at hs | skip
          simp only [Bool.true_and, Bool.false_and, cond_true, cond_false, or_zero] at hs
          first | rw [nI_lit1] | skip
          rw [← hs]
          exact ih (c + 1) (by omega)
  refine ev_c0 dX0_unsafeFor_0 ?_
  rw [nI_0]
  refine ev_istore_n2 dX0_unsafeFor_1 ?_
  refine ev_c0 dX0_unsafeFor_2 ?_
  refine ev_istore_n3 dX0_unsafeFor_3 ?_
  exact loop 32 0 rfl
theorem c_X0_isReceipt {ks : List Nat} (hW : InW ks) {S : St} {n : Nat} {rr : Nat → Nat} (hn : S 0 0 = nI n) (h4 : n ≤ 4) (hr : ∀ q, q < n → S 1 q = nI (rr q) ∧ rr q ≤ 8) {q r : Int32} : Cn ks mX0_isReceipt yX0_isReceipt [.inr 0, .inl q, .inl r] S (Ri (bI (isS n q && isS (rr (tn q)) r)) S) := by
  refine cnV okX0_isReceipt 0 rfl ?_
  show Ev ks mX0_isReceipt 0 [some (.inr 0), some (.inl q), some (.inl r)] [] S _
  by_cases hq : isS n q = true
  · obtain ⟨j, hj, rfl⟩ := (isS_iff (by omega)).mp hq
    have hr2 := hr j hj
    refine ev_aload_n0 dX0_isReceipt_0 ?_
    refine ev_iload_n1 dX0_isReceipt_1 ?_
    refine ev_cV1f okX0_isSite lkX0_84 (Nat.le_of_ble_eq_true rfl) (Nat.le_of_ble_eq_true rfl) (hW 0 rfl) isO_0 (c_X0_isSite hW hn) dX0_isReceipt_2 ?_
    first | refine ev_if_eqB 26 (by decide) dX0_isReceipt_5 (fun h5 => by rw [hq] at h5; cases h5) (fun h5 => ?_)
    refine ev_iload_n2 dX0_isReceipt_8 ?_
    first | refine ev_if_lt 26 (by decide) dX0_isReceipt_9 (fun h9 => ?_) (fun h9 => ?_)
    · refine ev_c0 dX0_isReceipt_26 ?_
      refine ev_zreturn zr0 rfl dX0_isReceipt_27 ?_
      refine ⟨?_, rfl⟩
      rw [hq, tn_nI (by omega)]
      unfold isS
      first | (rw [decide_eq_false (Int32.not_le.mpr h9)]; rfl) | (rw [decide_eq_true (Int32.not_lt.mp h9)]; first | (rw [decide_eq_false (Int32.not_lt.mpr h19)]; rfl) | (rw [decide_eq_true (Int32.not_le.mp h19)]; rfl))
    · refine ev_iload_n2 dX0_isReceipt_12 ?_
      refine ev_aload_n0 dX0_isReceipt_13 ?_
      refine gfX0_9 rfl (hW 0 rfl) dX0_isReceipt_14 ?_
      refine ev_iload_n1 dX0_isReceipt_17 ?_
      refine ev_iald 4 rfl rfl (hW 1 rfl) (by omega) dX0_isReceipt_18 ?_
      rw [hr2.1]
      first | refine ev_icmp_ge 26 (by decide) dX0_isReceipt_19 (fun h19 => ?_) (fun h19 => ?_)
      · refine ev_c0 dX0_isReceipt_26 ?_
        refine ev_zreturn zr0 rfl dX0_isReceipt_27 ?_
        refine ⟨?_, rfl⟩
        rw [hq, tn_nI (by omega)]
        unfold isS
        first | (rw [decide_eq_false (Int32.not_le.mpr h9)]; rfl) | (rw [decide_eq_true (Int32.not_lt.mp h9)]; first | (rw [decide_eq_false (Int32.not_lt.mpr h19)]; rfl) | (rw [decide_eq_true (Int32.not_le.mp h19)]; rfl))
      · refine ev_c1 dX0_isReceipt_22 ?_
        refine ev_goto 27 (by decide) dX0_isReceipt_23 ?_
        refine ev_zreturn zr1 rfl dX0_isReceipt_27 ?_
        refine ⟨?_, rfl⟩
        rw [hq, tn_nI (by omega)]
        unfold isS
        first | (rw [decide_eq_false (Int32.not_le.mpr h9)]; rfl) | (rw [decide_eq_true (Int32.not_lt.mp h9)]; first | (rw [decide_eq_false (Int32.not_lt.mpr h19)]; rfl) | (rw [decide_eq_true (Int32.not_le.mp h19)]; rfl))
  · have hq : isS n q = false := by simpa using hq
    refine ev_aload_n0 dX0_isReceipt_0 ?_
    refine ev_iload_n1 dX0_isReceipt_1 ?_
    refine ev_cV1f okX0_isSite lkX0_84 (Nat.le_of_ble_eq_true rfl) (Nat.le_of_ble_eq_true rfl) (hW 0 rfl) isO_0 (c_X0_isSite hW hn) dX0_isReceipt_2 ?_
    first | refine ev_if_eqB 26 (by decide) dX0_isReceipt_5 (fun h5 => ?_) (fun h5 => by rw [hq] at h5; cases h5)
    refine ev_c0 dX0_isReceipt_26 ?_
    refine ev_zreturn zr0 rfl dX0_isReceipt_27 ?_
    exact ⟨by rw [hq]; rfl, rfl⟩
theorem c_X0_safeReceipts {ks : List Nat} (hW : InW ks) {S : St} {n e : Nat} {rr : Nat → Nat} (hn : S 0 0 = nI n) (h4 : n ≤ 4) (he : S 0 1 = nI e) (he4 : e ≤ 4) (hr : ∀ q, q < n → S 1 q = nI (rr q) ∧ rr q ≤ 8) : Cn ks mX0_safeReceipts yX0_safeReceipts [.inr 0] S (Ri (nI (fb_sm (fun q => fb_ct (fun r => decide (e ≤ pcn (mk (fun p => bt (S 11 (p * 4 + p)) (q * 8 + r)) n))) (rr q)) n)) S) := by
  refine cnV okX0_safeReceipts 3 rfl ?_
  show Ev ks mX0_safeReceipts 0 [some (.inr 0), none, none, none] [] S _
  generalize hG : (fun q r => decide (e ≤ pcn (mk (fun p => bt (S 11 (p * 4 + p)) (q * 8 + r)) n))) = G
  have hGv : ∀ q r, decide (e ≤ pcn (mk (fun p => bt (S 11 (p * 4 + p)) (q * 8 + r)) n)) = G q r := fun q r => by rw [← hG]
  have hF2 : (fun q => fb_ct (fun r => decide (e ≤ pcn (mk (fun p => bt (S 11 (p * 4 + p)) (q * 8 + r)) n))) (rr q)) = fun q => fb_ct (G q) (rr q) := by rw [← hG]
  rw [hF2]
  have loop2 : ∀ z q, q < n → (∀ v, Ev ks mX0_safeReceipts 4 [some (.inr 0), some (.inl (nI (fb_sm (fun q => fb_ct (G q) (rr q)) (q + 1)))), some (.inl (nI (q + 1))), v] [] S (Ri (nI (fb_sm (fun q => fb_ct (G q) (rr q)) n)) S)) → ∀ r, r + z = rr q → Ev ks mX0_safeReceipts 14 [some (.inr 0), some (.inl (nI (fb_sm (fun q => fb_ct (G q) (rr q)) q + fb_ct (G q) r))), some (.inl (nI q)), some (.inl (nI r))] [] S (Ri (nI (fb_sm (fun q => fb_ct (G q) (rr q)) n)) S) := by
    intro z q hq hnext
    have hr2 := hr q hq
    induction z with
    | zero =>
      intro r hr3
      refine ev_iload_n3 dX0_safeReceipts_14 ?_
      refine ev_aload_n0 dX0_safeReceipts_15 ?_
      refine gfX0_9 rfl (hW 0 rfl) dX0_safeReceipts_16 ?_
      refine ev_iload_n2 dX0_safeReceipts_19 ?_
      refine ev_iald 4 rfl rfl (hW 1 rfl) (by omega) dX0_safeReceipts_20 ?_
      rw [hr2.1]
      first | refine ev_icmp_geN 45 (by omega) (by omega) (by decide) dX0_safeReceipts_21 (fun h21 => ?_) (fun h21 => by exfalso; omega) | refine ev_icmp_ge 45 (by decide) dX0_safeReceipts_21 (fun h21 => ?_) (fun h21 => by exfalso; omega)
      refine ev_iinc2 dX0_safeReceipts_45 ?_
      refine ev_goto 4 (by decide) dX0_safeReceipts_48 ?_
      obtain rfl : r = rr q := by omega
      exact hnext _
    | succ z ih =>
      intro r hr3
      have hs := fb_ct_succ (G q) r
      refine ev_iload_n3 dX0_safeReceipts_14 ?_
      refine ev_aload_n0 dX0_safeReceipts_15 ?_
      refine gfX0_9 rfl (hW 0 rfl) dX0_safeReceipts_16 ?_
      refine ev_iload_n2 dX0_safeReceipts_19 ?_
      refine ev_iald 4 rfl rfl (hW 1 rfl) (by omega) dX0_safeReceipts_20 ?_
      rw [hr2.1]
      first | refine ev_icmp_geN 45 (by omega) (by omega) (by decide) dX0_safeReceipts_21 (fun h21 => by exfalso; omega) (fun h21 => ?_) | refine ev_icmp_ge 45 (by decide) dX0_safeReceipts_21 (fun h21 => by exfalso; omega) (fun h21 => ?_)
      refine ev_aload_n0 dX0_safeReceipts_24 ?_
      refine ev_iload_n2 dX0_safeReceipts_25 ?_
      refine ev_iload_n3 dX0_safeReceipts_26 ?_
      refine ev_cS2f okX0_codeOf lkX0_88 (Nat.le_of_ble_eq_true rfl) (Nat.le_of_ble_eq_true rfl) c_X0_codeOf dX0_safeReceipts_27 ?_
      refine ev_cV1f okX0_isSafe lkX0_110 (Nat.le_of_ble_eq_true rfl) (Nat.le_of_ble_eq_true rfl) (hW 0 rfl) isO_0 (c_X0_isSafe hW hn (by omega) he (by omega) (by omega)) dX0_safeReceipts_30 ?_
      rw [hGv]
      first | refine ev_if_eqB 39 (by decide) dX0_safeReceipts_33 (fun h33 => ?_) (fun h33 => ?_)
      · refine ev_iinc3 dX0_safeReceipts_39 ?_
        refine ev_goto 14 (by decide) dX0_safeReceipts_42 ?_
        rw [h33] at hs
        simp only [if_true, Bool.false_eq_true, if_false, Nat.add_zero] at hs
        first | rw [Nat.add_assoc, ← hs] | rw [← hs]
        exact ih (r + 1) (by omega)
      · refine ev_iinc1 dX0_safeReceipts_36 ?_
        refine ev_iinc3 dX0_safeReceipts_39 ?_
        refine ev_goto 14 (by decide) dX0_safeReceipts_42 ?_
        rw [h33] at hs
        simp only [if_true, Bool.false_eq_true, if_false, Nat.add_zero] at hs
        first | rw [Nat.add_assoc, ← hs] | rw [← hs]
        exact ih (r + 1) (by omega)
  have loop : ∀ f q v, q + f = n → Ev ks mX0_safeReceipts 4 [some (.inr 0), some (.inl (nI (fb_sm (fun q => fb_ct (G q) (rr q)) q))), some (.inl (nI q)), v] [] S (Ri (nI (fb_sm (fun q => fb_ct (G q) (rr q)) n)) S) := by
    intro f
    induction f with
    | zero =>
      intro q v hq
      refine ev_iload_n2 dX0_safeReceipts_4 ?_
      refine ev_aload_n0 dX0_safeReceipts_5 ?_
      refine gfX0_49 rfl (hW 0 rfl) dX0_safeReceipts_6 ?_
      rw [hn]
      first | refine ev_icmp_geN 51 (by omega) (by omega) (by decide) dX0_safeReceipts_9 (fun h9 => ?_) (fun h9 => by exfalso; omega) | refine ev_icmp_ge 51 (by decide) dX0_safeReceipts_9 (fun h9 => ?_) (fun h9 => by exfalso; omega)
      refine ev_iload_n1 dX0_safeReceipts_51 ?_
      refine ev_ireturn rfl dX0_safeReceipts_52 ?_
      obtain rfl : q = n := by omega
      exact ⟨rfl, rfl⟩
    | succ f ih =>
      intro q v hq
      refine ev_iload_n2 dX0_safeReceipts_4 ?_
      refine ev_aload_n0 dX0_safeReceipts_5 ?_
      refine gfX0_49 rfl (hW 0 rfl) dX0_safeReceipts_6 ?_
      rw [hn]
      first | refine ev_icmp_geN 51 (by omega) (by omega) (by decide) dX0_safeReceipts_9 (fun h9 => by exfalso; omega) (fun h9 => ?_) | refine ev_icmp_ge 51 (by decide) dX0_safeReceipts_9 (fun h9 => by exfalso; omega) (fun h9 => ?_)
      refine ev_c0 dX0_safeReceipts_12 ?_
      refine ev_istore_n3 dX0_safeReceipts_13 ?_
      exact loop2 (rr q) q (by omega) (fun v => ih (q + 1) v (by omega)) 0 (by omega)
  refine ev_c0 dX0_safeReceipts_0 ?_
  refine ev_istore_n1 dX0_safeReceipts_1 ?_
  refine ev_c0 dX0_safeReceipts_2 ?_
  refine ev_istore_n2 dX0_safeReceipts_3 ?_
  exact loop n 0 none (by omega)
/-- the codes that are there, were the sites d down -/
def thr (w : St) (n : Nat) (d : Int32) : Int32 := orF (fun p => bif bt d p then 0 else ((nI 255 <<< (nI (p * 8) &&& 31)) ||| w 11 (p * 4 + p))) n
/-- whether a code's receipt would be kept -/
def kf (w : St) (rr : Nat → Nat) (T : Int32) (c : Nat) : Bool := decide (c % 8 < rr (c / 8)) && decide (w 5 c &&& (T ^^^ (-1)) = 0)
theorem c_X0_keptIfDown {ks : List Nat} (hW : InW ks) {S : St} {n : Nat} {rr : Nat → Nat} {d : Int32} (hn : S 0 0 = nI n) (h4 : n ≤ 4) (hr : ∀ q, q < n → S 1 q = nI (rr q) ∧ rr q ≤ 8) : Cn ks mX0_keptIfDown yX0_keptIfDown [.inr 0, .inl d] S (Ri (mk (kf S rr (thr S n d)) (n * 8)) S) := by
  refine cnV okX0_keptIfDown 5 rfl ?_
  show Ev ks mX0_keptIfDown 0 [some (.inr 0), some (.inl d), none, none, none, none, none] [] S _
  generalize hT : thr S n d = T
  generalize hF : kf S rr T = F
  have hFv : ∀ q r, r < 8 → F (q * 8 + r) = (decide (r < rr q) && decide (S 5 (q * 8 + r) &&& (T ^^^ (-1)) = 0)) := fun q r h => by rw [← hF]; unfold kf; rw [show (q * 8 + r) % 8 = r by omega, show (q * 8 + r) / 8 = q by omega]
  have loop3 : ∀ z q, q < n → (∀ v v2, Ev ks mX0_keptIfDown 44 [some (.inr 0), some (.inl d), some (.inl T), some (.inl (mk F ((q + 1) * 8))), some (.inl (nI (q + 1))), v, v2] [] S (Ri (mk F (n * 8)) S)) → ∀ r v, r + z = rr q → Ev ks mX0_keptIfDown 56 [some (.inr 0), some (.inl d), some (.inl T), some (.inl (mk F (q * 8 + r))), some (.inl (nI q)), some (.inl (nI r)), v] [] S (Ri (mk F (n * 8)) S) := by
    intro z q hq hnext
    have hr2 := hr q hq
    induction z with
    | zero =>
      intro r v hr3
      refine ev_iload5 dX0_keptIfDown_56 ?_
      refine ev_aload_n0 dX0_keptIfDown_58 ?_
      refine gfX0_9 rfl (hW 0 rfl) dX0_keptIfDown_59 ?_
      refine ev_iload4 dX0_keptIfDown_62 ?_
      refine ev_iald 4 rfl rfl (hW 1 rfl) (by omega) dX0_keptIfDown_64 ?_
      rw [hr2.1]
      first | refine ev_icmp_geN 104 (by omega) (by omega) (by decide) dX0_keptIfDown_65 (fun h65 => ?_) (fun h65 => by exfalso; omega) | refine ev_icmp_ge 104 (by decide) dX0_keptIfDown_65 (fun h65 => ?_) (fun h65 => by exfalso; omega)
      refine ev_iinc4 dX0_keptIfDown_104 ?_
      refine ev_goto 44 (by decide) dX0_keptIfDown_107 ?_
      have e := mk_skip (f := F) (a := q * 8 + r) (b := 8 - r) (fun i h1 h2 => by
        have e2 : i = q * 8 + (i - q * 8) := by omega
        rw [e2, hFv q _ (by omega), decide_eq_false (by omega)]
        rfl)
      rw [show q * 8 + r + (8 - r) = (q + 1) * 8 by omega] at e
      rw [← e]
      exact hnext _ _
    | succ z ih =>
      intro r v hr3
      have hs : mk F (q * 8 + (r + 1)) = mk F (q * 8 + r) ||| (bif F (q * 8 + r) then (1 : Int32) <<< (nI (q * 8 + r) &&& 31) else 0) := rfl
      rw [hFv q r (by omega), decide_eq_true (by omega : r < rr q), Bool.true_and] at hs
      refine ev_iload5 dX0_keptIfDown_56 ?_
      refine ev_aload_n0 dX0_keptIfDown_58 ?_
      refine gfX0_9 rfl (hW 0 rfl) dX0_keptIfDown_59 ?_
      refine ev_iload4 dX0_keptIfDown_62 ?_
      refine ev_iald 4 rfl rfl (hW 1 rfl) (by omega) dX0_keptIfDown_64 ?_
      rw [hr2.1]
      first | refine ev_icmp_geN 104 (by omega) (by omega) (by decide) dX0_keptIfDown_65 (fun h65 => by exfalso; omega) (fun h65 => ?_) | refine ev_icmp_ge 104 (by decide) dX0_keptIfDown_65 (fun h65 => by exfalso; omega) (fun h65 => ?_)
      refine ev_iload4 dX0_keptIfDown_68 ?_
      refine ev_iload5 dX0_keptIfDown_70 ?_
      refine ev_cS2f okX0_codeOf lkX0_88 (Nat.le_of_ble_eq_true rfl) (Nat.le_of_ble_eq_true rfl) c_X0_codeOf dX0_keptIfDown_72 ?_
      refine ev_istore6 dX0_keptIfDown_75 ?_
      refine ev_aload_n0 dX0_keptIfDown_77 ?_
      refine gfX0_24 rfl (hW 0 rfl) dX0_keptIfDown_78 ?_
      refine ev_iload6 dX0_keptIfDown_81 ?_
      refine ev_iald 32 rfl rfl (hW 5 rfl) (by omega) dX0_keptIfDown_83 ?_
      refine ev_iload_n2 dX0_keptIfDown_84 ?_
      refine ev_cm1 dX0_keptIfDown_85 ?_
      refine ev_ixor dX0_keptIfDown_86 ?_
      refine ev_iand dX0_keptIfDown_87 ?_
      first | refine ev_if_ne 98 (by decide) dX0_keptIfDown_88 (fun h88 => ?_) (fun h88 => ?_)
      · refine ev_iinc5 dX0_keptIfDown_98 ?_
        refine ev_goto 56 (by decide) dX0_keptIfDown_101 ?_
        first | rw [decide_eq_true h88] at hs | rw [decide_eq_false h88] at hs
        simp only [cond_true, cond_false, or_zero] at hs
        first | rw [nI_lit1] | skip
        rw [← hs]
        exact ih (r + 1) _ (by omega)
      · refine ev_iload_n3 dX0_keptIfDown_91 ?_
        refine ev_c1 dX0_keptIfDown_92 ?_
        refine ev_iload6 dX0_keptIfDown_93 ?_
        refine ev_ishl dX0_keptIfDown_95 ?_
        refine ev_ior dX0_keptIfDown_96 ?_
        refine ev_istore_n3 dX0_keptIfDown_97 ?_
        refine ev_iinc5 dX0_keptIfDown_98 ?_
        refine ev_goto 56 (by decide) dX0_keptIfDown_101 ?_
        first | rw [decide_eq_true h88] at hs | rw [decide_eq_false h88] at hs
        simp only [cond_true, cond_false, or_zero] at hs
        first | rw [nI_lit1] | skip
        rw [← hs]
        exact ih (r + 1) _ (by omega)
  have loop2 : ∀ f q v v2, q + f = n → Ev ks mX0_keptIfDown 44 [some (.inr 0), some (.inl d), some (.inl T), some (.inl (mk F (q * 8))), some (.inl (nI q)), v, v2] [] S (Ri (mk F (n * 8)) S) := by
    intro f
    induction f with
    | zero =>
      intro q v v2 hq
      refine ev_iload4 dX0_keptIfDown_44 ?_
      refine ev_aload_n0 dX0_keptIfDown_46 ?_
      refine gfX0_49 rfl (hW 0 rfl) dX0_keptIfDown_47 ?_
      rw [hn]
      first | refine ev_icmp_geN 110 (by omega) (by omega) (by decide) dX0_keptIfDown_50 (fun h50 => ?_) (fun h50 => by exfalso; omega) | refine ev_icmp_ge 110 (by decide) dX0_keptIfDown_50 (fun h50 => ?_) (fun h50 => by exfalso; omega)
      refine ev_iload_n3 dX0_keptIfDown_110 ?_
      refine ev_ireturn rfl dX0_keptIfDown_111 ?_
      obtain rfl : q = n := by omega
      exact ⟨rfl, rfl⟩
    | succ f ih =>
      intro q v v2 hq
      refine ev_iload4 dX0_keptIfDown_44 ?_
      refine ev_aload_n0 dX0_keptIfDown_46 ?_
      refine gfX0_49 rfl (hW 0 rfl) dX0_keptIfDown_47 ?_
      rw [hn]
      first | refine ev_icmp_geN 110 (by omega) (by omega) (by decide) dX0_keptIfDown_50 (fun h50 => by exfalso; omega) (fun h50 => ?_) | refine ev_icmp_ge 110 (by decide) dX0_keptIfDown_50 (fun h50 => by exfalso; omega) (fun h50 => ?_)
      refine ev_c0 dX0_keptIfDown_53 ?_
      refine ev_istore5 dX0_keptIfDown_54 ?_
      exact loop3 (rr q) q (by omega) (fun v v2 => ih (q + 1) v v2 (by omega)) 0 _ (by omega)
  have loop : ∀ f p, p + f = n → Ev ks mX0_keptIfDown 4 [some (.inr 0), some (.inl d), some (.inl (orF (fun p => bif bt d p then 0 else ((nI 255 <<< (nI (p * 8) &&& 31)) ||| S 11 (p * 4 + p))) p)), some (.inl (nI p)), none, none, none] [] S (Ri (mk F (n * 8)) S) := by
    intro f
    induction f with
    | zero =>
      intro p hp
      obtain rfl : p = n := by omega
      unfold thr at hT
      rw [hT]
      refine ev_iload_n3 dX0_keptIfDown_4 ?_
      refine ev_aload_n0 dX0_keptIfDown_5 ?_
      refine gfX0_49 rfl (hW 0 rfl) dX0_keptIfDown_6 ?_
      rw [hn]
      first | refine ev_icmp_geN 39 (by omega) (by omega) (by decide) dX0_keptIfDown_9 (fun h9 => ?_) (fun h9 => by exfalso; omega) | refine ev_icmp_ge 39 (by decide) dX0_keptIfDown_9 (fun h9 => ?_) (fun h9 => by exfalso; omega)
      refine ev_c0 dX0_keptIfDown_39 ?_
      rw [nI_0]
      refine ev_istore_n3 dX0_keptIfDown_40 ?_
      refine ev_c0 dX0_keptIfDown_41 ?_
      refine ev_istore4 dX0_keptIfDown_42 ?_
      exact loop2 p 0 none none (by omega)
    | succ f ih =>
      intro p hp
      have hs : orF (fun p => bif bt d p then 0 else ((nI 255 <<< (nI (p * 8) &&& 31)) ||| S 11 (p * 4 + p))) (p + 1) = orF (fun p => bif bt d p then 0 else ((nI 255 <<< (nI (p * 8) &&& 31)) ||| S 11 (p * 4 + p))) p ||| (bif bt d p then 0 else ((nI 255 <<< (nI (p * 8) &&& 31)) ||| S 11 (p * 4 + p))) := rfl
      refine ev_iload_n3 dX0_keptIfDown_4 ?_
      refine ev_aload_n0 dX0_keptIfDown_5 ?_
      refine gfX0_49 rfl (hW 0 rfl) dX0_keptIfDown_6 ?_
      rw [hn]
      first | refine ev_icmp_geN 39 (by omega) (by omega) (by decide) dX0_keptIfDown_9 (fun h9 => by exfalso; omega) (fun h9 => ?_) | refine ev_icmp_ge 39 (by decide) dX0_keptIfDown_9 (fun h9 => by exfalso; omega) (fun h9 => ?_)
      refine ev_iload_n1 dX0_keptIfDown_12 ?_
      refine ev_iload_n3 dX0_keptIfDown_13 ?_
      refine ev_ishr dX0_keptIfDown_14 ?_
      refine ev_c1 dX0_keptIfDown_15 ?_
      rw [nI_lit1]
      refine ev_iand dX0_keptIfDown_16 ?_
      rw [x_bit _ p (by omega)]
      first | refine ev_if_neB 33 (by decide) dX0_keptIfDown_17 (fun h17 => ?_) (fun h17 => ?_)
      · refine ev_iinc3 dX0_keptIfDown_33 ?_
        refine ev_goto 4 (by decide) dX0_keptIfDown_36 ?_
        rw [h17] at hs
        simp only [cond_true, cond_false, or_zero] at hs
        rw [← hs]
        exact ih (p + 1) (by omega)
      · refine ev_iload_n2 dX0_keptIfDown_20 ?_
        refine ev_iload_n3 dX0_keptIfDown_21 ?_
        refine ev_cS1f okX0_codesOf lkX0_71 (Nat.le_of_ble_eq_true rfl) (Nat.le_of_ble_eq_true rfl) c_X0_codesOf dX0_keptIfDown_22 ?_
        refine ev_aload_n0 dX0_keptIfDown_25 ?_
        refine ev_iload_n3 dX0_keptIfDown_26 ?_
        refine ev_cV1f okX0_heldBy lkX0_104 (Nat.le_of_ble_eq_true rfl) (Nat.le_of_ble_eq_true rfl) (hW 0 rfl) isO_0 (c_X0_heldBy hW (by omega)) dX0_keptIfDown_27 ?_
        refine ev_ior dX0_keptIfDown_30 ?_
        refine ev_ior dX0_keptIfDown_31 ?_
        refine ev_istore_n2 dX0_keptIfDown_32 ?_
        refine ev_iinc3 dX0_keptIfDown_33 ?_
        refine ev_goto 4 (by decide) dX0_keptIfDown_36 ?_
        rw [h17] at hs
        simp only [cond_true, cond_false, or_zero] at hs
        rw [← hs]
        exact ih (p + 1) (by omega)
  refine ev_c0 dX0_keptIfDown_0 ?_
  rw [nI_0]
  refine ev_istore_n2 dX0_keptIfDown_1 ?_
  refine ev_c0 dX0_keptIfDown_2 ?_
  refine ev_istore_n3 dX0_keptIfDown_3 ?_
  exact loop n 0 (by omega)
theorem c_X0_lostBut {ks : List Nat} (hW : InW ks) {S : St} {n : Nat} {rr : Nat → Nat} {x : Int32} (hn : S 0 0 = nI n) (h4 : n ≤ 4) (hr : ∀ q, q < n → S 1 q = nI (rr q)) (hle : pcn x ≤ fb_sm rr n) : Cn ks mX0_lostBut yX0_lostBut [.inr 0, .inl x] S (Ri (nI (fb_sm rr n - pcn x)) S) := by
  refine cnV okX0_lostBut 0 rfl ?_
  show Ev ks mX0_lostBut 0 [some (.inr 0), some (.inl x)] [] S _
  refine ev_aload_n0 dX0_lostBut_0 ?_
  refine ev_cV0f okX0_allReceipts lkX0_142 (Nat.le_of_ble_eq_true rfl) (Nat.le_of_ble_eq_true rfl) (hW 0 rfl) isO_0 (c_X0_allReceipts hW hn h4 hr) dX0_lostBut_1 ?_
  refine ev_iload_n1 dX0_lostBut_4 ?_
  refine ev_cS1f okJ6_bitCount_0f7a4 lkX0_75 (Nat.le_of_ble_eq_true rfl) (Nat.le_of_ble_eq_true rfl) c_J6_bitCount_0f7a4 dX0_lostBut_5 ?_
  first | refine ev_isubN (by omega) dX0_lostBut_8 ?_ | refine ev_isub dX0_lostBut_8 ?_
  refine ev_ireturn rfl dX0_lostBut_9 ?_
  exact ⟨rfl, rfl⟩
theorem c_X0_orphansBut {ks : List Nat} (hW : InW ks) {S : St} {n : Nat} {rr : Nat → Nat} {x d : Int32} (hn : S 0 0 = nI n) (h4 : n ≤ 4) (hr : ∀ q, q < n → S 1 q = nI (rr q) ∧ rr q ≤ 8) : Cn ks mX0_orphansBut yX0_orphansBut [.inr 0, .inl x, .inl d] S (Ri (nI (fb_ct (fun q => !bt d q && decide (pcn (x &&& (nI 255 <<< (nI (q * 8) &&& 31))) < rr q)) n)) S) := by
  refine cnV okX0_orphansBut 2 rfl ?_
  show Ev ks mX0_orphansBut 0 [some (.inr 0), some (.inl x), some (.inl d), none, none] [] S _
  have loop : ∀ f k, k + f = n → Ev ks mX0_orphansBut 5 [some (.inr 0), some (.inl x), some (.inl d), some (.inl (nI (fb_ct (fun q => !bt d q && decide (pcn (x &&& (nI 255 <<< (nI (q * 8) &&& 31))) < rr q)) k))), some (.inl (nI k))] [] S (Ri (nI (fb_ct (fun q => !bt d q && decide (pcn (x &&& (nI 255 <<< (nI (q * 8) &&& 31))) < rr q)) n)) S) := by
    intro f
    induction f with
    | zero =>
      intro k hk
      refine ev_iload4 dX0_orphansBut_5 ?_
      refine ev_aload_n0 dX0_orphansBut_7 ?_
      refine gfX0_49 rfl (hW 0 rfl) dX0_orphansBut_8 ?_
      rw [hn]
      first | refine ev_icmp_geN 48 (by omega) (by omega) (by decide) dX0_orphansBut_11 (fun h11 => ?_) (fun h11 => by exfalso; omega) | refine ev_icmp_ge 48 (by decide) dX0_orphansBut_11 (fun h11 => ?_) (fun h11 => by exfalso; omega)
      refine ev_iload_n3 dX0_orphansBut_48 ?_
      refine ev_ireturn rfl dX0_orphansBut_49 ?_
      obtain rfl : k = n := by omega
      exact ⟨rfl, rfl⟩
    | succ f ih =>
      intro k hk
      have hr2 := hr k (by omega)
      have hle := pcn_le (x &&& (nI 255 <<< (nI (k * 8) &&& 31)))
      have hs := fb_ct_succ (fun q => !bt d q && decide (pcn (x &&& (nI 255 <<< (nI (q * 8) &&& 31))) < rr q)) k
      refine ev_iload4 dX0_orphansBut_5 ?_
      refine ev_aload_n0 dX0_orphansBut_7 ?_
      refine gfX0_49 rfl (hW 0 rfl) dX0_orphansBut_8 ?_
      rw [hn]
      first | refine ev_icmp_geN 48 (by omega) (by omega) (by decide) dX0_orphansBut_11 (fun h11 => by exfalso; omega) (fun h11 => ?_) | refine ev_icmp_ge 48 (by decide) dX0_orphansBut_11 (fun h11 => by exfalso; omega) (fun h11 => ?_)
      refine ev_iload_n2 dX0_orphansBut_14 ?_
      refine ev_iload4 dX0_orphansBut_15 ?_
      refine ev_ishr dX0_orphansBut_17 ?_
      refine ev_c1 dX0_orphansBut_18 ?_
      rw [nI_lit1]
      refine ev_iand dX0_orphansBut_19 ?_
      rw [x_bit _ k (by omega)]
      first | refine ev_if_neB 42 (by decide) dX0_orphansBut_20 (fun h20 => ?_) (fun h20 => ?_)
      · refine ev_iinc4 dX0_orphansBut_42 ?_
        refine ev_goto 5 (by decide) dX0_orphansBut_45 ?_
        first | rw [h20] at hs | skip
        first | rw [decide_eq_true h36] at hs | rw [decide_eq_false (Nat.not_lt.mpr h36)] at hs | skip
        simp only [Bool.not_true, Bool.not_false, Bool.false_and, Bool.true_and, if_true, Bool.false_eq_true, if_false, Nat.add_zero] at hs
        rw [← hs]
        exact ih (k + 1) (by omega)
      · refine ev_iload_n1 dX0_orphansBut_23 ?_
        refine ev_iload4 dX0_orphansBut_24 ?_
        refine ev_cS2f okX0_receiptsIn lkX0_146 (Nat.le_of_ble_eq_true rfl) (Nat.le_of_ble_eq_true rfl) c_X0_receiptsIn dX0_orphansBut_26 ?_
        refine ev_aload_n0 dX0_orphansBut_29 ?_
        refine gfX0_9 rfl (hW 0 rfl) dX0_orphansBut_30 ?_
        refine ev_iload4 dX0_orphansBut_33 ?_
        refine ev_iald 4 rfl rfl (hW 1 rfl) (by omega) dX0_orphansBut_35 ?_
        rw [hr2.1]
        first | refine ev_icmp_geN 42 (by omega) (by omega) (by decide) dX0_orphansBut_36 (fun h36 => ?_) (fun h36 => ?_) | refine ev_icmp_ge 42 (by decide) dX0_orphansBut_36 (fun h36 => ?_) (fun h36 => ?_)
        · refine ev_iinc4 dX0_orphansBut_42 ?_
          refine ev_goto 5 (by decide) dX0_orphansBut_45 ?_
          first | rw [h20] at hs | skip
          first | rw [decide_eq_true h36] at hs | rw [decide_eq_false (Nat.not_lt.mpr h36)] at hs | skip
          simp only [Bool.not_true, Bool.not_false, Bool.false_and, Bool.true_and, if_true, Bool.false_eq_true, if_false, Nat.add_zero] at hs
          rw [← hs]
          exact ih (k + 1) (by omega)
        · refine ev_iinc3 dX0_orphansBut_39 ?_
          refine ev_iinc4 dX0_orphansBut_42 ?_
          refine ev_goto 5 (by decide) dX0_orphansBut_45 ?_
          first | rw [h20] at hs | skip
          first | rw [decide_eq_true h36] at hs | rw [decide_eq_false (Nat.not_lt.mpr h36)] at hs | skip
          simp only [Bool.not_true, Bool.not_false, Bool.false_and, Bool.true_and, if_true, Bool.false_eq_true, if_false, Nat.add_zero] at hs
          rw [← hs]
          exact ih (k + 1) (by omega)
  refine ev_c0 dX0_orphansBut_0 ?_
  refine ev_istore_n3 dX0_orphansBut_1 ?_
  refine ev_c0 dX0_orphansBut_2 ?_
  refine ev_istore4 dX0_orphansBut_3 ?_
  exact loop n 0 (by omega)
end
section
theorem ct_lt {p q : Nat → Bool} : ∀ {n : Nat}, (∀ k, k < n → p k = true → q k = true) → (∃ i, i < n ∧ q i = true ∧ p i = false) → fb_ct p n < fb_ct q n
  | 0, _, h => by obtain ⟨i, h, -⟩ := h; omega
  | n + 1, h, ⟨i, h1, h2, h3⟩ => by
    rw [fb_ct_succ, fb_ct_succ]
    have hs := fb_ct_sub (p := p) (q := q) (n := n) (fun k hk => h k (by omega))
    by_cases e : i = n
    · subst e
      rw [h2, h3]
      simp
      omega
    · have := ct_lt (p := p) (q := q) (n := n) (fun k hk => h k (by omega)) ⟨i, by omega, h2, h3⟩
      have hn := h n (by omega)
      cases hp : p n
      · simp; omega
      · rw [hn hp]; simp; omega
theorem pcn_lt {a b : Int32} (h : ∀ i, bt a i = true → bt b i = true) (hne : a ≠ b) : pcn a < pcn b := by
  refine ct_lt (fun k _ => h k) ?_
  refine Classical.byContradiction fun hc => hne (b_ext fun i hi => ?_)
  cases hb : bt b i with
  | false =>
    cases ha : bt a i with
    | false => rfl
    | true => rw [h i ha] at hb; cases hb
  | true =>
    cases ha : bt a i with
    | true => rfl
    | false => exact absurd ⟨i, hi, hb, ha⟩ hc
theorem pcn_sub {a b : Int32} (h : ∀ i, bt a i = true → bt b i = true) : pcn a ≤ pcn b := fb_ct_sub fun k _ => h k
/-- what a receipt's letter was born by, in the reference's row -/
def BH (m : Nat → Int32) (n : Nat) (rr : Nat → Nat) (bir : Nat → Nat → Int32) : Prop := ∀ q r, q < n → r < rr q → (∃ x k, x < 5 ∧ k < 8 ∧ m (7 + 24 * q + 3 * r + 0) = nI x ∧ m (7 + 24 * q + 3 * r + 1) = nI k ∧ m (143 + 7 * (8 * (4 * x + q) + k) + 1) = bir q r) ∧ (bir q r = -9 ∨ ∃ b, b < 32 ∧ bir q r = nI b)
theorem c_X2_birthOf2 {ks : List Nat} (hM : InM ks) {S : St} {n : Nat} {rr : Nat → Nat} {bir : Nat → Nat → Int32} (hB : BH (S 104) n rr bir) (h4 : n ≤ 4) (h8 : ∀ q, q < n → rr q ≤ 8) {q r : Nat} (hq : q < n) (hr : r < rr q) : Cn ks mX2_birthOf yX2_birthOf [.inr 103, .inl (nI q), .inl (nI r)] S (Ri (bir q r) S) := by
  obtain ⟨⟨x, k, hx, hk, e1, e2, e3⟩, -⟩ := hB q r hq hr
  have := h8 q hq
  rw [← e3]
  exact c_X2_birthOf hM (by omega) (by omega) e1 e2 hx hk
def Clo (n : Nat) (rr : Nat → Nat) (bir : Nat → Nat → Int32) (C : Nat → Prop) : Prop := ∀ q r, q < n → r < rr q → C (8 * q + r) → (0 < r → C (8 * q + r - 1)) ∧ ∀ b, b < 32 → bir q r = nI b → C b
/-- the least closed set with a code in it -/
def Lfp (n : Nat) (rr : Nat → Nat) (bir : Nat → Nat → Int32) (c : Nat) (x : Int32) : Prop := bt x c = true ∧ Clo n rr bir (fun d => bt x d = true) ∧ ∀ C : Nat → Prop, C c → Clo n rr bir C → ∀ d, bt x d = true → C d
theorem b_onen (k : Nat) (hk : k < 32) (i : Nat) : bt (nI 1 <<< (nI k &&& 31)) i = decide (i = k) := by rw [nI_lit1]; exact b_one k hk i
set_option maxHeartbeats 1000000 in
theorem c_X2_pastOf {ks : List Nat} (hM : InM ks) {S : St} {n q0 r0 : Nat} {rr : Nat → Nat} {bir : Nat → Nat → Int32} {y : Int32} (hn : S 104 0 = nI n) (h4 : n ≤ 4) (hr : ∀ q, q < n → S 104 (3 + q) = nI (rr q) ∧ rr q ≤ 8) (hB : BH (S 104) n rr bir) (hq0 : q0 < n) (hr0 : r0 < rr q0) (hy : Lfp n rr bir (8 * q0 + r0) y) : Cn ks mX2_pastOf yX2_pastOf [.inr 103, .inl (nI q0), .inl (nI r0)] S (Ri y S) := by
  refine cnV okX2_pastOf 5 rfl ?_
  show Ev ks mX2_pastOf 0 [some (.inr 103), some (.inl (nI q0)), some (.inl (nI r0)), none, none, none, none, none] [] S _
  have h8 : ∀ q, q < n → rr q ≤ 8 := fun q hq => (hr q hq).2
  obtain ⟨hy1, hy2, hy3⟩ := hy
  have h80 := h8 q0 hq0
  have hexit : ∀ s v5 v6 v7, bt s (8 * q0 + r0) = true → (∀ d, bt s d = true → bt y d = true) → Clo n rr bir (fun d => bt s d = true) → Ev ks mX2_pastOf 12 [some (.inr 103), some (.inl (nI q0)), some (.inl (nI r0)), some (.inl s), some (.inl s), v5, v6, v7] [] S (Ri y S) := by
    intro s v5 v6 v7 s1 s2 s3
    refine ev_iload4 dX2_pastOf_12 ?_
    refine ev_iload_n3 dX2_pastOf_14 ?_
    first | refine ev_icmp_eq 129 (by decide) dX2_pastOf_15 (fun h15 => ?_) (fun h15 => by exact absurd rfl h15)
    refine ev_iload_n3 dX2_pastOf_129 ?_
    refine ev_ireturn rfl dX2_pastOf_130 ?_
    refine ⟨congrArg some (b_ext fun i hi => ?_), rfl⟩
    cases hb : bt s i with
    | true => exact (s2 i hb).symm
    | false =>
      cases hy : bt y i with
      | false => rfl
      | true => rw [hy3 _ s1 s3 i hy] at hb; cases hb
  -- a pass: from was on
  have pass : ∀ (was : Int32) (N : Nat), (∀ s v5 v6 v7, (∀ i, bt was i = true → bt s i = true) → (∀ i, bt s i = true → bt y i = true) → (∀ q' r', q' < n → r' < rr q' → bt was (8 * q' + r') = true → (0 < r' → bt s (8 * q' + r' - 1) = true) ∧ ∀ b, b < 32 → bir q' r' = nI b → bt s b = true) → Ev ks mX2_pastOf 12 [some (.inr 103), some (.inl (nI q0)), some (.inl (nI r0)), some (.inl s), some (.inl was), v5, v6, v7] [] S (Ri y S)) →
      ∀ f q s v6 v7, q + f = n → (∀ i, bt was i = true → bt s i = true) → (∀ i, bt s i = true → bt y i = true) → (∀ q' r', q' < n → r' < rr q' → q' < q → bt was (8 * q' + r') = true → (0 < r' → bt s (8 * q' + r' - 1) = true) ∧ ∀ b, b < 32 → bir q' r' = nI b → bt s b = true) → Ev ks mX2_pastOf 24 [some (.inr 103), some (.inl (nI q0)), some (.inl (nI r0)), some (.inl s), some (.inl was), some (.inl (nI q)), v6, v7] [] S (Ri y S) := by
    intro was N hnext f
    induction f with
    | zero =>
      intro q s v6 v7 hq s1 s2 s3
      refine ev_iload5 dX2_pastOf_24 ?_
      refine ev_aload_n0 dX2_pastOf_26 ?_
      refine ev_cV0f okX2_many lkX2_82 (Nat.le_of_ble_eq_true rfl) (Nat.le_of_ble_eq_true rfl) (hM 103 rfl) isO_103 (c_X2_many hM hn) dX2_pastOf_27 ?_
      first | refine ev_icmp_geN 126 (by omega) (by omega) (by decide) dX2_pastOf_30 (fun h30 => ?_) (fun h30 => by exfalso; omega) | refine ev_icmp_ge 126 (by decide) dX2_pastOf_30 (fun h30 => ?_) (fun h30 => by exfalso; omega)
      refine ev_goto 12 (by decide) dX2_pastOf_126 ?_
      exact hnext s _ _ _ s1 s2 (fun q' r' h1 h2 => s3 q' r' h1 h2 (by omega))
    | succ f ih =>
      intro q s v6 v7 hq s1 s2 s3
      have hr2 := hr q (by omega)
      have inner : ∀ z r s v7, r + z = rr q → (∀ i, bt was i = true → bt s i = true) → (∀ i, bt s i = true → bt y i = true) → (∀ q' r', q' < n → r' < rr q' → (q' < q ∨ (q' = q ∧ r' < r)) → bt was (8 * q' + r') = true → (0 < r' → bt s (8 * q' + r' - 1) = true) ∧ ∀ b, b < 32 → bir q' r' = nI b → bt s b = true) → Ev ks mX2_pastOf 36 [some (.inr 103), some (.inl (nI q0)), some (.inl (nI r0)), some (.inl s), some (.inl was), some (.inl (nI q)), some (.inl (nI r)), v7] [] S (Ri y S) := by
        intro z
        induction z with
        | zero =>
          intro r s v7 hz s1 s2 s3
          refine ev_iload6 dX2_pastOf_36 ?_
          refine ev_aload_n0 dX2_pastOf_38 ?_
          refine ev_iload5 dX2_pastOf_39 ?_
          refine ev_cV1f okX2_receipts lkX2_47 (Nat.le_of_ble_eq_true rfl) (Nat.le_of_ble_eq_true rfl) (hM 103 rfl) isO_103 (c_X2_receipts hM (by omega)) dX2_pastOf_41 ?_
          rw [hr2.1]
          first | refine ev_icmp_geN 120 (by omega) (by omega) (by decide) dX2_pastOf_44 (fun h44 => ?_) (fun h44 => by exfalso; omega) | refine ev_icmp_ge 120 (by decide) dX2_pastOf_44 (fun h44 => ?_) (fun h44 => by exfalso; omega)
          refine ev_iinc5 dX2_pastOf_120 ?_
          refine ev_goto 24 (by decide) dX2_pastOf_123 ?_
          refine ih (q + 1) s _ _ (by omega) s1 s2 (fun q' r' h1 h2 h3 => s3 q' r' h1 h2 ?_)
          by_cases e : q' = q
          · subst e; exact Or.inr ⟨rfl, by omega⟩
          · exact Or.inl (by omega)
        | succ z ih2 =>
          intro r s v7 hz s1 s2 s3
          have hbq := hB q r (by omega) (by omega)
          by_cases hbit : bt s (8 * q + r) = true
          · -- its birth, and the one ahead
            have cy := hy2 q r (by omega) (by omega) (s2 _ hbit)
            have fin : ∀ s' v7, (∀ i, bt s' i = true ↔ bt s i = true ∨ (∃ b, b < 32 ∧ bir q r = nI b ∧ i = b) ∨ (0 < r ∧ i = 8 * q + r - 1)) → Ev ks mX2_pastOf 36 [some (.inr 103), some (.inl (nI q0)), some (.inl (nI r0)), some (.inl s'), some (.inl was), some (.inl (nI q)), some (.inl (nI (r + 1))), v7] [] S (Ri y S) := by
              intro s' v7 hs'
              refine ih2 (r + 1) s' v7 (by omega) (fun i h => (hs' i).mpr (Or.inl (s1 i h))) (fun i h => ?_) (fun q' r' h1 h2 h3 h5 => ?_)
              · rcases (hs' i).mp h with h | ⟨b, hb, e1, rfl⟩ | ⟨hr', rfl⟩
                · exact s2 i h
                · exact cy.2 i hb e1
                · exact cy.1 hr'
              · by_cases e : q' = q ∧ r' = r
                · obtain ⟨rfl, rfl⟩ := e
                  exact ⟨fun h => (hs' _).mpr (Or.inr (Or.inr ⟨h, rfl⟩)), fun b hb e1 => (hs' _).mpr (Or.inr (Or.inl ⟨b, hb, e1, rfl⟩))⟩
                · have := s3 q' r' h1 h2 (by omega) h5
                  exact ⟨fun h => (hs' _).mpr (Or.inl (this.1 h)), fun b hb e1 => (hs' _).mpr (Or.inl (this.2 b hb e1))⟩
            rcases hbq.2 with hbn | ⟨b, hb, hbv⟩
            · have nb : ¬ ∃ b, b < 32 ∧ bir q r = nI b := fun ⟨b, hb, e⟩ => nI_neg (c := b) (by omega) m9_neg (e.symm.trans hbn)
              refine ev_iload6 dX2_pastOf_36 ?_
              refine ev_aload_n0 dX2_pastOf_38 ?_
              refine ev_iload5 dX2_pastOf_39 ?_
              refine ev_cV1f okX2_receipts lkX2_47 (Nat.le_of_ble_eq_true rfl) (Nat.le_of_ble_eq_true rfl) (hM 103 rfl) isO_103 (c_X2_receipts hM (by omega)) dX2_pastOf_41 ?_
              rw [hr2.1]
              first | refine ev_icmp_geN 120 (by omega) (by omega) (by decide) dX2_pastOf_44 (fun h44 => by exfalso; omega) (fun h44 => ?_) | refine ev_icmp_ge 120 (by decide) dX2_pastOf_44 (fun h44 => by exfalso; omega) (fun h44 => ?_)
              refine ev_iload_n3 dX2_pastOf_47 ?_
              refine ev_bipush (nI 8) kb_8 dX2_pastOf_48 ?_
              refine ev_iload5 dX2_pastOf_50 ?_
              first | refine ev_imulN dX2_pastOf_52 ?_ | refine ev_imul dX2_pastOf_52 ?_
              refine ev_iload6 dX2_pastOf_53 ?_
              first | refine ev_iaddN dX2_pastOf_55 ?_ | refine ev_iadd dX2_pastOf_55 ?_
              refine ev_cS2f okX2_has lkX2_39 (Nat.le_of_ble_eq_true rfl) (Nat.le_of_ble_eq_true rfl) (c_X2_has (by omega)) dX2_pastOf_56 ?_
              first | refine ev_if_eqB 114 (by decide) dX2_pastOf_59 (fun h59 => by rw [hbit] at h59; cases h59) (fun h59 => ?_)
              refine ev_aload_n0 dX2_pastOf_62 ?_
              refine ev_iload5 dX2_pastOf_63 ?_
              refine ev_iload6 dX2_pastOf_65 ?_
              refine ev_cV2f okX2_birthOf lkX2_118 (Nat.le_of_ble_eq_true rfl) (Nat.le_of_ble_eq_true rfl) (hM 103 rfl) isO_103 (c_X2_birthOf2 hM hB h4 h8 (by omega) (by omega)) dX2_pastOf_67 ?_
              rw [hbn]
              refine ev_istore7 dX2_pastOf_70 ?_
              refine ev_iload_n3 dX2_pastOf_72 ?_
              refine ev_iload7 dX2_pastOf_73 ?_
              refine ev_bipush (-9 : Int32) kb_m9 dX2_pastOf_75 ?_
              first | refine ev_icmp_ne 84 (by decide) dX2_pastOf_77 (fun h77 => by exact absurd rfl h77) (fun h77 => ?_)
              refine ev_c0 dX2_pastOf_80 ?_
              refine ev_goto 88 (by decide) dX2_pastOf_81 ?_
              refine ev_ior dX2_pastOf_88 ?_
              refine ev_istore_n3 dX2_pastOf_89 ?_
              refine ev_iload_n3 dX2_pastOf_90 ?_
              refine ev_iload6 dX2_pastOf_91 ?_
              first | refine ev_if_neN 100 (by omega) (by decide) dX2_pastOf_93 (fun h93 => ?_) (fun h93 => ?_) | refine ev_if_ne 100 (by decide) dX2_pastOf_93 (fun h93 => ?_) (fun h93 => ?_)
              · refine ev_c1 dX2_pastOf_100 ?_
                refine ev_bipush (nI 8) kb_8 dX2_pastOf_101 ?_
                refine ev_iload5 dX2_pastOf_103 ?_
                first | refine ev_imulN dX2_pastOf_105 ?_ | refine ev_imul dX2_pastOf_105 ?_
                refine ev_iload6 dX2_pastOf_106 ?_
                first | refine ev_iaddN dX2_pastOf_108 ?_ | refine ev_iadd dX2_pastOf_108 ?_
                refine ev_c1 dX2_pastOf_109 ?_
                first | refine ev_isubN (by omega) dX2_pastOf_110 ?_ | refine ev_isub dX2_pastOf_110 ?_
                refine ev_ishl dX2_pastOf_111 ?_
                refine ev_ior dX2_pastOf_112 ?_
                refine ev_istore_n3 dX2_pastOf_113 ?_
                refine ev_iinc6 dX2_pastOf_114 ?_
                refine ev_goto 36 (by decide) dX2_pastOf_117 ?_
                refine fin _ _ (fun i => ?_)
                simp only [b_or, Bool.or_eq_true, nI_0, b_0, Bool.false_eq_true, or_false]
                constructor
                · intro h
                  first | exact Or.inl h | (rcases h with h | h; exact Or.inl h; rw [b_onen _ (by omega)] at h; exact Or.inr (Or.inr ⟨h93, of_decide_eq_true h⟩))
                · rintro (h | ⟨b, hb, e1, -⟩ | ⟨h1, h2⟩)
                  · first | exact h | exact Or.inl h
                  · exact absurd ⟨b, hb, e1⟩ nb
                  · first | (exfalso; omega) | (refine Or.inr ?_; rw [b_onen _ (by omega)]; exact decide_eq_true h2)
              · refine ev_c0 dX2_pastOf_96 ?_
                refine ev_goto 112 (by decide) dX2_pastOf_97 ?_
                refine ev_ior dX2_pastOf_112 ?_
                refine ev_istore_n3 dX2_pastOf_113 ?_
                refine ev_iinc6 dX2_pastOf_114 ?_
                refine ev_goto 36 (by decide) dX2_pastOf_117 ?_
                refine fin _ _ (fun i => ?_)
                simp only [b_or, Bool.or_eq_true, nI_0, b_0, Bool.false_eq_true, or_false]
                constructor
                · intro h
                  first | exact Or.inl h | (rcases h with h | h; exact Or.inl h; rw [b_onen _ (by omega)] at h; exact Or.inr (Or.inr ⟨h93, of_decide_eq_true h⟩))
                · rintro (h | ⟨b, hb, e1, -⟩ | ⟨h1, h2⟩)
                  · first | exact h | exact Or.inl h
                  · exact absurd ⟨b, hb, e1⟩ nb
                  · first | (exfalso; omega) | (refine Or.inr ?_; rw [b_onen _ (by omega)]; exact decide_eq_true h2)
            · have ub : ∀ b', b' < 32 → bir q r = nI b' → b' = b := fun b' hb' e => (nI_eq (by omega) (by omega)).mp (e.symm.trans hbv)
              refine ev_iload6 dX2_pastOf_36 ?_
              refine ev_aload_n0 dX2_pastOf_38 ?_
              refine ev_iload5 dX2_pastOf_39 ?_
              refine ev_cV1f okX2_receipts lkX2_47 (Nat.le_of_ble_eq_true rfl) (Nat.le_of_ble_eq_true rfl) (hM 103 rfl) isO_103 (c_X2_receipts hM (by omega)) dX2_pastOf_41 ?_
              rw [hr2.1]
              first | refine ev_icmp_geN 120 (by omega) (by omega) (by decide) dX2_pastOf_44 (fun h44 => by exfalso; omega) (fun h44 => ?_) | refine ev_icmp_ge 120 (by decide) dX2_pastOf_44 (fun h44 => by exfalso; omega) (fun h44 => ?_)
              refine ev_iload_n3 dX2_pastOf_47 ?_
              refine ev_bipush (nI 8) kb_8 dX2_pastOf_48 ?_
              refine ev_iload5 dX2_pastOf_50 ?_
              first | refine ev_imulN dX2_pastOf_52 ?_ | refine ev_imul dX2_pastOf_52 ?_
              refine ev_iload6 dX2_pastOf_53 ?_
              first | refine ev_iaddN dX2_pastOf_55 ?_ | refine ev_iadd dX2_pastOf_55 ?_
              refine ev_cS2f okX2_has lkX2_39 (Nat.le_of_ble_eq_true rfl) (Nat.le_of_ble_eq_true rfl) (c_X2_has (by omega)) dX2_pastOf_56 ?_
              first | refine ev_if_eqB 114 (by decide) dX2_pastOf_59 (fun h59 => by rw [hbit] at h59; cases h59) (fun h59 => ?_)
              refine ev_aload_n0 dX2_pastOf_62 ?_
              refine ev_iload5 dX2_pastOf_63 ?_
              refine ev_iload6 dX2_pastOf_65 ?_
              refine ev_cV2f okX2_birthOf lkX2_118 (Nat.le_of_ble_eq_true rfl) (Nat.le_of_ble_eq_true rfl) (hM 103 rfl) isO_103 (c_X2_birthOf2 hM hB h4 h8 (by omega) (by omega)) dX2_pastOf_67 ?_
              rw [hbv]
              refine ev_istore7 dX2_pastOf_70 ?_
              refine ev_iload_n3 dX2_pastOf_72 ?_
              refine ev_iload7 dX2_pastOf_73 ?_
              refine ev_bipush (-9 : Int32) kb_m9 dX2_pastOf_75 ?_
              first | refine ev_icmp_ne 84 (by decide) dX2_pastOf_77 (fun h77 => ?_) (fun h77 => by exact absurd h77 (nI_neg (by omega) m9_neg))
              refine ev_c1 dX2_pastOf_84 ?_
              refine ev_iload7 dX2_pastOf_85 ?_
              refine ev_ishl dX2_pastOf_87 ?_
              refine ev_ior dX2_pastOf_88 ?_
              refine ev_istore_n3 dX2_pastOf_89 ?_
              refine ev_iload_n3 dX2_pastOf_90 ?_
              refine ev_iload6 dX2_pastOf_91 ?_
              first | refine ev_if_neN 100 (by omega) (by decide) dX2_pastOf_93 (fun h93 => ?_) (fun h93 => ?_) | refine ev_if_ne 100 (by decide) dX2_pastOf_93 (fun h93 => ?_) (fun h93 => ?_)
              · refine ev_c1 dX2_pastOf_100 ?_
                refine ev_bipush (nI 8) kb_8 dX2_pastOf_101 ?_
                refine ev_iload5 dX2_pastOf_103 ?_
                first | refine ev_imulN dX2_pastOf_105 ?_ | refine ev_imul dX2_pastOf_105 ?_
                refine ev_iload6 dX2_pastOf_106 ?_
                first | refine ev_iaddN dX2_pastOf_108 ?_ | refine ev_iadd dX2_pastOf_108 ?_
                refine ev_c1 dX2_pastOf_109 ?_
                first | refine ev_isubN (by omega) dX2_pastOf_110 ?_ | refine ev_isub dX2_pastOf_110 ?_
                refine ev_ishl dX2_pastOf_111 ?_
                refine ev_ior dX2_pastOf_112 ?_
                refine ev_istore_n3 dX2_pastOf_113 ?_
                refine ev_iinc6 dX2_pastOf_114 ?_
                refine ev_goto 36 (by decide) dX2_pastOf_117 ?_
                refine fin _ _ (fun i => ?_)
                simp only [b_or, Bool.or_eq_true, nI_0, b_0, Bool.false_eq_true, or_false, b_onen b hb, decide_eq_true_eq]
                constructor
                · intro h
                  first | (rcases h with h | h; exact Or.inl h; exact Or.inr (Or.inl ⟨b, hb, hbv, h⟩)) | (rcases h with (h | h) | h; exact Or.inl h; exact Or.inr (Or.inl ⟨b, hb, hbv, h⟩); rw [b_onen _ (by omega)] at h; exact Or.inr (Or.inr ⟨h93, of_decide_eq_true h⟩))
                · rintro (h | ⟨b', hb', e1, e2⟩ | ⟨h1, h2⟩)
                  · first | exact Or.inl h | exact Or.inl (Or.inl h)
                  · first | exact Or.inr (e2.trans (ub b' hb' e1)) | exact Or.inl (Or.inr (e2.trans (ub b' hb' e1)))
                  · first | (exfalso; omega) | (refine Or.inr ?_; rw [b_onen _ (by omega)]; exact decide_eq_true h2)
              · refine ev_c0 dX2_pastOf_96 ?_
                refine ev_goto 112 (by decide) dX2_pastOf_97 ?_
                refine ev_ior dX2_pastOf_112 ?_
                refine ev_istore_n3 dX2_pastOf_113 ?_
                refine ev_iinc6 dX2_pastOf_114 ?_
                refine ev_goto 36 (by decide) dX2_pastOf_117 ?_
                refine fin _ _ (fun i => ?_)
                simp only [b_or, Bool.or_eq_true, nI_0, b_0, Bool.false_eq_true, or_false, b_onen b hb, decide_eq_true_eq]
                constructor
                · intro h
                  first | (rcases h with h | h; exact Or.inl h; exact Or.inr (Or.inl ⟨b, hb, hbv, h⟩)) | (rcases h with (h | h) | h; exact Or.inl h; exact Or.inr (Or.inl ⟨b, hb, hbv, h⟩); rw [b_onen _ (by omega)] at h; exact Or.inr (Or.inr ⟨h93, of_decide_eq_true h⟩))
                · rintro (h | ⟨b', hb', e1, e2⟩ | ⟨h1, h2⟩)
                  · first | exact Or.inl h | exact Or.inl (Or.inl h)
                  · first | exact Or.inr (e2.trans (ub b' hb' e1)) | exact Or.inl (Or.inr (e2.trans (ub b' hb' e1)))
                  · first | (exfalso; omega) | (refine Or.inr ?_; rw [b_onen _ (by omega)]; exact decide_eq_true h2)
          · have hbf : bt s (8 * q + r) = false := by simpa using hbit
            refine ev_iload6 dX2_pastOf_36 ?_
            refine ev_aload_n0 dX2_pastOf_38 ?_
            refine ev_iload5 dX2_pastOf_39 ?_
            refine ev_cV1f okX2_receipts lkX2_47 (Nat.le_of_ble_eq_true rfl) (Nat.le_of_ble_eq_true rfl) (hM 103 rfl) isO_103 (c_X2_receipts hM (by omega)) dX2_pastOf_41 ?_
            rw [hr2.1]
            first | refine ev_icmp_geN 120 (by omega) (by omega) (by decide) dX2_pastOf_44 (fun h44 => by exfalso; omega) (fun h44 => ?_) | refine ev_icmp_ge 120 (by decide) dX2_pastOf_44 (fun h44 => by exfalso; omega) (fun h44 => ?_)
            refine ev_iload_n3 dX2_pastOf_47 ?_
            refine ev_bipush (nI 8) kb_8 dX2_pastOf_48 ?_
            refine ev_iload5 dX2_pastOf_50 ?_
            first | refine ev_imulN dX2_pastOf_52 ?_ | refine ev_imul dX2_pastOf_52 ?_
            refine ev_iload6 dX2_pastOf_53 ?_
            first | refine ev_iaddN dX2_pastOf_55 ?_ | refine ev_iadd dX2_pastOf_55 ?_
            refine ev_cS2f okX2_has lkX2_39 (Nat.le_of_ble_eq_true rfl) (Nat.le_of_ble_eq_true rfl) (c_X2_has (by omega)) dX2_pastOf_56 ?_
            first | refine ev_if_eqB 114 (by decide) dX2_pastOf_59 (fun h59 => ?_) (fun h59 => by rw [hbf] at h59; cases h59)
            refine ev_iinc6 dX2_pastOf_114 ?_
            refine ev_goto 36 (by decide) dX2_pastOf_117 ?_
            refine ih2 (r + 1) s _ (by omega) s1 s2 (fun q' r' h1 h2 h3 h5 => ?_)
            by_cases e : q' = q ∧ r' = r
            · obtain ⟨rfl, rfl⟩ := e
              exact absurd (s1 _ h5) hbit
            · exact s3 q' r' h1 h2 (by omega) h5
      refine ev_iload5 dX2_pastOf_24 ?_
      refine ev_aload_n0 dX2_pastOf_26 ?_
      refine ev_cV0f okX2_many lkX2_82 (Nat.le_of_ble_eq_true rfl) (Nat.le_of_ble_eq_true rfl) (hM 103 rfl) isO_103 (c_X2_many hM hn) dX2_pastOf_27 ?_
      first | refine ev_icmp_geN 126 (by omega) (by omega) (by decide) dX2_pastOf_30 (fun h30 => by exfalso; omega) (fun h30 => ?_) | refine ev_icmp_ge 126 (by decide) dX2_pastOf_30 (fun h30 => by exfalso; omega) (fun h30 => ?_)
      refine ev_c0 dX2_pastOf_33 ?_
      refine ev_istore6 dX2_pastOf_34 ?_
      exact inner (rr q) 0 s _ (by omega) s1 s2 (fun q' r' h1 h2 h3 => s3 q' r' h1 h2 (by omega))
  have main : ∀ N s was v5 v6 v7, pcn y - pcn s < N → ¬ was = s → bt s (8 * q0 + r0) = true → (∀ d, bt s d = true → bt y d = true) → Ev ks mX2_pastOf 12 [some (.inr 103), some (.inl (nI q0)), some (.inl (nI r0)), some (.inl s), some (.inl was), v5, v6, v7] [] S (Ri y S) := by
    intro N
    induction N with
    | zero => intro s was v5 v6 v7 h; omega
    | succ N ih =>
      intro s was v5 v6 v7 hN hne s1 s2
      refine ev_iload4 dX2_pastOf_12 ?_
      refine ev_iload_n3 dX2_pastOf_14 ?_
      first | refine ev_icmp_eq 129 (by decide) dX2_pastOf_15 (fun h15 => by exact absurd h15 hne) (fun h15 => ?_)
      refine ev_iload_n3 dX2_pastOf_18 ?_
      refine ev_istore4 dX2_pastOf_19 ?_
      refine ev_c0 dX2_pastOf_21 ?_
      refine ev_istore5 dX2_pastOf_22 ?_
      refine pass s N (fun s' v5 v6 v7 t1 t2 t3 => ?_) n 0 s _ _ (by omega) (fun _ h => h) s2 (fun q' r' _ _ h => by omega)
      by_cases e : s = s'
      · subst e
        exact hexit s _ _ _ s1 s2 (fun q' r' h1 h2 h3 => t3 q' r' h1 h2 h3)
      · have hlt := pcn_lt t1 e
        have hle := pcn_sub t2
        exact ih s' s _ _ _ (by omega) e (t1 _ s1) t2
  refine ev_c1 dX2_pastOf_0 ?_
  refine ev_bipush (nI 8) kb_8 dX2_pastOf_1 ?_
  refine ev_iload_n1 dX2_pastOf_3 ?_
  first | refine ev_imulN dX2_pastOf_4 ?_ | refine ev_imul dX2_pastOf_4 ?_
  refine ev_iload_n2 dX2_pastOf_5 ?_
  first | refine ev_iaddN dX2_pastOf_6 ?_ | refine ev_iadd dX2_pastOf_6 ?_
  refine ev_ishl dX2_pastOf_7 ?_
  refine ev_istore_n3 dX2_pastOf_8 ?_
  refine ev_c0 dX2_pastOf_9 ?_
  refine ev_istore4 dX2_pastOf_10 ?_
  refine main (pcn y + 1) _ _ _ _ _ (by omega) ?_ ?_ ?_
  · intro e
    have := congrArg (fun z => bt z (8 * q0 + r0)) e
    simp only [nI_0, b_0] at this
    rw [b_onen _ (by omega)] at this
    simp at this
  · rw [b_onen _ (by omega)]; simp
  · intro d hd
    rw [b_onen _ (by omega)] at hd
    rw [of_decide_eq_true hd]
    exact hy1

/-- whether a birth is kept -/
def kbB (K : Nat → Nat) (v : Int32) : Bool := decide (v = -9) || decide (tn v % 8 < K (tn v / 8))
theorem kbB_none (K : Nat → Nat) : kbB K (-9) = true := by unfold kbB; simp
theorem kbB_code (K : Nat → Nat) {b : Nat} (hb : b < 32) : kbB K (nI b) = decide (b % 8 < K (b / 8)) := by
  unfold kbB
  rw [decide_eq_false (nI_neg (by omega) m9_neg), tn_nI (by omega), Bool.false_or]
theorem c_X2_isKeptCode2 {ks : List Nat} (hM : InM ks) {S : St} {K : Nat → Nat} (hK : ∀ q, q < 4 → S 110 q = nI (K q) ∧ K q ≤ 8) {v : Int32} (hv : v = -9 ∨ ∃ b, b < 32 ∧ v = nI b) : Cn ks mX2_isKeptCode yX2_isKeptCode [.inr 103, .inl v] S (Ri (bI (kbB K v)) S) := by
  rcases hv with rfl | ⟨b, hb, rfl⟩
  · rw [kbB_none]
    exact c_X2_isKeptCode_none hM
  · rw [kbB_code K hb]
    have := hK (b / 8) (by omega)
    exact c_X2_isKeptCode hM hb this.1 this.2
/-- what may be kept, of each site how many -/
def Kad (n : Nat) (rr : Nat → Nat) (d held : Int32) (bir : Nat → Nat → Int32) (K : Nat → Nat) : Prop := (∀ q, q < n → K q ≤ rr q) ∧ (∀ q, n ≤ q → K q = 0) ∧ (∀ q r, q < n → r < K q → bt d q = true → bt held (8 * q + r) = true) ∧ ∀ q r, q < n → r < K q → kbB K (bir q r) = true
def Gfp (n : Nat) (rr : Nat → Nat) (d held : Int32) (bir : Nat → Nat → Int32) (K : Nat → Nat) : Prop := Kad n rr d held bir K ∧ ∀ K', Kad n rr d held bir K' → ∀ q, q < n → K' q ≤ K q
theorem kbB_mono {K K' : Nat → Nat} (h : ∀ q, K q ≤ K' q) {v : Int32} (hv : kbB K v = true) : kbB K' v = true := by
  unfold kbB at hv ⊢
  rw [Bool.or_eq_true, decide_eq_true_eq, decide_eq_true_eq] at hv ⊢
  rcases hv with hv | hv
  · exact Or.inl hv
  · exact Or.inr (Nat.lt_of_lt_of_le hv (h _))
theorem sm_lt {f g : Nat → Nat} : ∀ {n : Nat}, (∀ k, k < n → f k ≤ g k) → (∃ i, i < n ∧ f i < g i) → fb_sm f n < fb_sm g n
  | 0, _, h => by obtain ⟨i, h, -⟩ := h; omega
  | n + 1, h, ⟨i, h1, h2⟩ => by
    rw [fb_sm_succ, fb_sm_succ]
    have hs := fb_sm_le (f := f) (g := g) (n := n) (fun k hk => h k (by omega))
    have hn := h n (by omega)
    by_cases e : i = n
    · subst e; omega
    · have := sm_lt (f := f) (g := g) (n := n) (fun k hk => h k (by omega)) ⟨i, by omega, h2⟩
      omega
/-- the row of numbers kept -/
def kR (K : Nat → Nat) : Nat → Int32 := fun q => nI (K q)
theorem kR_upd (K : Nat → Nat) (q v : Nat) : upd (kR K) q (nI v) = kR (fun i => if i = q then v else K i) := by
  funext i
  unfold upd kR
  by_cases h : i = q
  · simp [h]
  · simp [h]
set_option maxHeartbeats 1000000 in
theorem c_X2_findKept {ks : List Nat} (hM : InM ks) {S : St} {n : Nat} {rr : Nat → Nat} {d : Int32} {bir : Nat → Nat → Int32} {K : Nat → Nat} (hn : S 104 0 = nI n) (h4 : n ≤ 4) (hr : ∀ q, q < n → S 104 (3 + q) = nI (rr q) ∧ rr q ≤ 8) (hB : BH (S 104) n rr bir) (hK : Gfp n rr d (orF (fun q => bif bt d q then 0 else S 104 (103 + q)) n) bir K) : Cn ks mX2_findKept yX2_findKept [.inr 103, .inl d] S (Rv (sr S 110 (kR K))) := by
  refine cnV okX2_findKept 4 rfl ?_
  show Ev ks mX2_findKept 0 [some (.inr 103), some (.inl d), none, none, none, none] [] S _
  generalize hH : orF (fun q => bif bt d q then 0 else S 104 (103 + q)) n = held at hK
  obtain ⟨⟨k1, k2, k3, k5⟩, kg⟩ := hK
  have h8 : ∀ q, q < n → rr q ≤ 8 := fun q hq => (hr q hq).2
  have n110 : ∀ (X : Nat → Int32) (j : Nat), j ≠ 110 → sr S 110 X j = S j := fun X j h => sr_n h
  -- the second part: less and less
  have exit : ∀ Kc v4 v5, (∀ q, q < n → Kc q ≤ rr q) → (∀ q, n ≤ q → Kc q = 0) → (∀ q r, q < n → r < Kc q → bt d q = true → bt held (8 * q + r) = true) → (∀ q, K q ≤ Kc q) → (∀ q r, q < n → r < Kc q → kbB Kc (bir q r) = true) → Ev ks mX2_findKept 78 [some (.inr 103), some (.inl d), some (.inl held), some (.inl (nI 0)), v4, v5] [] (sr S 110 (kR Kc)) (Rv (sr S 110 (kR K))) := by
    intro Kc v4 v5 c1 c2 c3 c4 c5
    have e : Kc = K := by
      funext q
      rcases Nat.lt_or_ge q n with h | h
      · exact Nat.le_antisymm (kg Kc ⟨c1, c2, c3, c5⟩ q h) (c4 q)
      · rw [c2 q h, k2 q h]
    subst e
    refine ev_iload_n3 dX2_findKept_78 ?_
    first | refine ev_if_eqN 172 (by omega) (by decide) dX2_findKept_79 (fun h79 => ?_) (fun h79 => by exfalso; omega)
    refine ev_return rfl dX2_findKept_172 ?_
    exact ⟨rfl, rfl⟩
  have pass : ∀ (K1 : Nat → Nat), (∀ Kc gv v4 v5, gv ≤ 1 → (∀ q, q < n → Kc q ≤ rr q) → (∀ q, n ≤ q → Kc q = 0) → (∀ q r, q < n → r < Kc q → bt d q = true → bt held (8 * q + r) = true) → (∀ q, K q ≤ Kc q) → (gv = 0 → Kc = K1 ∧ ∀ q r, q < n → r < K1 q → kbB K1 (bir q r) = true) → (0 < gv → fb_sm Kc n < fb_sm K1 n) → Ev ks mX2_findKept 78 [some (.inr 103), some (.inl d), some (.inl held), some (.inl (nI gv)), v4, v5] [] (sr S 110 (kR Kc)) (Rv (sr S 110 (kR K)))) →
      ∀ f q Kc gv v5, q + f = n → gv ≤ 1 → (∀ q, q < n → Kc q ≤ rr q) → (∀ q, n ≤ q → Kc q = 0) → (∀ q r, q < n → r < Kc q → bt d q = true → bt held (8 * q + r) = true) → (∀ q, K q ≤ Kc q) → (∀ q, Kc q ≤ K1 q) → (gv = 0 → Kc = K1 ∧ ∀ q' r, q' < q → r < K1 q' → kbB K1 (bir q' r) = true) → (0 < gv → ∃ q', q' < n ∧ Kc q' < K1 q') → Ev ks mX2_findKept 87 [some (.inr 103), some (.inl d), some (.inl held), some (.inl (nI gv)), some (.inl (nI q)), v5] [] (sr S 110 (kR Kc)) (Rv (sr S 110 (kR K))) := by
    intro K1 hnext f
    induction f with
    | zero =>
      intro q Kc gv v5 hq hg c1 c2 c3 c4 c6 c7 c8
      have hn' : sr S 110 (kR Kc) 104 0 = nI n := by rw [n110 _ _ (by decide)]; exact hn
      refine ev_iload4 dX2_findKept_87 ?_
      refine ev_aload_n0 dX2_findKept_89 ?_
      refine ev_cV0f okX2_many lkX2_82 (Nat.le_of_ble_eq_true rfl) (Nat.le_of_ble_eq_true rfl) (hM 103 rfl) isO_103 (c_X2_many hM hn') dX2_findKept_90 ?_
      first | refine ev_icmp_geN 169 (by omega) (by omega) (by decide) dX2_findKept_93 (fun h93 => ?_) (fun h93 => by exfalso; omega) | refine ev_icmp_ge 169 (by decide) dX2_findKept_93 (fun h93 => ?_) (fun h93 => by exfalso; omega)
      refine ev_goto 78 (by decide) dX2_findKept_169 ?_
      exact hnext Kc gv _ _ hg c1 c2 c3 c4 (fun h => ⟨(c7 h).1, fun q' r h1 h2 => (c7 h).2 q' r (by omega) h2⟩) (fun h => sm_lt (fun k _ => c6 k) (c8 h))
    | succ f ih =>
      intro q Kc gv v5 hq hg c1 c2 c3 c4 c6 c7 c8
      have hqn : q < n := by omega
      have hn' : sr S 110 (kR Kc) 104 0 = nI n := by rw [n110 _ _ (by decide)]; exact hn
      have hB' : BH (sr S 110 (kR Kc) 104) n rr bir := by rw [n110 _ _ (by decide)]; exact hB
      have hKc8 : ∀ i, Kc i ≤ 8 := fun i => by
        rcases Nat.lt_or_ge i n with h | h
        · exact Nat.le_trans (c1 i h) (h8 i h)
        · rw [c2 i h]; omega
      have hrow : ∀ i, sr S 110 (kR Kc) 110 i = nI (Kc i) := fun i => by rw [sr_s]; rfl
      have hKr : ∀ i, i < 4 → sr S 110 (kR Kc) 110 i = nI (Kc i) ∧ Kc i ≤ 8 := fun i _ => ⟨hrow i, hKc8 i⟩
      have hKq8 := hKc8 q
      have hq8 := h8 q hqn
      have hcq := c1 q hqn
      -- behind the inner loop: r0 of them
      have after : ∀ r0, r0 ≤ Kc q → (∀ r, r < r0 → kbB Kc (bir q r) = true) → (r0 < Kc q → kbB Kc (bir q r0) = false) → Ev ks mX2_findKept 132 [some (.inr 103), some (.inl d), some (.inl held), some (.inl (nI gv)), some (.inl (nI q)), some (.inl (nI r0))] [] (sr S 110 (kR Kc)) (Rv (sr S 110 (kR K))) := by
        intro r0 hr0 ha hb
        have hkq : K q ≤ r0 := by
          rcases Nat.lt_or_ge r0 (K q) with h | h
          · have := kbB_mono c4 (k5 q r0 hqn h)
            rw [hb (Nat.lt_of_lt_of_le h (c4 q))] at this
            cases this
          · exact h
        have go : ∀ gv', gv' ≤ 1 → (gv' = 0 ↔ gv = 0 ∧ r0 = Kc q) → Ev ks mX2_findKept 153 [some (.inr 103), some (.inl d), some (.inl held), some (.inl (nI gv)), some (.inl (nI q)), some (.inl (nI r0))] [.inl (nI gv')] (sr S 110 (kR Kc)) (Rv (sr S 110 (kR K))) := by
          intro gv' hg' he
          have hle : ∀ i, (fun i => if i = q then r0 else Kc i) i ≤ Kc i := fun i => by
            dsimp only
            by_cases h : i = q
            · rw [if_pos h, h]; exact hr0
            · rw [if_neg h]; exact Nat.le_refl _
          refine ev_istore_n3 dX2_findKept_153 ?_
          refine ev_aload_n0 dX2_findKept_154 ?_
          refine gfX2_29 rfl (hM 103 rfl) dX2_findKept_155 ?_
          refine ev_iload4 dX2_findKept_158 ?_
          refine ev_iload5 dX2_findKept_160 ?_
          refine ev_iast 4 rfl rfl (hM 110 rfl) (by omega) dX2_findKept_162 ?_
          refine ev_iinc4 dX2_findKept_163 ?_
          refine ev_goto 87 (by decide) dX2_findKept_166 ?_
          rw [st_sr, kR_upd]
          refine ih (q + 1) _ gv' _ (by omega) hg' (fun i hi => Nat.le_trans (hle i) (c1 i hi)) (fun i hi => Nat.le_zero.mp (by have := hle i; rw [c2 i hi] at this; exact this)) (fun i r hi hr2 => c3 i r hi (Nat.lt_of_lt_of_le hr2 (hle i))) (fun i => ?_) (fun i => Nat.le_trans (hle i) (c6 i)) (fun h0 => ?_) (fun h0 => ?_)
          · by_cases h : i = q
            · rw [if_pos h, h]; exact hkq
            · rw [if_neg h]; exact c4 i
          · obtain ⟨h1, h2⟩ := he.mp h0
            obtain ⟨e1, e2⟩ := c7 h1
            have e3 : (fun i => if i = q then r0 else Kc i) = Kc := by
              funext i
              by_cases h : i = q
              · rw [if_pos h, h, h2]
              · rw [if_neg h]
            refine ⟨e3.trans e1, fun q' r hq' hr2 => ?_⟩
            by_cases h : q' = q
            · subst h
              rw [← e1]
              rw [← e1] at hr2
              exact ha r (by omega)
            · exact e2 q' r (by omega) hr2
          · by_cases h1 : gv = 0
            · have h2 : ¬ r0 = Kc q := fun h => by have := he.mpr ⟨h1, h⟩; omega
              refine ⟨q, hqn, ?_⟩
              rw [if_pos rfl]
              have := c6 q
              omega
            · obtain ⟨i, hi, hlt⟩ := c8 (by omega)
              exact ⟨i, hi, Nat.lt_of_le_of_lt (hle i) hlt⟩
        refine ev_iload_n3 dX2_findKept_132 ?_
        first | refine ev_if_neN 148 (by omega) (by decide) dX2_findKept_133 (fun h133 => ?_) (fun h133 => ?_) | refine ev_if_ne 148 (by decide) dX2_findKept_133 (fun h133 => ?_) (fun h133 => ?_)
        · refine ev_c1 dX2_findKept_148 ?_
          refine ev_goto 153 (by decide) dX2_findKept_149 ?_
          first | exact go 1 (by omega) (by omega) | exact go 0 (by omega) (by omega)
        · refine ev_iload5 dX2_findKept_136 ?_
          refine ev_aload_n0 dX2_findKept_138 ?_
          refine gfX2_29 rfl (hM 103 rfl) dX2_findKept_139 ?_
          refine ev_iload4 dX2_findKept_142 ?_
          refine ev_iald 4 rfl rfl (hM 110 rfl) (by omega) dX2_findKept_144 ?_
          rw [hrow]
          first | refine ev_icmp_geN 152 (by omega) (by omega) (by decide) dX2_findKept_145 (fun h145 => ?_) (fun h145 => ?_) | refine ev_icmp_ge 152 (by decide) dX2_findKept_145 (fun h145 => ?_) (fun h145 => ?_)
          · refine ev_c0 dX2_findKept_152 ?_
            first | exact go 1 (by omega) (by omega) | exact go 0 (by omega) (by omega)
          · refine ev_c1 dX2_findKept_148 ?_
            refine ev_goto 153 (by decide) dX2_findKept_149 ?_
            first | exact go 1 (by omega) (by omega) | exact go 0 (by omega) (by omega)
      have inner : ∀ z r, r + z = Kc q → (∀ r', r' < r → kbB Kc (bir q r') = true) → Ev ks mX2_findKept 99 [some (.inr 103), some (.inl d), some (.inl held), some (.inl (nI gv)), some (.inl (nI q)), some (.inl (nI r))] [] (sr S 110 (kR Kc)) (Rv (sr S 110 (kR K))) := by
        intro z
        induction z with
        | zero =>
          intro r hz ha
          refine ev_iload5 dX2_findKept_99 ?_
          refine ev_aload_n0 dX2_findKept_101 ?_
          refine gfX2_29 rfl (hM 103 rfl) dX2_findKept_102 ?_
          refine ev_iload4 dX2_findKept_105 ?_
          refine ev_iald 4 rfl rfl (hM 110 rfl) (by omega) dX2_findKept_107 ?_
          rw [hrow]
          first | refine ev_icmp_geN 132 (by omega) (by omega) (by decide) dX2_findKept_108 (fun h108 => ?_) (fun h108 => by exfalso; omega) | refine ev_icmp_ge 132 (by decide) dX2_findKept_108 (fun h108 => ?_) (fun h108 => by exfalso; omega)
          exact after r (by omega) ha (fun h => by omega)
        | succ z ih2 =>
          intro r hz ha
          refine ev_iload5 dX2_findKept_99 ?_
          refine ev_aload_n0 dX2_findKept_101 ?_
          refine gfX2_29 rfl (hM 103 rfl) dX2_findKept_102 ?_
          refine ev_iload4 dX2_findKept_105 ?_
          refine ev_iald 4 rfl rfl (hM 110 rfl) (by omega) dX2_findKept_107 ?_
          rw [hrow]
          first | refine ev_icmp_geN 132 (by omega) (by omega) (by decide) dX2_findKept_108 (fun h108 => by exfalso; omega) (fun h108 => ?_) | refine ev_icmp_ge 132 (by decide) dX2_findKept_108 (fun h108 => by exfalso; omega) (fun h108 => ?_)
          refine ev_aload_n0 dX2_findKept_111 ?_
          refine ev_aload_n0 dX2_findKept_112 ?_
          refine ev_iload4 dX2_findKept_113 ?_
          refine ev_iload5 dX2_findKept_115 ?_
          refine ev_cV2f okX2_birthOf lkX2_118 (Nat.le_of_ble_eq_true rfl) (Nat.le_of_ble_eq_true rfl) (hM 103 rfl) isO_103 (c_X2_birthOf2 hM hB' h4 h8 hqn (by omega)) dX2_findKept_117 ?_
          refine ev_cV1f okX2_isKeptCode lkX2_121 (Nat.le_of_ble_eq_true rfl) (Nat.le_of_ble_eq_true rfl) (hM 103 rfl) isO_103 (c_X2_isKeptCode2 hM hKr (hB q r hqn (by omega)).2) dX2_findKept_120 ?_
          first | refine ev_if_eqB 132 (by decide) dX2_findKept_123 (fun h123 => ?_) (fun h123 => ?_)
          · exact after r (by omega) ha (fun _ => h123)
          · refine ev_iinc5 dX2_findKept_126 ?_
            refine ev_goto 99 (by decide) dX2_findKept_129 ?_
            refine ih2 (r + 1) (by omega) (fun r' hr' => ?_)
            by_cases h : r' = r
            · rw [h]; exact h123
            · exact ha r' (by omega)
      refine ev_iload4 dX2_findKept_87 ?_
      refine ev_aload_n0 dX2_findKept_89 ?_
      refine ev_cV0f okX2_many lkX2_82 (Nat.le_of_ble_eq_true rfl) (Nat.le_of_ble_eq_true rfl) (hM 103 rfl) isO_103 (c_X2_many hM hn') dX2_findKept_90 ?_
      first | refine ev_icmp_geN 169 (by omega) (by omega) (by decide) dX2_findKept_93 (fun h93 => by exfalso; omega) (fun h93 => ?_) | refine ev_icmp_ge 169 (by decide) dX2_findKept_93 (fun h93 => by exfalso; omega) (fun h93 => ?_)
      refine ev_c0 dX2_findKept_96 ?_
      refine ev_istore5 dX2_findKept_97 ?_
      exact inner (Kc q) 0 (by omega) (fun _ h => by omega)
  have main : ∀ N Kc v4 v5, fb_sm Kc n < N → (∀ q, q < n → Kc q ≤ rr q) → (∀ q, n ≤ q → Kc q = 0) → (∀ q r, q < n → r < Kc q → bt d q = true → bt held (8 * q + r) = true) → (∀ q, K q ≤ Kc q) → Ev ks mX2_findKept 78 [some (.inr 103), some (.inl d), some (.inl held), some (.inl (nI 1)), v4, v5] [] (sr S 110 (kR Kc)) (Rv (sr S 110 (kR K))) := by
    intro N
    induction N with
    | zero => intro Kc v4 v5 h; omega
    | succ N ih =>
      intro Kc v4 v5 hN c1 c2 c3 c4
      refine ev_iload_n3 dX2_findKept_78 ?_
      first | refine ev_if_eqN 172 (by omega) (by decide) dX2_findKept_79 (fun h79 => by exfalso; omega) (fun h79 => ?_)
      refine ev_c0 dX2_findKept_82 ?_
      refine ev_istore_n3 dX2_findKept_83 ?_
      refine ev_c0 dX2_findKept_84 ?_
      refine ev_istore4 dX2_findKept_85 ?_
      refine pass Kc (fun Kc' gv v4 v5 hg d1 d2 d3 d4 d5 d6 => ?_) n 0 Kc 0 _ (by omega) (by omega) c1 c2 c3 c4 (fun _ => Nat.le_refl _) (fun _ => ⟨rfl, fun q' r h => by omega⟩) (fun h => by omega)
      rcases (show gv = 0 ∨ gv = 1 by omega) with rfl | rfl
      · obtain ⟨e1, e2⟩ := d5 rfl
        subst e1
        exact exit Kc' _ _ d1 d2 d3 d4 e2
      · have := d6 (by omega)
        exact ih Kc' _ _ (by omega) d1 d2 d3 d4
  -- the first part
  generalize hK0 : (fun q => if q < n then lead (fun r => !bt d q || bt held (8 * q + r)) (rr q) else 0) = K0
  have hK0v : ∀ q, q < n → K0 q = lead (fun r => !bt d q || bt held (8 * q + r)) (rr q) := fun q h => by rw [← hK0]; exact if_pos h
  have hK0z : ∀ q, n ≤ q → K0 q = 0 := fun q h => by rw [← hK0]; exact if_neg (by omega)
  have first : ∀ f q v4, q + f = 4 → Ev ks mX2_findKept 8 [some (.inr 103), some (.inl d), some (.inl held), some (.inl (nI q)), v4, none] [] (sr S 110 (fun i => if i < q then nI (K0 i) else S 110 i)) (Rv (sr S 110 (kR K))) := by
    intro f
    induction f with
    | zero =>
      intro q v4 hq
      obtain rfl : q = 4 := by omega
      refine ev_iload_n3 dX2_findKept_8 ?_
      refine ev_c4 dX2_findKept_9 ?_
      first | refine ev_icmp_geN 76 (by omega) (by omega) (by decide) dX2_findKept_10 (fun h10 => ?_) (fun h10 => by exfalso; omega) | refine ev_icmp_ge 76 (by decide) dX2_findKept_10 (fun h10 => ?_) (fun h10 => by exfalso; omega)
      refine ev_c1 dX2_findKept_76 ?_
      refine ev_istore_n3 dX2_findKept_77 ?_
      refine ev_cong (S' := sr S 110 (kR K0)) (fun k hk i hi => ?_) ?_
      · by_cases h : k = 110
        · subst h
          rw [sr_s, sr_s]
          have hi : i < 4 := hi
          rw [if_pos hi]
          rfl
        · rw [sr_n h, sr_n h]
      · refine main (fb_sm K0 n + 1) K0 _ _ (by omega) (fun q h => by rw [hK0v q h]; exact lead_le _ _) hK0z (fun q r h1 h2 h3 => ?_) (fun q => ?_)
        · rw [hK0v q h1] at h2
          have := lead_all h2
          rw [h3] at this
          simpa using this
        · rcases Nat.lt_or_ge q n with h | h
          · rw [hK0v q h]
            refine lead_max (k1 q h) (fun i hi => ?_)
            cases hd : bt d q with
            | false => rfl
            | true => rw [k3 q i h hi hd]; rfl
          · rw [k2 q h]; exact Nat.zero_le _
    | succ f ih =>
      intro q v4 hq
      have store : ∀ r, r = K0 q → Ev ks mX2_findKept 62 [some (.inr 103), some (.inl d), some (.inl held), some (.inl (nI q)), some (.inl (nI r)), none] [] (sr S 110 (fun i => if i < q then nI (K0 i) else S 110 i)) (Rv (sr S 110 (kR K))) := by
        intro r hr0
        have e : upd (fun i => if i < q then nI (K0 i) else S 110 i) q (nI r) = (fun i => if i < q + 1 then nI (K0 i) else S 110 i) := by
          funext i
          unfold upd
          by_cases h : i = q
          · rw [if_pos h, if_pos (by omega), hr0, h]
          · rw [if_neg h]
            dsimp only
            by_cases h2 : i < q
            · rw [if_pos h2, if_pos (by omega)]
            · rw [if_neg h2, if_neg (by omega)]
        refine ev_aload_n0 dX2_findKept_62 ?_
        refine gfX2_29 rfl (hM 103 rfl) dX2_findKept_63 ?_
        refine ev_iload_n3 dX2_findKept_66 ?_
        refine ev_iload4 dX2_findKept_67 ?_
        refine ev_iast 4 rfl rfl (hM 110 rfl) (by omega) dX2_findKept_69 ?_
        refine ev_iinc3 dX2_findKept_70 ?_
        refine ev_goto 8 (by decide) dX2_findKept_73 ?_
        rw [st_sr, e]
        exact ih (q + 1) _ (by omega)
      have hn' : sr S 110 (fun i => if i < q then nI (K0 i) else S 110 i) 104 0 = nI n := by rw [n110 _ _ (by decide)]; exact hn
      rcases Nat.lt_or_ge q n with hqn | hqn
      · have hr2 := hr q hqn
        have hr' : sr S 110 (fun i => if i < q then nI (K0 i) else S 110 i) 104 (3 + q) = nI (rr q) := by rw [n110 _ _ (by decide)]; exact hr2.1
        obtain ⟨pp, hpp⟩ : ∃ p : Nat → Bool, p = fun r => !bt d q || bt held (8 * q + r) := ⟨_, rfl⟩
        have hpv : ∀ r, pp r = (!bt d q || bt held (8 * q + r)) := fun r => by rw [hpp]
        have hK0q := hK0v q hqn
        rw [← hpp] at hK0q
        have inner : ∀ z r, r + z = rr q → ldF pp z r = K0 q → Ev ks mX2_findKept 16 [some (.inr 103), some (.inl d), some (.inl held), some (.inl (nI q)), some (.inl (nI r)), none] [] (sr S 110 (fun i => if i < q then nI (K0 i) else S 110 i)) (Rv (sr S 110 (kR K))) := by
          intro z
          induction z with
          | zero =>
            intro r hz hl
            refine ev_iload_n3 dX2_findKept_16 ?_
            refine ev_aload_n0 dX2_findKept_17 ?_
            refine ev_cV0f okX2_many lkX2_82 (Nat.le_of_ble_eq_true rfl) (Nat.le_of_ble_eq_true rfl) (hM 103 rfl) isO_103 (c_X2_many hM hn') dX2_findKept_18 ?_
            first | refine ev_icmp_geN 62 (by omega) (by omega) (by decide) dX2_findKept_21 (fun h21 => by exfalso; omega) (fun h21 => ?_) | refine ev_icmp_ge 62 (by decide) dX2_findKept_21 (fun h21 => by exfalso; omega) (fun h21 => ?_)
            refine ev_iload4 dX2_findKept_24 ?_
            refine ev_aload_n0 dX2_findKept_26 ?_
            refine ev_iload_n3 dX2_findKept_27 ?_
            refine ev_cV1f okX2_receipts lkX2_47 (Nat.le_of_ble_eq_true rfl) (Nat.le_of_ble_eq_true rfl) (hM 103 rfl) isO_103 (c_X2_receipts hM (by omega)) dX2_findKept_28 ?_
            rw [hr']
            first | refine ev_icmp_geN 62 (by omega) (by omega) (by decide) dX2_findKept_31 (fun h31 => ?_) (fun h31 => by exfalso; omega) | refine ev_icmp_ge 62 (by decide) dX2_findKept_31 (fun h31 => ?_) (fun h31 => by exfalso; omega)
            exact store r hl
          | succ z ih2 =>
            intro r hz hl
            rw [ldF] at hl
            refine ev_iload_n3 dX2_findKept_16 ?_
            refine ev_aload_n0 dX2_findKept_17 ?_
            refine ev_cV0f okX2_many lkX2_82 (Nat.le_of_ble_eq_true rfl) (Nat.le_of_ble_eq_true rfl) (hM 103 rfl) isO_103 (c_X2_many hM hn') dX2_findKept_18 ?_
            first | refine ev_icmp_geN 62 (by omega) (by omega) (by decide) dX2_findKept_21 (fun h21 => by exfalso; omega) (fun h21 => ?_) | refine ev_icmp_ge 62 (by decide) dX2_findKept_21 (fun h21 => by exfalso; omega) (fun h21 => ?_)
            refine ev_iload4 dX2_findKept_24 ?_
            refine ev_aload_n0 dX2_findKept_26 ?_
            refine ev_iload_n3 dX2_findKept_27 ?_
            refine ev_cV1f okX2_receipts lkX2_47 (Nat.le_of_ble_eq_true rfl) (Nat.le_of_ble_eq_true rfl) (hM 103 rfl) isO_103 (c_X2_receipts hM (by omega)) dX2_findKept_28 ?_
            rw [hr']
            first | refine ev_icmp_geN 62 (by omega) (by omega) (by decide) dX2_findKept_31 (fun h31 => by exfalso; omega) (fun h31 => ?_) | refine ev_icmp_ge 62 (by decide) dX2_findKept_31 (fun h31 => by exfalso; omega) (fun h31 => ?_)
            refine ev_iload_n1 dX2_findKept_34 ?_
            refine ev_iload_n3 dX2_findKept_35 ?_
            refine ev_cS2f okX2_has lkX2_39 (Nat.le_of_ble_eq_true rfl) (Nat.le_of_ble_eq_true rfl) (c_X2_has (by omega)) dX2_findKept_36 ?_
            first | refine ev_if_eqB 56 (by decide) dX2_findKept_39 (fun h39 => ?_) (fun h39 => ?_)
            · refine ev_iinc4 dX2_findKept_56 ?_
              refine ev_goto 16 (by decide) dX2_findKept_59 ?_
              rw [if_pos (by rw [hpv, h39]; first | rfl | (rw [h53]; rfl))] at hl
              exact ih2 (r + 1) (by omega) hl
            · refine ev_iload_n2 dX2_findKept_42 ?_
              refine ev_bipush (nI 8) kb_8 dX2_findKept_43 ?_
              refine ev_iload_n3 dX2_findKept_45 ?_
              first | refine ev_imulN dX2_findKept_46 ?_ | refine ev_imul dX2_findKept_46 ?_
              refine ev_iload4 dX2_findKept_47 ?_
              first | refine ev_iaddN dX2_findKept_49 ?_ | refine ev_iadd dX2_findKept_49 ?_
              refine ev_cS2f okX2_has lkX2_39 (Nat.le_of_ble_eq_true rfl) (Nat.le_of_ble_eq_true rfl) (c_X2_has (by omega)) dX2_findKept_50 ?_
              first | refine ev_if_eqB 62 (by decide) dX2_findKept_53 (fun h53 => ?_) (fun h53 => ?_)
              · rw [if_neg (by rw [hpv, h39, h53]; decide)] at hl
                exact store r hl
              · refine ev_iinc4 dX2_findKept_56 ?_
                refine ev_goto 16 (by decide) dX2_findKept_59 ?_
                rw [if_pos (by rw [hpv, h39]; first | rfl | (rw [h53]; rfl))] at hl
                exact ih2 (r + 1) (by omega) hl
        refine ev_iload_n3 dX2_findKept_8 ?_
        refine ev_c4 dX2_findKept_9 ?_
        first | refine ev_icmp_geN 76 (by omega) (by omega) (by decide) dX2_findKept_10 (fun h10 => by exfalso; omega) (fun h10 => ?_) | refine ev_icmp_ge 76 (by decide) dX2_findKept_10 (fun h10 => by exfalso; omega) (fun h10 => ?_)
        refine ev_c0 dX2_findKept_13 ?_
        refine ev_istore4 dX2_findKept_14 ?_
        exact inner (rr q) 0 (by omega) hK0q.symm
      · refine ev_iload_n3 dX2_findKept_8 ?_
        refine ev_c4 dX2_findKept_9 ?_
        first | refine ev_icmp_geN 76 (by omega) (by omega) (by decide) dX2_findKept_10 (fun h10 => by exfalso; omega) (fun h10 => ?_) | refine ev_icmp_ge 76 (by decide) dX2_findKept_10 (fun h10 => by exfalso; omega) (fun h10 => ?_)
        refine ev_c0 dX2_findKept_13 ?_
        refine ev_istore4 dX2_findKept_14 ?_
        refine ev_iload_n3 dX2_findKept_16 ?_
        refine ev_aload_n0 dX2_findKept_17 ?_
        refine ev_cV0f okX2_many lkX2_82 (Nat.le_of_ble_eq_true rfl) (Nat.le_of_ble_eq_true rfl) (hM 103 rfl) isO_103 (c_X2_many hM hn') dX2_findKept_18 ?_
        first | refine ev_icmp_geN 62 (by omega) (by omega) (by decide) dX2_findKept_21 (fun h21 => ?_) (fun h21 => by exfalso; omega) | refine ev_icmp_ge 62 (by decide) dX2_findKept_21 (fun h21 => ?_) (fun h21 => by exfalso; omega)
        exact store 0 (hK0z q hqn).symm
  refine ev_aload_n0 dX2_findKept_0 ?_
  refine ev_iload_n1 dX2_findKept_1 ?_
  refine ev_cV1f okX2_heldBut lkX2_115 (Nat.le_of_ble_eq_true rfl) (Nat.le_of_ble_eq_true rfl) (hM 103 rfl) isO_103 (c_X2_heldBut hM hn h4) dX2_findKept_2 ?_
  rw [hH]
  refine ev_istore_n2 dX2_findKept_5 ?_
  refine ev_c0 dX2_findKept_6 ?_
  refine ev_istore_n3 dX2_findKept_7 ?_
  have h := first 4 0 none rfl
  have e : sr S 110 (fun i => if i < 0 then nI (K0 i) else S 110 i) = S := by
    have : (fun i => if i < 0 then nI (K0 i) else S 110 i) = S 110 := by funext i; rw [if_neg (by omega)]
    rw [this, sr_self]
  rw [e] at h
  exact h
end
section
/-- a letter is written in a world -/
def wrW (S : St) (n x y L : Nat) (c b cs : Int32) : St :=
  sr (sr (sr (sr (sr S 7 (upd (S 7) ((x * 4 + y) * 8 + L) c)) 8 (upd (S 8) ((x * 4 + y) * 8 + L) b)) 9 (upd (S 9) ((x * 4 + y) * 8 + L) cs)) 10 (fun i => if ((x * 4 + y) * 8 + L) * 4 ≤ i ∧ i < ((x * 4 + y) * 8 + L) * 4 + 4 then (if x < n then S 11 (x * 4 + (i - ((x * 4 + y) * 8 + L) * 4)) &&& cs else 0) else S 10 i)) 6 (upd (S 6) (x * 4 + y) (nI (L + 1)))
theorem c_X0_write {ks : List Nat} (hW : InW ks) {S : St} {n x y L : Nat} {c b cs : Int32} (hn : S 0 0 = nI n) (h4 : n ≤ 4) (hx : x < 5) (hy : y < 4) (hL : S 6 (x * 4 + y) = nI L) (hL8 : L < 8) (hxn : x ≤ n) : Cn ks mX0_write yX0_write [.inr 0, .inl (nI x), .inl (nI y), .inl c, .inl b, .inl cs] S (Rv (wrW S n x y L c b cs)) := by
  refine cnV okX0_write 2 rfl ?_
  show Ev ks mX0_write 0 [some (.inr 0), some (.inl (nI x)), some (.inl (nI y)), some (.inl c), some (.inl b), some (.inl cs), none, none] [] S _
  unfold wrW
  generalize hl : (x * 4 + y) * 8 + L = l
  have hl160 : l < 160 := by omega
  obtain ⟨Z, hZ⟩ : ∃ Z, Z = sr (sr (sr S 7 (upd (S 7) l c)) 8 (upd (S 8) l b)) 9 (upd (S 9) l cs) := ⟨_, rfl⟩
  rw [← hZ]
  have z0 : Z 0 = S 0 := by rw [hZ]; rfl
  have z6 : Z 6 = S 6 := by rw [hZ]; rfl
  have z10 : Z 10 = S 10 := by rw [hZ]; rfl
  have z11 : Z 11 = S 11 := by rw [hZ]; rfl
  have h6 : ∀ R, sr Z 10 R 6 (x * 4 + y) = nI L := fun R => by show Z 6 _ = _; rw [z6]; exact hL
  have h0 : ∀ R, sr Z 10 R 0 0 = nI n := fun R => by show Z 0 _ = _; rw [z0]; exact hn
  have h11 : ∀ R i, sr Z 10 R 11 i = S 11 i := fun R i => by show Z 11 _ = _; rw [z11]
  have loop : ∀ f k, k + f = 4 → Ev ks mX0_write 42 [some (.inr 0), some (.inl (nI x)), some (.inl (nI y)), some (.inl c), some (.inl b), some (.inl cs), some (.inl (nI l)), some (.inl (nI k))] [] (sr Z 10 (fun i => if l * 4 ≤ i ∧ i < l * 4 + k then (if x < n then S 11 (x * 4 + (i - l * 4)) &&& cs else 0) else S 10 i)) (Rv (sr (sr Z 10 (fun i => if l * 4 ≤ i ∧ i < l * 4 + 4 then (if x < n then S 11 (x * 4 + (i - l * 4)) &&& cs else 0) else S 10 i)) 6 (upd (S 6) (x * 4 + y) (nI (L + 1))))) := by
    intro f
    induction f with
    | zero =>
      intro k hk
      obtain rfl : k = 4 := by omega
      refine ev_iload7 dX0_write_42 ?_
      refine ev_c4 dX0_write_44 ?_
      first | refine ev_icmp_geN 92 (by omega) (by omega) (by decide) dX0_write_45 (fun h45 => ?_) (fun h45 => by exfalso; omega) | refine ev_icmp_ge 92 (by decide) dX0_write_45 (fun h45 => ?_) (fun h45 => by exfalso; omega)
      refine ev_aload_n0 dX0_write_92 ?_
      refine gfX0_27 rfl (hW 0 rfl) dX0_write_93 ?_
      refine ev_iload_n1 dX0_write_96 ?_
      refine ev_iload_n2 dX0_write_97 ?_
      refine ev_cS2f okX0_wayOf lkX0_80 (Nat.le_of_ble_eq_true rfl) (Nat.le_of_ble_eq_true rfl) c_X0_wayOf dX0_write_98 ?_
      refine ev_dup2 dX0_write_101 ?_
      refine ev_iald 20 rfl rfl (hW 6 rfl) (by omega) dX0_write_102 ?_
      rw [h6]
      refine ev_c1 dX0_write_103 ?_
      first | refine ev_iaddN dX0_write_104 ?_ | refine ev_iadd dX0_write_104 ?_
      refine ev_iast 20 rfl rfl (hW 6 rfl) (by omega) dX0_write_105 ?_
      refine ev_return rfl dX0_write_106 ?_
      refine ⟨rfl, ?_⟩
      rw [st_n]
      congr 2
    | succ f ih =>
      intro k hk
      have e : ∀ v, v = (if x < n then S 11 (x * 4 + k) &&& cs else 0) → upd (fun i => if l * 4 ≤ i ∧ i < l * 4 + k then (if x < n then S 11 (x * 4 + (i - l * 4)) &&& cs else 0) else S 10 i) (l * 4 + k) v = (fun i => if l * 4 ≤ i ∧ i < l * 4 + (k + 1) then (if x < n then S 11 (x * 4 + (i - l * 4)) &&& cs else 0) else S 10 i) := by
        intro v hv
        funext i
        unfold upd
        by_cases h : i = l * 4 + k
        · rw [if_pos h, if_pos (by omega), hv, h, Nat.add_sub_cancel_left]
        · rw [if_neg h]
          dsimp only
          by_cases h2 : l * 4 ≤ i ∧ i < l * 4 + k
          · rw [if_pos h2, if_pos (show l * 4 ≤ i ∧ i < l * 4 + (k + 1) by omega)]
          · rw [if_neg h2, if_neg (show ¬ (l * 4 ≤ i ∧ i < l * 4 + (k + 1)) by omega)]
      refine ev_iload7 dX0_write_42 ?_
      refine ev_c4 dX0_write_44 ?_
      first | refine ev_icmp_geN 92 (by omega) (by omega) (by decide) dX0_write_45 (fun h45 => by exfalso; omega) (fun h45 => ?_) | refine ev_icmp_ge 92 (by decide) dX0_write_45 (fun h45 => by exfalso; omega) (fun h45 => ?_)
      refine ev_aload_n0 dX0_write_48 ?_
      refine gfX0_39 rfl (hW 0 rfl) dX0_write_49 ?_
      refine ev_iload6 dX0_write_52 ?_
      refine ev_c4 dX0_write_54 ?_
      first | refine ev_imulN dX0_write_55 ?_ | refine ev_imul dX0_write_55 ?_
      refine ev_iload7 dX0_write_56 ?_
      first | refine ev_iaddN dX0_write_58 ?_ | refine ev_iadd dX0_write_58 ?_
      refine ev_aload_n0 dX0_write_59 ?_
      refine ev_iload_n1 dX0_write_60 ?_
      refine ev_cV1f okX0_isSite lkX0_84 (Nat.le_of_ble_eq_true rfl) (Nat.le_of_ble_eq_true rfl) (hW 0 rfl) isO_0 (c_X0_isSite hW (h0 _)) dX0_write_61 ?_
      rw [isS_nat (by omega) (by omega)]
      first | refine ev_if_eqB 84 (by decide) dX0_write_64 (fun h64 => ?_) (fun h64 => ?_)
      · refine ev_c0 dX0_write_84 ?_
        refine ev_iast 640 rfl rfl (hW 10 rfl) (by omega) dX0_write_85 ?_
        refine ev_iinc7 dX0_write_86 ?_
        refine ev_goto 42 (by decide) dX0_write_89 ?_
        rw [st_sr, e _ (by first | (rw [if_pos (of_decide_eq_true h64)]; done) | (rw [if_neg (of_decide_eq_false h64), nI_0]; done))]
        exact ih (k + 1) (by omega)
      · refine ev_aload_n0 dX0_write_67 ?_
        refine gfX0_42 rfl (hW 0 rfl) dX0_write_68 ?_
        refine ev_iload_n1 dX0_write_71 ?_
        refine ev_c4 dX0_write_72 ?_
        first | refine ev_imulN dX0_write_73 ?_ | refine ev_imul dX0_write_73 ?_
        refine ev_iload7 dX0_write_74 ?_
        first | refine ev_iaddN dX0_write_76 ?_ | refine ev_iadd dX0_write_76 ?_
        refine ev_iald 16 rfl rfl (hW 11 rfl) (by have := of_decide_eq_true h64; omega) dX0_write_77 ?_
        rw [h11]
        refine ev_iload5 dX0_write_78 ?_
        refine ev_iand dX0_write_80 ?_
        refine ev_goto 85 (by decide) dX0_write_81 ?_
        refine ev_iast 640 rfl rfl (hW 10 rfl) (by omega) dX0_write_85 ?_
        refine ev_iinc7 dX0_write_86 ?_
        refine ev_goto 42 (by decide) dX0_write_89 ?_
        rw [st_sr, e _ (by first | (rw [if_pos (of_decide_eq_true h64)]; done) | (rw [if_neg (of_decide_eq_false h64), nI_0]; done))]
        exact ih (k + 1) (by omega)
  refine ev_iload_n1 dX0_write_0 ?_
  refine ev_iload_n2 dX0_write_1 ?_
  refine ev_aload_n0 dX0_write_2 ?_
  refine ev_iload_n1 dX0_write_3 ?_
  refine ev_iload_n2 dX0_write_4 ?_
  refine ev_cV2f okX0_lettersOn lkX0_91 (Nat.le_of_ble_eq_true rfl) (Nat.le_of_ble_eq_true rfl) (hW 0 rfl) isO_0 (c_X0_lettersOn hW (by omega) (by omega)) dX0_write_5 ?_
  rw [hL]
  refine ev_cS3f okX0_letterOn lkX0_100 (Nat.le_of_ble_eq_true rfl) (Nat.le_of_ble_eq_true rfl) c_X0_letterOn dX0_write_8 ?_
  rw [hl]
  refine ev_istore6 dX0_write_11 ?_
  refine ev_aload_n0 dX0_write_13 ?_
  refine gfX0_30 rfl (hW 0 rfl) dX0_write_14 ?_
  refine ev_iload6 dX0_write_17 ?_
  refine ev_iload_n3 dX0_write_19 ?_
  refine ev_iast 160 rfl rfl (hW 7 rfl) (by omega) dX0_write_20 ?_
  refine ev_aload_n0 dX0_write_21 ?_
  refine gfX0_33 rfl (hW 0 rfl) dX0_write_22 ?_
  refine ev_iload6 dX0_write_25 ?_
  refine ev_iload4 dX0_write_27 ?_
  refine ev_iast 160 rfl rfl (hW 8 rfl) (by omega) dX0_write_29 ?_
  refine ev_aload_n0 dX0_write_30 ?_
  refine gfX0_36 rfl (hW 0 rfl) dX0_write_31 ?_
  refine ev_iload6 dX0_write_34 ?_
  refine ev_iload5 dX0_write_36 ?_
  refine ev_iast 160 rfl rfl (hW 9 rfl) (by omega) dX0_write_38 ?_
  refine ev_c0 dX0_write_39 ?_
  refine ev_istore7 dX0_write_40 ?_
  have h := loop 4 0 rfl
  have e : sr Z 10 (fun i => if l * 4 ≤ i ∧ i < l * 4 + 0 then (if x < n then S 11 (x * 4 + (i - l * 4)) &&& cs else 0) else S 10 i) = Z := by
    have : (fun i => if l * 4 ≤ i ∧ i < l * 4 + 0 then (if x < n then S 11 (x * 4 + (i - l * 4)) &&& cs else 0) else S 10 i) = Z 10 := by
      rw [z10]; funext i; rw [if_neg (by omega)]
    rw [this, sr_self]
  rw [e, hZ] at h
  rw [hZ]
  exact h
theorem c_X0_pastAhead {ks : List Nat} (hW : InW ks) {S : St} {q r : Nat} (hq : q < 4) (hr : S 1 q = nI r) (h8 : r ≤ 8) : Cn ks mX0_pastAhead yX0_pastAhead [.inr 0, .inl (nI q)] S (Ri (if r = 0 then 0 else S 5 (q * 8 + (r - 1))) S) := by
  refine cnV okX0_pastAhead 0 rfl ?_
  show Ev ks mX0_pastAhead 0 [some (.inr 0), some (.inl (nI q))] [] S _
  refine ev_aload_n0 dX0_pastAhead_0 ?_
  refine gfX0_9 rfl (hW 0 rfl) dX0_pastAhead_1 ?_
  refine ev_iload_n1 dX0_pastAhead_4 ?_
  refine ev_iald 4 rfl rfl (hW 1 rfl) (by omega) dX0_pastAhead_5 ?_
  rw [hr]
  first | refine ev_if_neN 13 (by omega) (by decide) dX0_pastAhead_6 (fun h6 => ?_) (fun h6 => ?_) | refine ev_if_ne 13 (by decide) dX0_pastAhead_6 (fun h6 => ?_) (fun h6 => ?_)
  · refine ev_aload_n0 dX0_pastAhead_13 ?_
    refine gfX0_24 rfl (hW 0 rfl) dX0_pastAhead_14 ?_
    refine ev_iload_n1 dX0_pastAhead_17 ?_
    refine ev_aload_n0 dX0_pastAhead_18 ?_
    refine gfX0_9 rfl (hW 0 rfl) dX0_pastAhead_19 ?_
    refine ev_iload_n1 dX0_pastAhead_22 ?_
    refine ev_iald 4 rfl rfl (hW 1 rfl) (by omega) dX0_pastAhead_23 ?_
    rw [hr]
    refine ev_c1 dX0_pastAhead_24 ?_
    first | refine ev_isubN (by omega) dX0_pastAhead_25 ?_ | refine ev_isub dX0_pastAhead_25 ?_
    refine ev_cS2f okX0_codeOf lkX0_88 (Nat.le_of_ble_eq_true rfl) (Nat.le_of_ble_eq_true rfl) c_X0_codeOf dX0_pastAhead_26 ?_
    refine ev_iald 32 rfl rfl (hW 5 rfl) (by omega) dX0_pastAhead_29 ?_
    refine ev_ireturn rfl dX0_pastAhead_30 ?_
    refine ⟨?_, rfl⟩
    first | rw [if_pos h6, nI_0] | rw [if_neg (by omega)]
  · refine ev_c0 dX0_pastAhead_9 ?_
    refine ev_goto 30 (by decide) dX0_pastAhead_10 ?_
    refine ev_ireturn rfl dX0_pastAhead_30 ?_
    refine ⟨?_, rfl⟩
    first | rw [if_pos h6, nI_0] | rw [if_neg (by omega)]
theorem c_X0_pastOfBirth {ks : List Nat} (hW : InW ks) {S : St} {l : Nat} (hl : l < 160) (hb : S 8 l = -9 ∨ ∃ b, b < 32 ∧ S 8 l = nI b) : Cn ks mX0_pastOfBirth yX0_pastOfBirth [.inr 0, .inl (nI l)] S (Ri (if S 8 l = -9 then 0 else S 5 (tn (S 8 l))) S) := by
  refine cnV okX0_pastOfBirth 0 rfl ?_
  show Ev ks mX0_pastOfBirth 0 [some (.inr 0), some (.inl (nI l))] [] S _
  rcases hb with hb | ⟨b, hb, e⟩
  · refine ev_aload_n0 dX0_pastOfBirth_0 ?_
    refine gfX0_33 rfl (hW 0 rfl) dX0_pastOfBirth_1 ?_
    refine ev_iload_n1 dX0_pastOfBirth_4 ?_
    refine ev_iald 160 rfl rfl (hW 8 rfl) (by omega) dX0_pastOfBirth_5 ?_
    rw [hb]
    first | refine ev_if_ge 13 (by decide) dX0_pastOfBirth_6 (fun h6 => by exact absurd h6 (by decide +kernel)) (fun h6 => ?_)
    refine ev_c0 dX0_pastOfBirth_9 ?_
    refine ev_goto 24 (by decide) dX0_pastOfBirth_10 ?_
    refine ev_ireturn rfl dX0_pastOfBirth_24 ?_
    exact ⟨by rw [if_pos rfl, nI_0], rfl⟩
  · refine ev_aload_n0 dX0_pastOfBirth_0 ?_
    refine gfX0_33 rfl (hW 0 rfl) dX0_pastOfBirth_1 ?_
    refine ev_iload_n1 dX0_pastOfBirth_4 ?_
    refine ev_iald 160 rfl rfl (hW 8 rfl) (by omega) dX0_pastOfBirth_5 ?_
    rw [e]
    refine ev_if_geN 13 (by omega) (by decide) dX0_pastOfBirth_6 ?_
    refine ev_aload_n0 dX0_pastOfBirth_13 ?_
    refine gfX0_24 rfl (hW 0 rfl) dX0_pastOfBirth_14 ?_
    refine ev_aload_n0 dX0_pastOfBirth_17 ?_
    refine gfX0_33 rfl (hW 0 rfl) dX0_pastOfBirth_18 ?_
    refine ev_iload_n1 dX0_pastOfBirth_21 ?_
    refine ev_iald 160 rfl rfl (hW 8 rfl) (by omega) dX0_pastOfBirth_22 ?_
    rw [e]
    refine ev_iald 32 rfl rfl (hW 5 rfl) (by omega) dX0_pastOfBirth_23 ?_
    refine ev_ireturn rfl dX0_pastOfBirth_24 ?_
    exact ⟨by rw [if_neg (nI_neg (by omega) m9_neg), tn_nI (by omega)], rfl⟩
/-- what a site knows behind a letter -/
def lrn (S : St) (n y code l : Nat) : Nat → Int32 :=
  upd (fun i => if y * 4 ≤ i ∧ i < y * 4 + n then S 11 i ||| S 10 (l * 4 + (i - y * 4)) else S 11 i) (y * 4 + y) ((fun i => if y * 4 ≤ i ∧ i < y * 4 + n then S 11 i ||| S 10 (l * 4 + (i - y * 4)) else S 11 i) (y * 4 + y) ||| ((nI 1 <<< (nI code &&& 31)) ||| S 9 l))
theorem c_X0_learn {ks : List Nat} (hW : InW ks) {S : St} {n y code l : Nat} (hn : S 0 0 = nI n) (h4 : n ≤ 4) (hy : y < 4) (hl : l < 160) : Cn ks mX0_learn yX0_learn [.inr 0, .inl (nI y), .inl (nI code), .inl (nI l)] S (Rv (sr S 11 (lrn S n y code l))) := by
  refine cnV okX0_learn 1 rfl ?_
  show Ev ks mX0_learn 0 [some (.inr 0), some (.inl (nI y)), some (.inl (nI code)), some (.inl (nI l)), none] [] S _
  have hh0 : ∀ R, sr S 11 R 0 0 = nI n := fun R => by show S 0 _ = _; exact hn
  have hh10 : ∀ R i, sr S 11 R 10 i = S 10 i := fun R i => rfl
  have hh9 : ∀ R i, sr S 11 R 9 i = S 9 i := fun R i => rfl
  have loop : ∀ f k, k + f = n → Ev ks mX0_learn 3 [some (.inr 0), some (.inl (nI y)), some (.inl (nI code)), some (.inl (nI l)), some (.inl (nI k))] [] (sr S 11 (fun i => if y * 4 ≤ i ∧ i < y * 4 + k then S 11 i ||| S 10 (l * 4 + (i - y * 4)) else S 11 i)) (Rv (sr S 11 (lrn S n y code l))) := by
    intro f
    induction f with
    | zero =>
      intro k hk
      obtain rfl : k = n := by omega
      refine ev_iload4 dX0_learn_3 ?_
      refine ev_aload_n0 dX0_learn_5 ?_
      refine gfX0_49 rfl (hW 0 rfl) dX0_learn_6 ?_
      rw [hh0]
      first | refine ev_icmp_geN 43 (by omega) (by omega) (by decide) dX0_learn_9 (fun h9 => ?_) (fun h9 => by exfalso; omega) | refine ev_icmp_ge 43 (by decide) dX0_learn_9 (fun h9 => ?_) (fun h9 => by exfalso; omega)
      refine ev_aload_n0 dX0_learn_43 ?_
      refine gfX0_42 rfl (hW 0 rfl) dX0_learn_44 ?_
      refine ev_iload_n1 dX0_learn_47 ?_
      refine ev_c4 dX0_learn_48 ?_
      first | refine ev_imulN dX0_learn_49 ?_ | refine ev_imul dX0_learn_49 ?_
      refine ev_iload_n1 dX0_learn_50 ?_
      first | refine ev_iaddN dX0_learn_51 ?_ | refine ev_iadd dX0_learn_51 ?_
      refine ev_dup2 dX0_learn_52 ?_
      refine ev_iald 16 rfl rfl (hW 11 rfl) (by omega) dX0_learn_53 ?_
      refine ev_c1 dX0_learn_54 ?_
      refine ev_iload_n2 dX0_learn_55 ?_
      refine ev_ishl dX0_learn_56 ?_
      refine ev_aload_n0 dX0_learn_57 ?_
      refine gfX0_36 rfl (hW 0 rfl) dX0_learn_58 ?_
      refine ev_iload_n3 dX0_learn_61 ?_
      refine ev_iald 160 rfl rfl (hW 9 rfl) (by omega) dX0_learn_62 ?_
      rw [hh9]
      refine ev_ior dX0_learn_63 ?_
      refine ev_ior dX0_learn_64 ?_
      refine ev_iast 16 rfl rfl (hW 11 rfl) (by omega) dX0_learn_65 ?_
      refine ev_return rfl dX0_learn_66 ?_
      rw [st_sr, sr_s]
      exact ⟨rfl, rfl⟩
    | succ f ih =>
      intro k hk
      have e : upd (fun i => if y * 4 ≤ i ∧ i < y * 4 + k then S 11 i ||| S 10 (l * 4 + (i - y * 4)) else S 11 i) (y * 4 + k) (S 11 (y * 4 + k) ||| S 10 (l * 4 + k)) = (fun i => if y * 4 ≤ i ∧ i < y * 4 + (k + 1) then S 11 i ||| S 10 (l * 4 + (i - y * 4)) else S 11 i) := by
        funext i
        unfold upd
        by_cases h : i = y * 4 + k
        · rw [if_pos h, if_pos (by omega), h, Nat.add_sub_cancel_left]
        · rw [if_neg h]
          dsimp only
          by_cases h2 : y * 4 ≤ i ∧ i < y * 4 + k
          · rw [if_pos h2, if_pos (by omega)]
          · rw [if_neg h2, if_neg (by omega)]
      have e2 : sr S 11 (fun i => if y * 4 ≤ i ∧ i < y * 4 + k then S 11 i ||| S 10 (l * 4 + (i - y * 4)) else S 11 i) 11 (y * 4 + k) = S 11 (y * 4 + k) := by
        rw [sr_s, if_neg (by omega)]
      refine ev_iload4 dX0_learn_3 ?_
      refine ev_aload_n0 dX0_learn_5 ?_
      refine gfX0_49 rfl (hW 0 rfl) dX0_learn_6 ?_
      rw [hh0]
      first | refine ev_icmp_geN 43 (by omega) (by omega) (by decide) dX0_learn_9 (fun h9 => by exfalso; omega) (fun h9 => ?_) | refine ev_icmp_ge 43 (by decide) dX0_learn_9 (fun h9 => by exfalso; omega) (fun h9 => ?_)
      refine ev_aload_n0 dX0_learn_12 ?_
      refine gfX0_42 rfl (hW 0 rfl) dX0_learn_13 ?_
      refine ev_iload_n1 dX0_learn_16 ?_
      refine ev_c4 dX0_learn_17 ?_
      first | refine ev_imulN dX0_learn_18 ?_ | refine ev_imul dX0_learn_18 ?_
      refine ev_iload4 dX0_learn_19 ?_
      first | refine ev_iaddN dX0_learn_21 ?_ | refine ev_iadd dX0_learn_21 ?_
      refine ev_dup2 dX0_learn_22 ?_
      refine ev_iald 16 rfl rfl (hW 11 rfl) (by omega) dX0_learn_23 ?_
      rw [e2]
      refine ev_aload_n0 dX0_learn_24 ?_
      refine gfX0_39 rfl (hW 0 rfl) dX0_learn_25 ?_
      refine ev_iload_n3 dX0_learn_28 ?_
      refine ev_c4 dX0_learn_29 ?_
      first | refine ev_imulN dX0_learn_30 ?_ | refine ev_imul dX0_learn_30 ?_
      refine ev_iload4 dX0_learn_31 ?_
      first | refine ev_iaddN dX0_learn_33 ?_ | refine ev_iadd dX0_learn_33 ?_
      refine ev_iald 640 rfl rfl (hW 10 rfl) (by omega) dX0_learn_34 ?_
      rw [hh10]
      refine ev_ior dX0_learn_35 ?_
      refine ev_iast 16 rfl rfl (hW 11 rfl) (by omega) dX0_learn_36 ?_
      refine ev_iinc4 dX0_learn_37 ?_
      refine ev_goto 3 (by decide) dX0_learn_40 ?_
      rw [st_sr, e]
      exact ih (k + 1) (by omega)
  refine ev_c0 dX0_learn_0 ?_
  refine ev_istore4 dX0_learn_1 ?_
  have h := loop n 0 (by omega)
  have e : sr S 11 (fun i => if y * 4 ≤ i ∧ i < y * 4 + 0 then S 11 i ||| S 10 (l * 4 + (i - y * 4)) else S 11 i) = S := by
    have : (fun i => if y * 4 ≤ i ∧ i < y * 4 + 0 then S 11 i ||| S 10 (l * 4 + (i - y * 4)) else S 11 i) = S 11 := by
      funext i; rw [if_neg (by omega)]
    rw [this, sr_self]
  rw [e] at h
  exact h
/-- the codes that a letter of p carries on -/
def unsf (S : St) (n e p : Nat) : Int32 := mk (fun c => bt (S 11 (p * 4 + p)) c && decide (pcn (mk (fun s => bt (S 11 (p * 4 + s)) c) n) < e)) 32
/-- the letter that a site may write -/
def ansW (S : St) (n e y code v : Nat) : St := if v % 3 = 0 ∨ v % n = y ∨ 8 ≤ tn (S 6 (y * 4 + v % n)) then S else wrW S n y (v % n) (tn (S 6 (y * 4 + v % n))) (nI (v % 100)) (nI code) (unsf S n e y)
theorem c_X0_answer {ks : List Nat} (hW : InW ks) {S : St} {n e y code v L : Nat} (hn : S 0 0 = nI n) (h2 : 2 ≤ n) (h4 : n ≤ 4) (he : S 0 1 = nI e) (he4 : e ≤ 4) (hy : y < n) (hc : code < 32) (hv : S 4 code = nI v) (hv9 : v < 997) (hL : S 6 (y * 4 + v % n) = nI L) (hL8 : L ≤ 8) : Cn ks mX0_answer yX0_answer [.inr 0, .inl (nI y), .inl (nI code)] S (Rv (ansW S n e y code v)) := by
  refine cnV okX0_answer 2 rfl ?_
  show Ev ks mX0_answer 0 [some (.inr 0), some (.inl (nI y)), some (.inl (nI code)), none, none] [] S _
  have hmod : v % n < n := Nat.mod_lt _ (by omega)
  have ht : tn (S 6 (y * 4 + v % n)) = L := by rw [hL]; exact tn_nI (by omega)
  unfold ansW
  rw [ht]
  refine ev_aload_n0 dX0_answer_0 ?_
  refine gfX0_21 rfl (hW 0 rfl) dX0_answer_1 ?_
  refine ev_iload_n2 dX0_answer_4 ?_
  refine ev_iald 32 rfl rfl (hW 4 rfl) (by omega) dX0_answer_5 ?_
  rw [hv]
  refine ev_istore_n3 dX0_answer_6 ?_
  refine ev_aload_n0 dX0_answer_7 ?_
  refine gfX0_49 rfl (hW 0 rfl) dX0_answer_8 ?_
  rw [hn]
  first | refine ev_if_le 23 (by decide) dX0_answer_11 (fun h11 => by exact absurd h11 (nI_nle (by omega) (by omega))) (fun h11 => ?_)
  refine ev_iload_n3 dX0_answer_14 ?_
  refine ev_aload_n0 dX0_answer_15 ?_
  refine gfX0_49 rfl (hW 0 rfl) dX0_answer_16 ?_
  rw [hn]
  refine ev_iremN (by omega) (by omega) (by omega) dX0_answer_19 ?_
  refine ev_goto 24 (by decide) dX0_answer_20 ?_
  refine ev_istore4 dX0_answer_24 ?_
  refine ev_iload_n3 dX0_answer_26 ?_
  refine ev_c3 dX0_answer_27 ?_
  refine ev_iremN (by omega) (by omega) (by omega) dX0_answer_28 ?_
  first | refine ev_if_eqN 67 (by omega) (by decide) dX0_answer_29 (fun h29 => ?_) (fun h29 => ?_) | refine ev_if_eq 67 (by decide) dX0_answer_29 (fun h29 => ?_) (fun h29 => ?_)
  · refine ev_return rfl dX0_answer_67 ?_
    refine ⟨rfl, ?_⟩
    first | rw [if_pos (by omega)] | (rw [if_neg (by omega)]; rfl)
  · refine ev_iload4 dX0_answer_32 ?_
    refine ev_iload_n1 dX0_answer_34 ?_
    first | refine ev_icmp_eqN 67 (by omega) (by omega) (by decide) dX0_answer_35 (fun h35 => ?_) (fun h35 => ?_) | refine ev_icmp_eq 67 (by decide) dX0_answer_35 (fun h35 => ?_) (fun h35 => ?_)
    · refine ev_return rfl dX0_answer_67 ?_
      refine ⟨rfl, ?_⟩
      first | rw [if_pos (by omega)] | (rw [if_neg (by omega)]; rfl)
    · refine ev_aload_n0 dX0_answer_38 ?_
      refine ev_iload_n1 dX0_answer_39 ?_
      refine ev_iload4 dX0_answer_40 ?_
      refine ev_cV2f okX0_lettersOn lkX0_91 (Nat.le_of_ble_eq_true rfl) (Nat.le_of_ble_eq_true rfl) (hW 0 rfl) isO_0 (c_X0_lettersOn hW (by omega) (by omega)) dX0_answer_42 ?_
      rw [hL]
      refine ev_bipush (nI 8) kb_8 dX0_answer_45 ?_
      first | refine ev_icmp_geN 67 (by omega) (by omega) (by decide) dX0_answer_47 (fun h47 => ?_) (fun h47 => ?_) | refine ev_icmp_ge 67 (by decide) dX0_answer_47 (fun h47 => ?_) (fun h47 => ?_)
      · refine ev_return rfl dX0_answer_67 ?_
        refine ⟨rfl, ?_⟩
        first | rw [if_pos (by omega)] | (rw [if_neg (by omega)]; rfl)
      · refine ev_aload_n0 dX0_answer_50 ?_
        refine ev_iload_n1 dX0_answer_51 ?_
        refine ev_iload4 dX0_answer_52 ?_
        refine ev_iload_n3 dX0_answer_54 ?_
        refine ev_bipush (nI 100) kb_100 dX0_answer_55 ?_
        refine ev_iremN (by omega) (by omega) (by omega) dX0_answer_57 ?_
        refine ev_iload_n2 dX0_answer_58 ?_
        refine ev_aload_n0 dX0_answer_59 ?_
        refine ev_iload_n1 dX0_answer_60 ?_
        refine ev_cV1f okX0_unsafeFor lkX0_135 (Nat.le_of_ble_eq_true rfl) (Nat.le_of_ble_eq_true rfl) (hW 0 rfl) isO_0 (c_X0_unsafeFor hW hn (by omega) he (by omega) (by omega)) dX0_answer_61 ?_
        refine ev_cV5v okX0_write lkX0_138 (Nat.le_of_ble_eq_true rfl) (Nat.le_of_ble_eq_true rfl) (hW 0 rfl) isO_0 (c_X0_write hW hn h4 (by omega) (by omega) hL (by omega) (by omega)) dX0_answer_64 ?_
        refine ev_return rfl dX0_answer_67 ?_
        refine ⟨rfl, ?_⟩
        first | rw [if_pos (by omega)] | (rw [if_neg (by omega)]; rfl)
theorem c_X0_crash {ks : List Nat} (hW : InW ks) {S : St} {q : Nat} (hq : q < 4) : Cn ks mX0_crash yX0_crash [.inr 0, .inl (nI q)] S (Rv (sr (st S 0 2 (S 0 2 ||| nI 1 <<< (nI q &&& 31))) 11 (fun i => if q * 4 ≤ i ∧ i < q * 4 + 4 then 0 else S 11 i))) := by
  refine cnV okX0_crash 1 rfl ?_
  show Ev ks mX0_crash 0 [some (.inr 0), some (.inl (nI q)), none] [] S _
  generalize hZ : st S 0 2 (S 0 2 ||| nI 1 <<< (nI q &&& 31)) = Z
  have z11 : Z 11 = S 11 := by rw [← hZ]; rfl
  have loop : ∀ f k, k + f = 4 → Ev ks mX0_crash 14 [some (.inr 0), some (.inl (nI q)), some (.inl (nI k))] [] (sr Z 11 (fun i => if q * 4 ≤ i ∧ i < q * 4 + k then 0 else S 11 i)) (Rv (sr Z 11 (fun i => if q * 4 ≤ i ∧ i < q * 4 + 4 then 0 else S 11 i))) := by
    intro f
    induction f with
    | zero =>
      intro k hk
      obtain rfl : k = 4 := by omega
      refine ev_iload_n2 dX0_crash_14 ?_
      refine ev_c4 dX0_crash_15 ?_
      first | refine ev_icmp_geN 36 (by omega) (by omega) (by decide) dX0_crash_16 (fun h16 => ?_) (fun h16 => by exfalso; omega) | refine ev_icmp_ge 36 (by decide) dX0_crash_16 (fun h16 => ?_) (fun h16 => by exfalso; omega)
      refine ev_return rfl dX0_crash_36 ?_
      exact ⟨rfl, rfl⟩
    | succ f ih =>
      intro k hk
      have e : upd (fun i => if q * 4 ≤ i ∧ i < q * 4 + k then 0 else S 11 i) (q * 4 + k) (nI 0) = (fun i => if q * 4 ≤ i ∧ i < q * 4 + (k + 1) then 0 else S 11 i) := by
        funext i
        unfold upd
        by_cases h : i = q * 4 + k
        · rw [if_pos h, if_pos (by omega), nI_0]
        · rw [if_neg h]
          dsimp only
          by_cases h2 : q * 4 ≤ i ∧ i < q * 4 + k
          · rw [if_pos h2, if_pos (by omega)]
          · rw [if_neg h2, if_neg (by omega)]
      refine ev_iload_n2 dX0_crash_14 ?_
      refine ev_c4 dX0_crash_15 ?_
      first | refine ev_icmp_geN 36 (by omega) (by omega) (by decide) dX0_crash_16 (fun h16 => by exfalso; omega) (fun h16 => ?_) | refine ev_icmp_ge 36 (by decide) dX0_crash_16 (fun h16 => by exfalso; omega) (fun h16 => ?_)
      refine ev_aload_n0 dX0_crash_19 ?_
      refine gfX0_42 rfl (hW 0 rfl) dX0_crash_20 ?_
      refine ev_iload_n1 dX0_crash_23 ?_
      refine ev_c4 dX0_crash_24 ?_
      first | refine ev_imulN dX0_crash_25 ?_ | refine ev_imul dX0_crash_25 ?_
      refine ev_iload_n2 dX0_crash_26 ?_
      first | refine ev_iaddN dX0_crash_27 ?_ | refine ev_iadd dX0_crash_27 ?_
      refine ev_c0 dX0_crash_28 ?_
      refine ev_iast 16 rfl rfl (hW 11 rfl) (by omega) dX0_crash_29 ?_
      refine ev_iinc2 dX0_crash_30 ?_
      refine ev_goto 14 (by decide) dX0_crash_33 ?_
      rw [st_sr, e]
      exact ih (k + 1) (by omega)
  refine ev_aload_n0 dX0_crash_0 ?_
  refine ev_dup dX0_crash_1 ?_
  refine gfX0_56 rfl (hW 0 rfl) dX0_crash_2 ?_
  refine ev_c1 dX0_crash_5 ?_
  refine ev_iload_n1 dX0_crash_6 ?_
  refine ev_ishl dX0_crash_7 ?_
  refine ev_ior dX0_crash_8 ?_
  refine pfX0_56 rfl (hW 0 rfl) dX0_crash_9 ?_
  rw [hZ]
  refine ev_c0 dX0_crash_12 ?_
  refine ev_istore_n2 dX0_crash_13 ?_
  have h := loop 4 0 (by omega)
  have e : sr Z 11 (fun i => if q * 4 ≤ i ∧ i < q * 4 + 0 then 0 else S 11 i) = Z := by
    have : (fun i => if q * 4 ≤ i ∧ i < q * 4 + 0 then 0 else S 11 i) = Z 11 := by
      rw [z11]; funext i; rw [if_neg (by omega)]
    rw [this, sr_self]
  rw [e] at h
  exact h
end
section
/-- a receipt's own entries -/
def recW (S : St) (x y r t v : Nat) (p : Int32) : St := st (st (st (st (st S 2 (y * 8 + r) (nI x)) 3 (y * 8 + r) (nI t)) 4 (y * 8 + r) (nI v)) 5 (y * 8 + r) p) 1 y (nI (r + 1))
def pstW (S : St) (x y r t : Nat) : Int32 := ((nI 1 <<< (nI (y * 8 + r) &&& 31)) ||| (if r = 0 then 0 else S 5 (y * 8 + (r - 1)))) ||| (if S 8 ((x * 4 + y) * 8 + t) = -9 then 0 else S 5 (tn (S 8 ((x * 4 + y) * 8 + t))))
/-- a receipt, with what is learnt by it -/
def rclW (S : St) (n x y r t v : Nat) (p : Int32) : St := sr (recW S x y r t v p) 11 (lrn (recW S x y r t v p) n y (y * 8 + r) ((x * 4 + y) * 8 + t))
def takeW (S : St) (n e x y r t v : Nat) : St := ansW (rclW S n x y r t v (pstW S x y r t)) n e y (y * 8 + r) v
theorem c_X0_take {ks : List Nat} (hW : InW ks) {S : St} {n e x y r t sv co : Nat} (hn : S 0 0 = nI n) (h2 : 2 ≤ n) (h4 : n ≤ 4) (he : S 0 1 = nI e) (he4 : e ≤ 4) (hx : x ≤ n) (hy : y < n) (hr : S 1 y = nI r) (hr8 : r < 8) (ht : fb_ct (fun j => decide (S 2 (y * 8 + j) = nI x)) r = t) (ht8 : t < 8) (hsv : (if r = 0 then nI (y + 1) else S 4 (y * 8 + (r - 1))) = nI sv) (hs9 : sv < 997) (hco : S 7 ((x * 4 + y) * 8 + t) = nI co) (hc9 : co ≤ 99) (hb : S 8 ((x * 4 + y) * 8 + t) = -9 ∨ ∃ b, b < 32 ∧ S 8 ((x * 4 + y) * 8 + t) = nI b) (hL : ∀ z, z < n → ∃ L, L ≤ 8 ∧ S 6 (y * 4 + z) = nI L) : Cn ks mX0_take yX0_take [.inr 0, .inl (nI x), .inl (nI y)] S (Rv (takeW S n e x y r t ((31 * sv + co + x + 1) % 997))) := by
  refine cnV okX0_take 3 rfl ?_
  show Ev ks mX0_take 0 [some (.inr 0), some (.inl (nI x)), some (.inl (nI y)), none, none, none] [] S _
  have hv9 : (31 * sv + co + x + 1) % 997 < 997 := Nat.mod_lt _ (by omega)
  generalize hv : (31 * sv + co + x + 1) % 997 = v at hv9
  have hmod : v % n < n := Nat.mod_lt _ (by omega)
  obtain ⟨L, hL8, hLv⟩ := hL (v % n) hmod
  unfold takeW rclW recW
  have hpp : pstW S x y r t = ((nI 1 <<< (nI (y * 8 + r) &&& 31)) ||| (if r = 0 then 0 else S 5 (y * 8 + (r - 1)))) ||| (if S 8 ((x * 4 + y) * 8 + t) = -9 then 0 else S 5 (tn (S 8 ((x * 4 + y) * 8 + t)))) := rfl
  generalize pstW S x y r t = pp at hpp
  obtain ⟨Z1, hZ1⟩ : ∃ Z, Z = st (st S 2 (y * 8 + r) (nI x)) 3 (y * 8 + r) (nI t) := ⟨_, rfl⟩
  have z1 : Z1 1 = S 1 ∧ Z1 4 = S 4 ∧ Z1 5 = S 5 ∧ Z1 6 = S 6 ∧ Z1 7 = S 7 ∧ Z1 8 = S 8 ∧ Z1 0 = S 0 := by rw [hZ1]; exact ⟨rfl, rfl, rfl, rfl, rfl, rfl, rfl⟩
  obtain ⟨Z2, hZ2⟩ : ∃ Z, Z = st Z1 4 (y * 8 + r) (nI v) := ⟨_, rfl⟩
  have z2 : Z2 1 = S 1 ∧ Z2 5 = S 5 ∧ Z2 8 = S 8 := by rw [hZ2]; exact ⟨z1.1, z1.2.2.1, z1.2.2.2.2.2.1⟩
  obtain ⟨Z3, hZ3⟩ : ∃ Z, Z = st Z2 5 (y * 8 + r) pp := ⟨_, rfl⟩
  have z3 : Z3 1 = S 1 := by rw [hZ3]; exact z2.1
  obtain ⟨Z4, hZ4⟩ : ∃ Z, Z = st Z3 1 y (nI (r + 1)) := ⟨_, rfl⟩
  have z4 : Z4 0 = S 0 ∧ Z4 6 = S 6 ∧ Z4 4 (y * 8 + r) = nI v := by
    rw [hZ4, hZ3, hZ2]
    refine ⟨z1.2.2.2.2.2.2, z1.2.2.2.1, ?_⟩
    show upd (Z1 4) (y * 8 + r) (nI v) (y * 8 + r) = nI v
    exact upd_s _ _ _
  rw [← hZ1, ← hZ2, ← hZ3, ← hZ4]
  have hr1 : Z1 1 y = nI r := by rw [z1.1]; exact hr
  have hr2 : Z2 1 y = nI r := by rw [z2.1]; exact hr
  have hsv1 : (if r = 0 then nI (y + 1) else Z1 4 (y * 8 + (r - 1))) = nI sv := by rw [z1.2.1]; exact hsv
  have hco1 : Z1 7 ((x * 4 + y) * 8 + t) = nI co := by rw [z1.2.2.2.2.1]; exact hco
  have hb2 : Z2 8 ((x * 4 + y) * 8 + t) = -9 ∨ ∃ b, b < 32 ∧ Z2 8 ((x * 4 + y) * 8 + t) = nI b := by rw [z2.2.2]; exact hb
  have hpp2 : ((nI 1 <<< (nI (y * 8 + r) &&& 31)) ||| (if r = 0 then 0 else Z2 5 (y * 8 + (r - 1)))) ||| (if Z2 8 ((x * 4 + y) * 8 + t) = -9 then 0 else Z2 5 (tn (Z2 8 ((x * 4 + y) * 8 + t)))) = pp := by rw [z2.2.1, z2.2.2]; exact hpp.symm
  have hr3 : Z3 1 y = nI r := by rw [z3]; exact hr
  have hn4 : Z4 0 0 = nI n := by rw [z4.1]; exact hn
  have hn5 : ∀ R, sr Z4 11 R 0 0 = nI n := fun R => hn4
  have he5 : ∀ R, sr Z4 11 R 0 1 = nI e := fun R => by show Z4 0 1 = nI e; rw [z4.1]; exact he
  have hv5 : ∀ R, sr Z4 11 R 4 (y * 8 + r) = nI v := fun R => z4.2.2
  have hL5 : ∀ R, sr Z4 11 R 6 (y * 4 + v % n) = nI L := fun R => by show Z4 6 _ = nI L; rw [z4.2.1]; exact hLv
  refine ev_aload_n0 dX0_take_0 ?_
  refine ev_iload_n1 dX0_take_1 ?_
  refine ev_iload_n2 dX0_take_2 ?_
  refine ev_cV2f okX0_takenFrom lkX0_116 (Nat.le_of_ble_eq_true rfl) (Nat.le_of_ble_eq_true rfl) (hW 0 rfl) isO_0 (c_X0_takenFrom hW (by omega) (by assumption) (by omega)) dX0_take_3 ?_
  rw [ht]
  refine ev_istore_n3 dX0_take_6 ?_
  refine ev_iload_n1 dX0_take_7 ?_
  refine ev_iload_n2 dX0_take_8 ?_
  refine ev_iload_n3 dX0_take_9 ?_
  refine ev_cS3f okX0_letterOn lkX0_100 (Nat.le_of_ble_eq_true rfl) (Nat.le_of_ble_eq_true rfl) c_X0_letterOn dX0_take_10 ?_
  refine ev_istore4 dX0_take_13 ?_
  refine ev_iload_n2 dX0_take_15 ?_
  refine ev_aload_n0 dX0_take_16 ?_
  refine gfX0_9 rfl (hW 0 rfl) dX0_take_17 ?_
  refine ev_iload_n2 dX0_take_20 ?_
  refine ev_iald 4 rfl rfl (hW 1 rfl) (by omega) dX0_take_21 ?_
  rw [hr]
  refine ev_cS2f okX0_codeOf lkX0_88 (Nat.le_of_ble_eq_true rfl) (Nat.le_of_ble_eq_true rfl) c_X0_codeOf dX0_take_22 ?_
  refine ev_istore5 dX0_take_25 ?_
  refine ev_aload_n0 dX0_take_27 ?_
  refine gfX0_15 rfl (hW 0 rfl) dX0_take_28 ?_
  refine ev_iload5 dX0_take_31 ?_
  refine ev_iload_n1 dX0_take_33 ?_
  refine ev_iast 32 rfl rfl (hW 2 rfl) (by omega) dX0_take_34 ?_
  refine ev_aload_n0 dX0_take_35 ?_
  refine gfX0_18 rfl (hW 0 rfl) dX0_take_36 ?_
  refine ev_iload5 dX0_take_39 ?_
  refine ev_iload_n3 dX0_take_41 ?_
  refine ev_iast 32 rfl rfl (hW 3 rfl) (by omega) dX0_take_42 ?_
  rw [← hZ1]
  refine ev_aload_n0 dX0_take_43 ?_
  refine gfX0_21 rfl (hW 0 rfl) dX0_take_44 ?_
  refine ev_iload5 dX0_take_47 ?_
  refine ev_bipush (nI 31) kb_31 dX0_take_49 ?_
  refine ev_aload_n0 dX0_take_51 ?_
  refine ev_iload_n2 dX0_take_52 ?_
  refine ev_cV1f okX0_stateOf lkX0_119 (Nat.le_of_ble_eq_true rfl) (Nat.le_of_ble_eq_true rfl) (hW 0 rfl) isO_0 (c_X0_stateOf hW (by omega) (by assumption) (by omega)) dX0_take_53 ?_
  rw [hsv1]
  first | refine ev_imulN dX0_take_56 ?_ | refine ev_imul dX0_take_56 ?_
  refine ev_aload_n0 dX0_take_57 ?_
  refine gfX0_30 rfl (hW 0 rfl) dX0_take_58 ?_
  refine ev_iload4 dX0_take_61 ?_
  refine ev_iald 160 rfl rfl (hW 7 rfl) (by omega) dX0_take_63 ?_
  rw [hco1]
  first | refine ev_iaddN dX0_take_64 ?_ | refine ev_iadd dX0_take_64 ?_
  refine ev_iload_n1 dX0_take_65 ?_
  first | refine ev_iaddN dX0_take_66 ?_ | refine ev_iadd dX0_take_66 ?_
  refine ev_c1 dX0_take_67 ?_
  first | refine ev_iaddN dX0_take_68 ?_ | refine ev_iadd dX0_take_68 ?_
  refine ev_sipush (nI 997) kh_997 dX0_take_69 ?_
  refine ev_iremN (by omega) (by omega) (by omega) dX0_take_72 ?_
  rw [hv]
  refine ev_iast 32 rfl rfl (hW 4 rfl) (by omega) dX0_take_73 ?_
  rw [← hZ2]
  refine ev_aload_n0 dX0_take_74 ?_
  refine gfX0_24 rfl (hW 0 rfl) dX0_take_75 ?_
  refine ev_iload5 dX0_take_78 ?_
  refine ev_c1 dX0_take_80 ?_
  refine ev_iload5 dX0_take_81 ?_
  refine ev_ishl dX0_take_83 ?_
  refine ev_aload_n0 dX0_take_84 ?_
  refine ev_iload_n2 dX0_take_85 ?_
  refine ev_cV1f okX0_pastAhead lkX0_122 (Nat.le_of_ble_eq_true rfl) (Nat.le_of_ble_eq_true rfl) (hW 0 rfl) isO_0 (c_X0_pastAhead hW (by omega) hr2 (by omega)) dX0_take_86 ?_
  refine ev_ior dX0_take_89 ?_
  refine ev_aload_n0 dX0_take_90 ?_
  refine ev_iload4 dX0_take_91 ?_
  refine ev_cV1f okX0_pastOfBirth lkX0_125 (Nat.le_of_ble_eq_true rfl) (Nat.le_of_ble_eq_true rfl) (hW 0 rfl) isO_0 (c_X0_pastOfBirth hW (by omega) hb2) dX0_take_93 ?_
  refine ev_ior dX0_take_96 ?_
  rw [hpp2]
  refine ev_iast 32 rfl rfl (hW 5 rfl) (by omega) dX0_take_97 ?_
  rw [← hZ3]
  refine ev_aload_n0 dX0_take_98 ?_
  refine gfX0_9 rfl (hW 0 rfl) dX0_take_99 ?_
  refine ev_iload_n2 dX0_take_102 ?_
  refine ev_dup2 dX0_take_103 ?_
  refine ev_iald 4 rfl rfl (hW 1 rfl) (by omega) dX0_take_104 ?_
  rw [hr3]
  refine ev_c1 dX0_take_105 ?_
  first | refine ev_iaddN dX0_take_106 ?_ | refine ev_iadd dX0_take_106 ?_
  refine ev_iast 4 rfl rfl (hW 1 rfl) (by omega) dX0_take_107 ?_
  rw [← hZ4]
  refine ev_aload_n0 dX0_take_108 ?_
  refine ev_iload_n2 dX0_take_109 ?_
  refine ev_iload5 dX0_take_110 ?_
  refine ev_iload4 dX0_take_112 ?_
  refine ev_cV3v okX0_learn lkX0_128 (Nat.le_of_ble_eq_true rfl) (Nat.le_of_ble_eq_true rfl) (hW 0 rfl) isO_0 (c_X0_learn hW (by assumption) (by omega) (by omega) (by omega)) dX0_take_114 ?_
  refine ev_aload_n0 dX0_take_117 ?_
  refine ev_iload_n2 dX0_take_118 ?_
  refine ev_iload5 dX0_take_119 ?_
  refine ev_cV2v okX0_answer lkX0_132 (Nat.le_of_ble_eq_true rfl) (Nat.le_of_ble_eq_true rfl) (hW 0 rfl) isO_0 (c_X0_answer hW (hn5 _) h2 h4 (he5 _) he4 hy (by omega) (hv5 _) hv9 (hL5 _) hL8) dX0_take_121 ?_
  refine ev_return rfl dX0_take_124 ?_
  exact ⟨rfl, rfl⟩
/-- a world becomes as another -/
def cpyW (S : St) (a b : Nat) : St := fun k => if 12 * a ≤ k ∧ k < 12 * a + 12 then S (12 * b + (k - 12 * a)) else S k
theorem isA_W {k : Nat} (h : k < 96) (h0 : ¬ k % 12 = 0) : isA k = true := by
  unfold isA
  have h1 : Nat.blt k 96 = true := by rw [Nat.blt, Nat.ble_eq]; omega
  have h2 : Nat.beq (k % 12) 0 = false := by
    cases e : Nat.beq (k % 12) 0 with
    | false => rfl
    | true => exact absurd (Nat.eq_of_beq_eq_true e) h0
  rw [h1, h2]
  rfl
theorem alen_W {k j : Nat} (h : k < 96) (hj : k % 12 = j) : alen k = wlen j := by
  subst hj
  unfold alen
  split <;> first | omega | rfl
def cpyJ (S : St) (a b j : Nat) : St := fun k => if 12 * a ≤ k ∧ k < 12 * a + j then S (12 * b + (k - 12 * a)) else S k
theorem cpy_step (S : St) {a b j : Nat} (h0 : 0 < j) (hj : j < 12) (hab : a ≠ b) : sr (cpyJ S a b j) (12 * a + j) (cpyJ S a b j (12 * b + j)) = cpyJ S a b (j + 1) := by
  have e : cpyJ S a b j (12 * b + j) = S (12 * b + j) := if_neg (by omega)
  rw [e]
  funext k
  unfold sr cpyJ
  by_cases h : k = 12 * a + j
  · rw [if_pos h, if_pos (by omega), h, Nat.add_sub_cancel_left]
  · rw [if_neg h]
    by_cases h2 : 12 * a ≤ k ∧ k < 12 * a + j
    · rw [if_pos h2, if_pos (by omega)]
    · rw [if_neg h2, if_neg (by omega)]
theorem c_X0_become {ks : List Nat} (hC : InC ks) {S : St} {a b : Nat} (ha : a < 8) (hb : b < 8) (hab : a ≠ b) : Cn ks mX0_become yX0_become [.inr (12 * a), .inr (12 * b)] S (Rv (cpyW S a b)) := by
  refine cnV okX0_become 0 rfl ?_
  show Ev ks mX0_become 0 [some (.inr (12 * a)), some (.inr (12 * b))] [] S _
  have ma : ∀ j, j < 12 → 12 * a + j ∈ ks := fun j hj => hC _ (by rw [Nat.blt, Nat.ble_eq]; omega)
  have mb : ∀ j, j < 12 → 12 * b + j ∈ ks := fun j hj => hC _ (by rw [Nat.blt, Nat.ble_eq]; omega)
  have sa : ∀ j, 0 < j → j < 12 → isA (12 * a + j) = true := fun j h0 hj => isA_W (by omega) (by omega)
  have sb : ∀ j, 0 < j → j < 12 → isA (12 * b + j) = true := fun j h0 hj => isA_W (by omega) (by omega)
  have la : ∀ j, j < 12 → alen (12 * a + j) = wlen j := fun j hj => alen_W (by omega) (by omega)
  have lb : ∀ j, j < 12 → alen (12 * b + j) = wlen j := fun j hj => alen_W (by omega) (by omega)
  refine ev_aload_n0 dX0_become_0 ?_
  refine ev_aload_n1 dX0_become_1 ?_
  refine gkX0_49 (by omega) (by omega) rfl (mb 0 (by omega)) dX0_become_2 ?_
  refine pkX0_49 (by omega) (by omega) rfl (ma 0 (by omega)) dX0_become_5 ?_
  refine ev_aload_n0 dX0_become_8 ?_
  refine ev_aload_n1 dX0_become_9 ?_
  refine gkX0_53 (by omega) (by omega) rfl (mb 0 (by omega)) dX0_become_10 ?_
  refine pkX0_53 (by omega) (by omega) rfl (ma 0 (by omega)) dX0_become_13 ?_
  refine ev_aload_n0 dX0_become_16 ?_
  refine ev_aload_n1 dX0_become_17 ?_
  refine gkX0_56 (by omega) (by omega) rfl (mb 0 (by omega)) dX0_become_18 ?_
  refine pkX0_56 (by omega) (by omega) rfl (ma 0 (by omega)) dX0_become_21 ?_
  refine ev_cong (S' := cpyJ S a b 1) (fun k hk i hi => ?_) ?_
  · have hbn : ¬ 12 * b = 12 * a := by omega
    unfold cpyJ
    by_cases h : 12 * a ≤ k ∧ k < 12 * a + 1
    · obtain rfl : k = 12 * a := by omega
      rw [if_pos h, Nat.sub_self, Nat.add_zero]
      have hi : i < 3 := by
        unfold wid at hi
        have h1 : isA (12 * a) = false := by
          have h2 := ct_W (g := (fun _ => 0, (fun _ => 0, fun _ _ => 0), 0, 0, 0)) (r := fun _ => 0) (k := 12 * a) (by omega) (by omega)
          cases h3 : isA (12 * a) with
          | false => rfl
          | true => rw [ct_A h3] at h2; cases h2
        rw [h1] at hi
        have h5 : Nat.blt (12 * a) 96 = true := by rw [Nat.blt, Nat.ble_eq]; omega
        rw [h5] at hi
        exact hi
      unfold st
      rw [if_pos rfl, if_pos rfl, if_pos rfl, if_neg hbn, if_neg hbn]
      unfold upd
      rcases (show i = 0 ∨ i = 1 ∨ i = 2 by omega) with rfl | rfl | rfl <;> simp
    · have hka : ¬ k = 12 * a := by omega
      unfold st
      rw [if_neg h, if_neg hka, if_neg hka, if_neg hka]
  refine ev_aload_n1 dX0_become_24 ?_
  refine gkX0_9 (by omega) (by omega) rfl (mb 0 (by omega)) dX0_become_25 ?_
  refine ev_c0 dX0_become_28 ?_
  refine ev_aload_n0 dX0_become_29 ?_
  refine gkX0_9 (by omega) (by omega) rfl (ma 0 (by omega)) dX0_become_30 ?_
  refine ev_c0 dX0_become_33 ?_
  refine ev_c4 dX0_become_34 ?_
  refine ev_copy 4 (lb 1 (by omega)) (la 1 (by omega)) (sb 1 (by omega) (by omega)) (sa 1 (by omega) (by omega)) (mb 1 (by omega)) (ma 1 (by omega)) lkX0_65 kp_n kp_s kp_i (by decide) (Nat.le_of_ble_eq_true rfl) dX0_become_35 ?_
  rw [cpy_step S (by omega : 0 < 1) (by omega) hab]
  refine ev_aload_n1 dX0_become_38 ?_
  refine gkX0_15 (by omega) (by omega) rfl (mb 0 (by omega)) dX0_become_39 ?_
  refine ev_c0 dX0_become_42 ?_
  refine ev_aload_n0 dX0_become_43 ?_
  refine gkX0_15 (by omega) (by omega) rfl (ma 0 (by omega)) dX0_become_44 ?_
  refine ev_c0 dX0_become_47 ?_
  refine ev_bipush (nI 32) kb_32 dX0_become_48 ?_
  refine ev_copy 32 (lb 2 (by omega)) (la 2 (by omega)) (sb 2 (by omega) (by omega)) (sa 2 (by omega) (by omega)) (mb 2 (by omega)) (ma 2 (by omega)) lkX0_65 kp_n kp_s kp_i (by decide) (Nat.le_of_ble_eq_true rfl) dX0_become_50 ?_
  rw [cpy_step S (by omega : 0 < 2) (by omega) hab]
  refine ev_aload_n1 dX0_become_53 ?_
  refine gkX0_18 (by omega) (by omega) rfl (mb 0 (by omega)) dX0_become_54 ?_
  refine ev_c0 dX0_become_57 ?_
  refine ev_aload_n0 dX0_become_58 ?_
  refine gkX0_18 (by omega) (by omega) rfl (ma 0 (by omega)) dX0_become_59 ?_
  refine ev_c0 dX0_become_62 ?_
  refine ev_bipush (nI 32) kb_32 dX0_become_63 ?_
  refine ev_copy 32 (lb 3 (by omega)) (la 3 (by omega)) (sb 3 (by omega) (by omega)) (sa 3 (by omega) (by omega)) (mb 3 (by omega)) (ma 3 (by omega)) lkX0_65 kp_n kp_s kp_i (by decide) (Nat.le_of_ble_eq_true rfl) dX0_become_65 ?_
  rw [cpy_step S (by omega : 0 < 3) (by omega) hab]
  refine ev_aload_n1 dX0_become_68 ?_
  refine gkX0_21 (by omega) (by omega) rfl (mb 0 (by omega)) dX0_become_69 ?_
  refine ev_c0 dX0_become_72 ?_
  refine ev_aload_n0 dX0_become_73 ?_
  refine gkX0_21 (by omega) (by omega) rfl (ma 0 (by omega)) dX0_become_74 ?_
  refine ev_c0 dX0_become_77 ?_
  refine ev_bipush (nI 32) kb_32 dX0_become_78 ?_
  refine ev_copy 32 (lb 4 (by omega)) (la 4 (by omega)) (sb 4 (by omega) (by omega)) (sa 4 (by omega) (by omega)) (mb 4 (by omega)) (ma 4 (by omega)) lkX0_65 kp_n kp_s kp_i (by decide) (Nat.le_of_ble_eq_true rfl) dX0_become_80 ?_
  rw [cpy_step S (by omega : 0 < 4) (by omega) hab]
  refine ev_aload_n1 dX0_become_83 ?_
  refine gkX0_24 (by omega) (by omega) rfl (mb 0 (by omega)) dX0_become_84 ?_
  refine ev_c0 dX0_become_87 ?_
  refine ev_aload_n0 dX0_become_88 ?_
  refine gkX0_24 (by omega) (by omega) rfl (ma 0 (by omega)) dX0_become_89 ?_
  refine ev_c0 dX0_become_92 ?_
  refine ev_bipush (nI 32) kb_32 dX0_become_93 ?_
  refine ev_copy 32 (lb 5 (by omega)) (la 5 (by omega)) (sb 5 (by omega) (by omega)) (sa 5 (by omega) (by omega)) (mb 5 (by omega)) (ma 5 (by omega)) lkX0_65 kp_n kp_s kp_i (by decide) (Nat.le_of_ble_eq_true rfl) dX0_become_95 ?_
  rw [cpy_step S (by omega : 0 < 5) (by omega) hab]
  refine ev_aload_n1 dX0_become_98 ?_
  refine gkX0_27 (by omega) (by omega) rfl (mb 0 (by omega)) dX0_become_99 ?_
  refine ev_c0 dX0_become_102 ?_
  refine ev_aload_n0 dX0_become_103 ?_
  refine gkX0_27 (by omega) (by omega) rfl (ma 0 (by omega)) dX0_become_104 ?_
  refine ev_c0 dX0_become_107 ?_
  refine ev_bipush (nI 20) kb_20 dX0_become_108 ?_
  refine ev_copy 20 (lb 6 (by omega)) (la 6 (by omega)) (sb 6 (by omega) (by omega)) (sa 6 (by omega) (by omega)) (mb 6 (by omega)) (ma 6 (by omega)) lkX0_65 kp_n kp_s kp_i (by decide) (Nat.le_of_ble_eq_true rfl) dX0_become_110 ?_
  rw [cpy_step S (by omega : 0 < 6) (by omega) hab]
  refine ev_aload_n1 dX0_become_113 ?_
  refine gkX0_30 (by omega) (by omega) rfl (mb 0 (by omega)) dX0_become_114 ?_
  refine ev_c0 dX0_become_117 ?_
  refine ev_aload_n0 dX0_become_118 ?_
  refine gkX0_30 (by omega) (by omega) rfl (ma 0 (by omega)) dX0_become_119 ?_
  refine ev_c0 dX0_become_122 ?_
  refine ev_sipush (nI 160) kh_160 dX0_become_123 ?_
  refine ev_copy 160 (lb 7 (by omega)) (la 7 (by omega)) (sb 7 (by omega) (by omega)) (sa 7 (by omega) (by omega)) (mb 7 (by omega)) (ma 7 (by omega)) lkX0_65 kp_n kp_s kp_i (by decide) (Nat.le_of_ble_eq_true rfl) dX0_become_126 ?_
  rw [cpy_step S (by omega : 0 < 7) (by omega) hab]
  refine ev_aload_n1 dX0_become_129 ?_
  refine gkX0_33 (by omega) (by omega) rfl (mb 0 (by omega)) dX0_become_130 ?_
  refine ev_c0 dX0_become_133 ?_
  refine ev_aload_n0 dX0_become_134 ?_
  refine gkX0_33 (by omega) (by omega) rfl (ma 0 (by omega)) dX0_become_135 ?_
  refine ev_c0 dX0_become_138 ?_
  refine ev_sipush (nI 160) kh_160 dX0_become_139 ?_
  refine ev_copy 160 (lb 8 (by omega)) (la 8 (by omega)) (sb 8 (by omega) (by omega)) (sa 8 (by omega) (by omega)) (mb 8 (by omega)) (ma 8 (by omega)) lkX0_65 kp_n kp_s kp_i (by decide) (Nat.le_of_ble_eq_true rfl) dX0_become_142 ?_
  rw [cpy_step S (by omega : 0 < 8) (by omega) hab]
  refine ev_aload_n1 dX0_become_145 ?_
  refine gkX0_36 (by omega) (by omega) rfl (mb 0 (by omega)) dX0_become_146 ?_
  refine ev_c0 dX0_become_149 ?_
  refine ev_aload_n0 dX0_become_150 ?_
  refine gkX0_36 (by omega) (by omega) rfl (ma 0 (by omega)) dX0_become_151 ?_
  refine ev_c0 dX0_become_154 ?_
  refine ev_sipush (nI 160) kh_160 dX0_become_155 ?_
  refine ev_copy 160 (lb 9 (by omega)) (la 9 (by omega)) (sb 9 (by omega) (by omega)) (sa 9 (by omega) (by omega)) (mb 9 (by omega)) (ma 9 (by omega)) lkX0_65 kp_n kp_s kp_i (by decide) (Nat.le_of_ble_eq_true rfl) dX0_become_158 ?_
  rw [cpy_step S (by omega : 0 < 9) (by omega) hab]
  refine ev_aload_n1 dX0_become_161 ?_
  refine gkX0_39 (by omega) (by omega) rfl (mb 0 (by omega)) dX0_become_162 ?_
  refine ev_c0 dX0_become_165 ?_
  refine ev_aload_n0 dX0_become_166 ?_
  refine gkX0_39 (by omega) (by omega) rfl (ma 0 (by omega)) dX0_become_167 ?_
  refine ev_c0 dX0_become_170 ?_
  refine ev_sipush (nI 640) kh_640 dX0_become_171 ?_
  refine ev_copy 640 (lb 10 (by omega)) (la 10 (by omega)) (sb 10 (by omega) (by omega)) (sa 10 (by omega) (by omega)) (mb 10 (by omega)) (ma 10 (by omega)) lkX0_65 kp_n kp_s kp_i (by decide) (Nat.le_of_ble_eq_true rfl) dX0_become_174 ?_
  rw [cpy_step S (by omega : 0 < 10) (by omega) hab]
  refine ev_aload_n1 dX0_become_177 ?_
  refine gkX0_42 (by omega) (by omega) rfl (mb 0 (by omega)) dX0_become_178 ?_
  refine ev_c0 dX0_become_181 ?_
  refine ev_aload_n0 dX0_become_182 ?_
  refine gkX0_42 (by omega) (by omega) rfl (ma 0 (by omega)) dX0_become_183 ?_
  refine ev_c0 dX0_become_186 ?_
  refine ev_bipush (nI 16) kb_16 dX0_become_187 ?_
  refine ev_copy 16 (lb 11 (by omega)) (la 11 (by omega)) (sb 11 (by omega) (by omega)) (sa 11 (by omega) (by omega)) (mb 11 (by omega)) (ma 11 (by omega)) lkX0_65 kp_n kp_s kp_i (by decide) (Nat.le_of_ble_eq_true rfl) dX0_become_189 ?_
  rw [cpy_step S (by omega : 0 < 11) (by omega) hab]
  exact ev_return rfl dX0_become_192 ⟨rfl, rfl⟩
end
section
/-- what can be undone, one more of them -/
def nrow (S : St) (u : Nat) : Nat → Int32 := if u = 5 then seg (S 104) (fun i => if i < 5052 then S 105 (i + 1263) else S 105 i) 5052 1263 else seg (S 104) (S 105) (1263 * u) 1263
def nu (u : Nat) : Nat := if u = 5 then 5 else u + 1
def noteS (S : St) (u : Nat) : St := st (sr S 105 (nrow S u)) 103 2 (nI (nu u))
theorem c_X2_note {ks : List Nat} (hM : InM ks) {S : St} {u : Nat} (hu : S 103 2 = nI u) (hu5 : u ≤ 5) : Cn ks mX2_note yX2_note [.inr 103] S (Rv (noteS S u)) := by
  refine cnV okX2_note 1 rfl ?_
  show Ev ks mX2_note 0 [some (.inr 103), none] [] S _
  have loop2 : ∀ (Z : St) (w : Nat), Z 103 2 = nI w → w < 5 → (∀ v, v = st (sr Z 105 (seg (Z 104) (Z 105) (1263 * w) 1263)) 103 2 (nI (w + 1)) → v = noteS S u) → ∀ f k, k + f = 1263 → Ev ks mX2_note 51 [some (.inr 103), some (.inl (nI k))] [] (sr Z 105 (seg (Z 104) (Z 105) (1263 * w) k)) (Rv (noteS S u)) := by
    intro Z w hw hw5 hfin f
    have hw' : ∀ R, sr Z 105 R 103 2 = nI w := fun R => hw
    have h104 : ∀ R i, sr Z 105 R 104 i = Z 104 i := fun R i => rfl
    induction f with
    | zero =>
      intro k hk
      obtain rfl : k = 1263 := by omega
      refine ev_iload_n1 dX2_note_51 ?_
      refine ev_sipush (nI 1263) kh_1263 dX2_note_52 ?_
      first | refine ev_icmp_geN 85 (by omega) (by omega) (by decide) dX2_note_55 (fun h55 => ?_) (fun h55 => by exfalso; omega) | refine ev_icmp_ge 85 (by decide) dX2_note_55 (fun h55 => ?_) (fun h55 => by exfalso; omega)
      refine ev_aload_n0 dX2_note_85 ?_
      refine ev_dup dX2_note_86 ?_
      refine gfX2_68 rfl (hM 103 rfl) dX2_note_87 ?_
      rw [hw']
      refine ev_c1 dX2_note_90 ?_
      first | refine ev_iaddN dX2_note_91 ?_ | refine ev_iadd dX2_note_91 ?_
      refine pfX2_68 rfl (hM 103 rfl) dX2_note_92 ?_
      refine ev_return rfl dX2_note_95 ?_
      exact ⟨rfl, hfin _ rfl⟩
    | succ f ih =>
      intro k hk
      refine ev_iload_n1 dX2_note_51 ?_
      refine ev_sipush (nI 1263) kh_1263 dX2_note_52 ?_
      first | refine ev_icmp_geN 85 (by omega) (by omega) (by decide) dX2_note_55 (fun h55 => by exfalso; omega) (fun h55 => ?_) | refine ev_icmp_ge 85 (by decide) dX2_note_55 (fun h55 => by exfalso; omega) (fun h55 => ?_)
      refine ev_aload_n0 dX2_note_58 ?_
      refine gfX2_13 rfl (hM 103 rfl) dX2_note_59 ?_
      refine ev_sipush (nI 1263) kh_1263 dX2_note_62 ?_
      refine ev_aload_n0 dX2_note_65 ?_
      refine gfX2_68 rfl (hM 103 rfl) dX2_note_66 ?_
      rw [hw']
      first | refine ev_imulN dX2_note_69 ?_ | refine ev_imul dX2_note_69 ?_
      refine ev_iload_n1 dX2_note_70 ?_
      first | refine ev_iaddN dX2_note_71 ?_ | refine ev_iadd dX2_note_71 ?_
      refine ev_aload_n0 dX2_note_72 ?_
      refine gfX2_7 rfl (hM 103 rfl) dX2_note_73 ?_
      refine ev_iload_n1 dX2_note_76 ?_
      refine ev_iald 1263 rfl rfl (hM 104 rfl) (by omega) dX2_note_77 ?_
      rw [h104]
      refine ev_iast 6315 rfl rfl (hM 105 rfl) (by omega) dX2_note_78 ?_
      refine ev_iinc1 dX2_note_79 ?_
      refine ev_goto 51 (by decide) dX2_note_82 ?_
      rw [st_sr, seg_s _ _ _ _ rfl]
      exact ih (k + 1) (by omega)
  by_cases h5 : u = 5
  · subst h5
    have loop : ∀ f k, k + f = 5052 → Ev ks mX2_note 10 [some (.inr 103), some (.inl (nI k))] [] (sr S 105 (fun i => if i < k then S 105 (i + 1263) else S 105 i)) (Rv (noteS S 5)) := by
      intro f
      induction f with
      | zero =>
        intro k hk
        obtain rfl : k = 5052 := by omega
        have hu' : ∀ R, sr S 105 R 103 2 = nI 5 := fun R => hu
        refine ev_iload_n1 dX2_note_10 ?_
        refine ev_sipush (nI 5052) kh_5052 dX2_note_11 ?_
        first | refine ev_icmp_geN 39 (by omega) (by omega) (by decide) dX2_note_14 (fun h14 => ?_) (fun h14 => by exfalso; omega) | refine ev_icmp_ge 39 (by decide) dX2_note_14 (fun h14 => ?_) (fun h14 => by exfalso; omega)
        refine ev_aload_n0 dX2_note_39 ?_
        refine ev_dup dX2_note_40 ?_
        refine gfX2_68 rfl (hM 103 rfl) dX2_note_41 ?_
        rw [hu']
        refine ev_c1 dX2_note_44 ?_
        first | refine ev_isubN (by omega) dX2_note_45 ?_ | refine ev_isub dX2_note_45 ?_
        refine pfX2_68 rfl (hM 103 rfl) dX2_note_46 ?_
        refine ev_c0 dX2_note_49 ?_
        refine ev_istore_n1 dX2_note_50 ?_
        have h := loop2 (st (sr S 105 (fun i => if i < 5052 then S 105 (i + 1263) else S 105 i)) 103 2 (nI (5 - 1))) 4 rfl (by omega) (fun v hv => ?_) 1263 0 rfl
        · rw [seg_z, sr_self] at h
          exact h
        · rw [hv]
          unfold noteS
          rw [sr_st (by decide), st_st, sr_sr]
          rfl
      | succ f ih =>
        intro k hk
        have e1 : sr S 105 (fun i => if i < k then S 105 (i + 1263) else S 105 i) 105 (k + 1263) = S 105 (k + 1263) := by rw [sr_s, if_neg (by omega)]
        have e : upd (fun i => if i < k then S 105 (i + 1263) else S 105 i) k (S 105 (k + 1263)) = (fun i => if i < k + 1 then S 105 (i + 1263) else S 105 i) := by
          funext i
          unfold upd
          by_cases h : i = k
          · rw [if_pos h, if_pos (by omega), h]
          · rw [if_neg h]
            dsimp only
            by_cases h2 : i < k
            · rw [if_pos h2, if_pos (by omega)]
            · rw [if_neg h2, if_neg (by omega)]
        refine ev_iload_n1 dX2_note_10 ?_
        refine ev_sipush (nI 5052) kh_5052 dX2_note_11 ?_
        first | refine ev_icmp_geN 39 (by omega) (by omega) (by decide) dX2_note_14 (fun h14 => by exfalso; omega) (fun h14 => ?_) | refine ev_icmp_ge 39 (by decide) dX2_note_14 (fun h14 => by exfalso; omega) (fun h14 => ?_)
        refine ev_aload_n0 dX2_note_17 ?_
        refine gfX2_13 rfl (hM 103 rfl) dX2_note_18 ?_
        refine ev_iload_n1 dX2_note_21 ?_
        refine ev_aload_n0 dX2_note_22 ?_
        refine gfX2_13 rfl (hM 103 rfl) dX2_note_23 ?_
        refine ev_iload_n1 dX2_note_26 ?_
        refine ev_sipush (nI 1263) kh_1263 dX2_note_27 ?_
        first | refine ev_iaddN dX2_note_30 ?_ | refine ev_iadd dX2_note_30 ?_
        refine ev_iald 6315 rfl rfl (hM 105 rfl) (by omega) dX2_note_31 ?_
        rw [e1]
        refine ev_iast 6315 rfl rfl (hM 105 rfl) (by omega) dX2_note_32 ?_
        refine ev_iinc1 dX2_note_33 ?_
        refine ev_goto 10 (by decide) dX2_note_36 ?_
        rw [st_sr, e]
        exact ih (k + 1) (by omega)
    refine ev_aload_n0 dX2_note_0 ?_
    refine gfX2_68 rfl (hM 103 rfl) dX2_note_1 ?_
    rw [hu]
    refine ev_c5 dX2_note_4 ?_
    first | refine ev_icmp_neN 49 (by omega) (by omega) (by decide) dX2_note_5 (fun h5 => by exfalso; omega) (fun h5 => ?_) | refine ev_icmp_ne 49 (by decide) dX2_note_5 (fun h5 => by exfalso; omega) (fun h5 => ?_)
    refine ev_c0 dX2_note_8 ?_
    refine ev_istore_n1 dX2_note_9 ?_
    have h := loop 5052 0 rfl
    have e : sr S 105 (fun i => if i < 0 then S 105 (i + 1263) else S 105 i) = S := by
      have : (fun i => if i < 0 then S 105 (i + 1263) else S 105 i) = S 105 := by funext i; rw [if_neg (by omega)]
      rw [this, sr_self]
    rw [e] at h
    exact h
  · refine ev_aload_n0 dX2_note_0 ?_
    refine gfX2_68 rfl (hM 103 rfl) dX2_note_1 ?_
    rw [hu]
    refine ev_c5 dX2_note_4 ?_
    first | refine ev_icmp_neN 49 (by omega) (by omega) (by decide) dX2_note_5 (fun h5 => ?_) (fun h5 => by exfalso; omega) | refine ev_icmp_ne 49 (by decide) dX2_note_5 (fun h5 => ?_) (fun h5 => by exfalso; omega)
    refine ev_c0 dX2_note_49 ?_
    refine ev_istore_n1 dX2_note_50 ?_
    have h := loop2 S u hu (by omega) (fun v hv => ?_) 1263 0 rfl
    · rw [seg_z, sr_self] at h
      exact h
    · rw [hv]
      unfold noteS nrow nu
      rw [if_neg h5, if_neg h5]
/-- a letter is written in the reference's row -/
def wrM (m : Nat → Int32) (x y L : Nat) (c b cs : Int32) : Nat → Int32 :=
  upd (seg (fun k => if b = -9 then 0 else m (107 + 4 * x + k)) (upd (upd (upd m (143 + 7 * (8 * (4 * x + y) + L)) c) (143 + 7 * (8 * (4 * x + y) + L) + 1) b) (143 + 7 * (8 * (4 * x + y) + L) + 2) cs) (143 + 7 * (8 * (4 * x + y) + L) + 3) 4) (123 + (4 * x + y)) (nI (L + 1))
theorem c_X2_write {ks : List Nat} (hM : InM ks) {S : St} {x y L : Nat} {c b cs : Int32} (hx : x < 5) (hy : y < 4) (hxb : b = -9 ∨ x < 4) (hL : S 104 (123 + (4 * x + y)) = nI L) (hL8 : L < 8) : Cn ks mX2_write yX2_write [.inr 103, .inl (nI x), .inl (nI y), .inl c, .inl b, .inl cs] S (Rv (sr S 104 (wrM (S 104) x y L c b cs))) := by
  refine cnV okX2_write 2 rfl ?_
  show Ev ks mX2_write 0 [some (.inr 103), some (.inl (nI x)), some (.inl (nI y)), some (.inl c), some (.inl b), some (.inl cs), none, none] [] S _
  unfold wrM
  generalize ha : 143 + 7 * (8 * (4 * x + y) + L) = a
  have ha2 : 143 ≤ a ∧ a + 6 < 1263 := by omega
  generalize hB : upd (upd (upd (S 104) a c) (a + 1) b) (a + 2) cs = B
  have hBo : ∀ i, i < 143 → B i = S 104 i := fun i hi => by
    rw [← hB, upd_n (by omega), upd_n (by omega), upd_n (by omega)]
  have loop : ∀ f k, k + f = 4 → Ev ks mX2_write 46 [some (.inr 103), some (.inl (nI x)), some (.inl (nI y)), some (.inl c), some (.inl b), some (.inl cs), some (.inl (nI a)), some (.inl (nI k))] [] (sr S 104 (seg (fun k => if b = -9 then 0 else S 104 (107 + 4 * x + k)) B (a + 3) k)) (Rv (sr S 104 (upd (seg (fun k => if b = -9 then 0 else S 104 (107 + 4 * x + k)) B (a + 3) 4) (123 + (4 * x + y)) (nI (L + 1))))) := by
    intro f
    induction f with
    | zero =>
      intro k hk
      obtain rfl : k = 4 := by omega
      have h6 : sr S 104 (seg (fun k => if b = -9 then 0 else S 104 (107 + 4 * x + k)) B (a + 3) 4) 104 (123 + (4 * x + y)) = nI L := by rw [sr_s, seg_o (by omega), hBo _ (by omega)]; exact hL
      refine ev_iload7 dX2_write_46 ?_
      refine ev_c4 dX2_write_48 ?_
      first | refine ev_icmp_geN 95 (by omega) (by omega) (by decide) dX2_write_49 (fun h49 => ?_) (fun h49 => by exfalso; omega) | refine ev_icmp_ge 95 (by decide) dX2_write_49 (fun h49 => ?_) (fun h49 => by exfalso; omega)
      refine ev_aload_n0 dX2_write_95 ?_
      refine gfX2_7 rfl (hM 103 rfl) dX2_write_96 ?_
      refine ev_bipush (nI 123) kb_123 dX2_write_99 ?_
      refine ev_iload_n1 dX2_write_101 ?_
      refine ev_iload_n2 dX2_write_102 ?_
      refine ev_cS2f okX2_way lkX2_55 (Nat.le_of_ble_eq_true rfl) (Nat.le_of_ble_eq_true rfl) c_X2_way dX2_write_103 ?_
      first | refine ev_iaddN dX2_write_106 ?_ | refine ev_iadd dX2_write_106 ?_
      refine ev_dup2 dX2_write_107 ?_
      refine ev_iald 1263 rfl rfl (hM 104 rfl) (by omega) dX2_write_108 ?_
      rw [h6]
      refine ev_c1 dX2_write_109 ?_
      first | refine ev_iaddN dX2_write_110 ?_ | refine ev_iadd dX2_write_110 ?_
      refine ev_iast 1263 rfl rfl (hM 104 rfl) (by omega) dX2_write_111 ?_
      refine ev_return rfl dX2_write_112 ?_
      rw [st_sr]
      exact ⟨rfl, rfl⟩
    | succ f ih =>
      intro k hk
      have h6 : x < 4 → sr S 104 (seg (fun k => if b = -9 then 0 else S 104 (107 + 4 * x + k)) B (a + 3) k) 104 (107 + 4 * x + k) = S 104 (107 + 4 * x + k) := fun h => by rw [sr_s, seg_o (by omega), hBo _ (by omega)]
      refine ev_iload7 dX2_write_46 ?_
      refine ev_c4 dX2_write_48 ?_
      first | refine ev_icmp_geN 95 (by omega) (by omega) (by decide) dX2_write_49 (fun h49 => by exfalso; omega) (fun h49 => ?_) | refine ev_icmp_ge 95 (by decide) dX2_write_49 (fun h49 => by exfalso; omega) (fun h49 => ?_)
      refine ev_aload_n0 dX2_write_52 ?_
      refine gfX2_7 rfl (hM 103 rfl) dX2_write_53 ?_
      refine ev_iload6 dX2_write_56 ?_
      refine ev_c3 dX2_write_58 ?_
      first | refine ev_iaddN dX2_write_59 ?_ | refine ev_iadd dX2_write_59 ?_
      refine ev_iload7 dX2_write_60 ?_
      first | refine ev_iaddN dX2_write_62 ?_ | refine ev_iadd dX2_write_62 ?_
      refine ev_iload4 dX2_write_63 ?_
      refine ev_bipush (-9 : Int32) kb_m9 dX2_write_65 ?_
      first | refine ev_icmp_ne 74 (by decide) dX2_write_67 (fun h67 => ?_) (fun h67 => ?_)
      · refine ev_aload_n0 dX2_write_74 ?_
        refine gfX2_7 rfl (hM 103 rfl) dX2_write_75 ?_
        refine ev_bipush (nI 107) kb_107 dX2_write_78 ?_
        refine ev_c4 dX2_write_80 ?_
        refine ev_iload_n1 dX2_write_81 ?_
        first | refine ev_imulN dX2_write_82 ?_ | refine ev_imul dX2_write_82 ?_
        first | refine ev_iaddN dX2_write_83 ?_ | refine ev_iadd dX2_write_83 ?_
        refine ev_iload7 dX2_write_84 ?_
        first | refine ev_iaddN dX2_write_86 ?_ | refine ev_iadd dX2_write_86 ?_
        refine ev_iald 1263 rfl rfl (hM 104 rfl) (by rcases hxb with h | h; exact absurd h h67; omega) dX2_write_87 ?_
        first | rw [h6 (hxb.resolve_left h67)] | skip
        refine ev_iast 1263 rfl rfl (hM 104 rfl) (by omega) dX2_write_88 ?_
        refine ev_iinc7 dX2_write_89 ?_
        refine ev_goto 46 (by decide) dX2_write_92 ?_
        rw [st_sr, seg_s _ _ _ _ (by first | (rw [if_neg h67]; done) | (rw [if_pos h67, nI_0]; done))]
        exact ih (k + 1) (by omega)
      · refine ev_c0 dX2_write_70 ?_
        refine ev_goto 88 (by decide) dX2_write_71 ?_
        first | rw [h6 (hxb.resolve_left h67)] | skip
        refine ev_iast 1263 rfl rfl (hM 104 rfl) (by omega) dX2_write_88 ?_
        refine ev_iinc7 dX2_write_89 ?_
        refine ev_goto 46 (by decide) dX2_write_92 ?_
        rw [st_sr, seg_s _ _ _ _ (by first | (rw [if_neg h67]; done) | (rw [if_pos h67, nI_0]; done))]
        exact ih (k + 1) (by omega)
  refine ev_iload_n1 dX2_write_0 ?_
  refine ev_iload_n2 dX2_write_1 ?_
  refine ev_aload_n0 dX2_write_2 ?_
  refine ev_iload_n1 dX2_write_3 ?_
  refine ev_iload_n2 dX2_write_4 ?_
  refine ev_cV2f okX2_letters lkX2_62 (Nat.le_of_ble_eq_true rfl) (Nat.le_of_ble_eq_true rfl) (hM 103 rfl) isO_103 (c_X2_letters hM (by omega) (by omega)) dX2_write_5 ?_
  rw [hL]
  refine ev_cS3f okX2_letterAt lkX2_65 (Nat.le_of_ble_eq_true rfl) (Nat.le_of_ble_eq_true rfl) c_X2_letterAt dX2_write_8 ?_
  rw [ha]
  refine ev_istore6 dX2_write_11 ?_
  refine ev_aload_n0 dX2_write_13 ?_
  refine gfX2_7 rfl (hM 103 rfl) dX2_write_14 ?_
  refine ev_iload6 dX2_write_17 ?_
  refine ev_iload_n3 dX2_write_19 ?_
  refine ev_iast 1263 rfl rfl (hM 104 rfl) (by omega) dX2_write_20 ?_
  rw [st_n]
  refine ev_aload_n0 dX2_write_21 ?_
  refine gfX2_7 rfl (hM 103 rfl) dX2_write_22 ?_
  refine ev_iload6 dX2_write_25 ?_
  refine ev_c1 dX2_write_27 ?_
  first | refine ev_iaddN dX2_write_28 ?_ | refine ev_iadd dX2_write_28 ?_
  refine ev_iload4 dX2_write_29 ?_
  refine ev_iast 1263 rfl rfl (hM 104 rfl) (by omega) dX2_write_31 ?_
  rw [st_sr]
  refine ev_aload_n0 dX2_write_32 ?_
  refine gfX2_7 rfl (hM 103 rfl) dX2_write_33 ?_
  refine ev_iload6 dX2_write_36 ?_
  refine ev_c2 dX2_write_38 ?_
  first | refine ev_iaddN dX2_write_39 ?_ | refine ev_iadd dX2_write_39 ?_
  refine ev_iload5 dX2_write_40 ?_
  refine ev_iast 1263 rfl rfl (hM 104 rfl) (by omega) dX2_write_42 ?_
  rw [st_sr, hB]
  refine ev_c0 dX2_write_43 ?_
  refine ev_istore7 dX2_write_44 ?_
  have h := loop 4 0 rfl
  rw [seg_z] at h
  exact h
def unsM (m : Nat → Int32) (e y : Nat) : Int32 := mk (fun c => bt (m (103 + y)) c && decide (pcn (kni (m (107 + 4 * y + c / 8)) c) < e)) 32
def ansM (m : Nat → Int32) (n e y code v : Nat) : Nat → Int32 := if v % 3 = 0 ∨ v % n = y ∨ tn (m (123 + (4 * y + v % n))) = 8 then m else wrM m y (v % n) (tn (m (123 + (4 * y + v % n)))) (nI (v % 100)) (nI code) (unsM m e y)
theorem c_X2_answer {ks : List Nat} (hM : InM ks) {S : St} {n e y code v L : Nat} (hn : S 104 0 = nI n) (h2 : 2 ≤ n) (h4 : n ≤ 4) (he : S 104 1 = nI e) (he4 : e ≤ 4) (hy : y < n) (hc : code < 32) (hv9 : v < 997) (hL : S 104 (123 + (4 * y + v % n)) = nI L) (hL8 : L ≤ 8) : Cn ks mX2_answer yX2_answer [.inr 103, .inl (nI y), .inl (nI v), .inl (nI code)] S (Rv (sr S 104 (ansM (S 104) n e y code v))) := by
  refine cnV okX2_answer 3 rfl ?_
  show Ev ks mX2_answer 0 [some (.inr 103), some (.inl (nI y)), some (.inl (nI v)), some (.inl (nI code)), none, none, none] [] S _
  have hmod : v % n < n := Nat.mod_lt _ (by omega)
  have ht : tn (S 104 (123 + (4 * y + v % n))) = L := by rw [hL]; exact tn_nI (by omega)
  unfold ansM
  rw [ht]
  unfold unsM
  generalize hF : (fun c => bt (S 104 (103 + y)) c && decide (pcn (kni (S 104 (107 + 4 * y + c / 8)) c) < e)) = F
  have hFv : ∀ c, F c = (bt (S 104 (103 + y)) c && decide (pcn (kni (S 104 (107 + 4 * y + c / 8)) c) < e)) := fun c => by rw [← hF]
  have loop : ¬ (v % 3 = 0 ∨ v % n = y ∨ L = 8) → ∀ f c, c + f = 32 → Ev ks mX2_answer 39 [some (.inr 103), some (.inl (nI y)), some (.inl (nI v)), some (.inl (nI code)), some (.inl (nI (v % n))), some (.inl (mk F c)), some (.inl (nI c))] [] S (Rv (sr S 104 (if v % 3 = 0 ∨ v % n = y ∨ L = 8 then S 104 else wrM (S 104) y (v % n) L (nI (v % 100)) (nI code) (mk F 32)))) := by
    intro hno f
    rw [if_neg hno]
    induction f with
    | zero =>
      intro c hc
      obtain rfl : c = 32 := by omega
      refine ev_iload6 dX2_answer_39 ?_
      refine ev_bipush (nI 32) kb_32 dX2_answer_41 ?_
      first | refine ev_icmp_geN 101 (by omega) (by omega) (by decide) dX2_answer_43 (fun h43 => ?_) (fun h43 => by exfalso; omega) | refine ev_icmp_ge 101 (by decide) dX2_answer_43 (fun h43 => ?_) (fun h43 => by exfalso; omega)
      refine ev_aload_n0 dX2_answer_101 ?_
      refine ev_iload_n1 dX2_answer_102 ?_
      refine ev_iload4 dX2_answer_103 ?_
      refine ev_iload_n2 dX2_answer_105 ?_
      refine ev_bipush (nI 100) kb_100 dX2_answer_106 ?_
      refine ev_iremN (by omega) (by omega) (by omega) dX2_answer_108 ?_
      refine ev_iload_n3 dX2_answer_109 ?_
      refine ev_iload5 dX2_answer_110 ?_
      refine ev_cV5v okX2_write lkX2_86 (Nat.le_of_ble_eq_true rfl) (Nat.le_of_ble_eq_true rfl) (hM 103 rfl) isO_103 (c_X2_write hM (by omega) (by omega) (Or.inr (by omega)) hL (by omega)) dX2_answer_112 ?_
      refine ev_return rfl dX2_answer_115 ?_
      exact ⟨rfl, rfl⟩
    | succ f ih =>
      intro c hc
      have hs : mk F (c + 1) = mk F c ||| (bif F c then (1 : Int32) <<< (nI c &&& 31) else 0) := rfl
      have hle := pcn_le (kni (S 104 (107 + 4 * y + c / 8)) c)
      rw [hFv] at hs
      refine ev_iload6 dX2_answer_39 ?_
      refine ev_bipush (nI 32) kb_32 dX2_answer_41 ?_
      first | refine ev_icmp_geN 101 (by omega) (by omega) (by decide) dX2_answer_43 (fun h43 => by exfalso; omega) (fun h43 => ?_) | refine ev_icmp_ge 101 (by decide) dX2_answer_43 (fun h43 => by exfalso; omega) (fun h43 => ?_)
      refine ev_iload5 dX2_answer_46 ?_
      refine ev_aload_n0 dX2_answer_48 ?_
      refine gfX2_7 rfl (hM 103 rfl) dX2_answer_49 ?_
      refine ev_bipush (nI 103) kb_103 dX2_answer_52 ?_
      refine ev_iload_n1 dX2_answer_54 ?_
      first | refine ev_iaddN dX2_answer_55 ?_ | refine ev_iadd dX2_answer_55 ?_
      refine ev_iald 1263 rfl rfl (hM 104 rfl) (by omega) dX2_answer_56 ?_
      refine ev_iload6 dX2_answer_57 ?_
      refine ev_cS2f okX2_has lkX2_39 (Nat.le_of_ble_eq_true rfl) (Nat.le_of_ble_eq_true rfl) (c_X2_has (by omega)) dX2_answer_59 ?_
      first | refine ev_if_eqB 91 (by decide) dX2_answer_62 (fun h62 => ?_) (fun h62 => ?_)
      · refine ev_c0 dX2_answer_91 ?_
        refine ev_ior dX2_answer_92 ?_
        refine ev_istore5 dX2_answer_93 ?_
        refine ev_iinc6 dX2_answer_95 ?_
        refine ev_goto 39 (by decide) dX2_answer_98 ?_
        rw [h62] at hs
        first | rw [decide_eq_true h81] at hs | rw [decide_eq_false (Nat.not_lt.mpr h81)] at hs | skip
        simp only [Bool.true_and, Bool.false_and, cond_true, cond_false] at hs
        first | rw [nI_lit1, ← hs] | rw [nI_0, ← hs]
        exact ih (c + 1) (by omega)
      · refine ev_aload_n0 dX2_answer_65 ?_
        refine ev_iload_n1 dX2_answer_66 ?_
        refine ev_iload6 dX2_answer_67 ?_
        refine ev_cV2f okX2_knownBy lkX2_106 (Nat.le_of_ble_eq_true rfl) (Nat.le_of_ble_eq_true rfl) (hM 103 rfl) isO_103 (c_X2_knownBy hM (by omega) (by omega)) dX2_answer_69 ?_
        refine ev_cS1f okX2_bits lkX2_112 (Nat.le_of_ble_eq_true rfl) (Nat.le_of_ble_eq_true rfl) c_X2_bits dX2_answer_72 ?_
        refine ev_aload_n0 dX2_answer_75 ?_
        refine gfX2_7 rfl (hM 103 rfl) dX2_answer_76 ?_
        refine ev_c1 dX2_answer_79 ?_
        refine ev_iald 1263 rfl rfl (hM 104 rfl) (by omega) dX2_answer_80 ?_
        rw [he]
        first | refine ev_icmp_geN 91 (by omega) (by omega) (by decide) dX2_answer_81 (fun h81 => ?_) (fun h81 => ?_) | refine ev_icmp_ge 91 (by decide) dX2_answer_81 (fun h81 => ?_) (fun h81 => ?_)
        · refine ev_c0 dX2_answer_91 ?_
          refine ev_ior dX2_answer_92 ?_
          refine ev_istore5 dX2_answer_93 ?_
          refine ev_iinc6 dX2_answer_95 ?_
          refine ev_goto 39 (by decide) dX2_answer_98 ?_
          rw [h62] at hs
          first | rw [decide_eq_true h81] at hs | rw [decide_eq_false (Nat.not_lt.mpr h81)] at hs | skip
          simp only [Bool.true_and, Bool.false_and, cond_true, cond_false] at hs
          first | rw [nI_lit1, ← hs] | rw [nI_0, ← hs]
          exact ih (c + 1) (by omega)
        · refine ev_c1 dX2_answer_84 ?_
          refine ev_iload6 dX2_answer_85 ?_
          refine ev_ishl dX2_answer_87 ?_
          refine ev_goto 92 (by decide) dX2_answer_88 ?_
          refine ev_ior dX2_answer_92 ?_
          refine ev_istore5 dX2_answer_93 ?_
          refine ev_iinc6 dX2_answer_95 ?_
          refine ev_goto 39 (by decide) dX2_answer_98 ?_
          rw [h62] at hs
          first | rw [decide_eq_true h81] at hs | rw [decide_eq_false (Nat.not_lt.mpr h81)] at hs | skip
          simp only [Bool.true_and, Bool.false_and, cond_true, cond_false] at hs
          first | rw [nI_lit1, ← hs] | rw [nI_0, ← hs]
          exact ih (c + 1) (by omega)
  refine ev_iload_n2 dX2_answer_0 ?_
  refine ev_aload_n0 dX2_answer_1 ?_
  refine ev_cV0f okX2_many lkX2_82 (Nat.le_of_ble_eq_true rfl) (Nat.le_of_ble_eq_true rfl) (hM 103 rfl) isO_103 (c_X2_many hM hn) dX2_answer_2 ?_
  refine ev_iremN (by omega) (by omega) (by omega) dX2_answer_5 ?_
  refine ev_istore4 dX2_answer_6 ?_
  refine ev_iload_n2 dX2_answer_8 ?_
  refine ev_c3 dX2_answer_9 ?_
  refine ev_iremN (by omega) (by omega) (by omega) dX2_answer_10 ?_
  first | refine ev_if_eqN 32 (by omega) (by decide) dX2_answer_11 (fun h11 => ?_) (fun h11 => ?_) | refine ev_if_eq 32 (by decide) dX2_answer_11 (fun h11 => ?_) (fun h11 => ?_)
  · refine ev_return rfl dX2_answer_32 ?_
    refine ⟨rfl, ?_⟩
    rw [if_pos (by omega), sr_self]
  · refine ev_iload4 dX2_answer_14 ?_
    refine ev_iload_n1 dX2_answer_16 ?_
    first | refine ev_icmp_eqN 32 (by omega) (by omega) (by decide) dX2_answer_17 (fun h17 => ?_) (fun h17 => ?_) | refine ev_icmp_eq 32 (by decide) dX2_answer_17 (fun h17 => ?_) (fun h17 => ?_)
    · refine ev_return rfl dX2_answer_32 ?_
      refine ⟨rfl, ?_⟩
      rw [if_pos (by omega), sr_self]
    · refine ev_aload_n0 dX2_answer_20 ?_
      refine ev_iload_n1 dX2_answer_21 ?_
      refine ev_iload4 dX2_answer_22 ?_
      refine ev_cV2f okX2_letters lkX2_62 (Nat.le_of_ble_eq_true rfl) (Nat.le_of_ble_eq_true rfl) (hM 103 rfl) isO_103 (c_X2_letters hM (by omega) (by omega)) dX2_answer_24 ?_
      rw [hL]
      refine ev_bipush (nI 8) kb_8 dX2_answer_27 ?_
      first | refine ev_icmp_neN 33 (by omega) (by omega) (by decide) dX2_answer_29 (fun h29 => ?_) (fun h29 => ?_) | refine ev_icmp_ne 33 (by decide) dX2_answer_29 (fun h29 => ?_) (fun h29 => ?_)
      · refine ev_c0 dX2_answer_33 ?_
        rw [nI_0]
        refine ev_istore5 dX2_answer_34 ?_
        refine ev_c0 dX2_answer_36 ?_
        refine ev_istore6 dX2_answer_37 ?_
        exact loop (by omega) 32 0 rfl
      · refine ev_return rfl dX2_answer_32 ?_
        refine ⟨rfl, ?_⟩
        rw [if_pos (by omega), sr_self]
/-- what a site learns of a letter's codes, in the reference's row -/
def knL (m : Nat → Int32) (y a : Nat) : Nat → Nat → Int32
  | 0 => m
  | c + 1 => if bt (knL m y a c (a + 2)) c = true then knowR (knL m y a c) y c ((kni (knL m y a c (107 + 4 * y + c / 8)) c ||| kni (knL m y a c (a + 3 + c / 8)) c) ||| nI 1 <<< (nI y &&& 31)) else knL m y a c
def rcM (m : Nat → Int32) (x y r t v : Nat) : Nat → Int32 := upd (upd (upd (upd m (7 + 24 * y + 3 * r) (nI x)) (7 + 24 * y + 3 * r + 1) (nI t)) (7 + 24 * y + 3 * r + 2) (nI v)) (3 + y) (nI (r + 1))
def rclM (m : Nat → Int32) (x y r t v : Nat) : Nat → Int32 := knL (knowR (rcM m x y r t v) y (8 * y + r) (nI 1 <<< (nI y &&& 31))) y (143 + 7 * (8 * (4 * x + y) + t)) 32
def takeM (m : Nat → Int32) (n e x y r t v : Nat) : Nat → Int32 := ansM (rclM m x y r t v) n e y (8 * y + r) v
end
section
/-! a world and what holds of it; the reference's row beside it -/
def nn (w : St) : Nat := tn (w 0 0)
def ee (w : St) : Nat := tn (w 0 1)
def rc (w : St) (q : Nat) : Nat := tn (w 1 q)
def wr (w : St) (x y : Nat) : Nat := tn (w 6 (x * 4 + y))
def fr (w : St) (q r : Nat) : Nat := tn (w 2 (q * 8 + r))
def tk (w : St) (q x r : Nat) : Nat := fb_ct (fun j => decide (w 2 (q * 8 + j) = nI x)) r
def bir (w : St) (q r : Nat) : Int32 := w 8 ((fr w q r * 4 + q) * 8 + tk w q (fr w q r) r)
def isR (w : St) (c : Nat) : Prop := c / 8 < nn w ∧ c % 8 < rc w (c / 8)
def I_hd (w : St) : Prop := (w 0 0 = nI (nn w) ∧ 2 ≤ nn w ∧ nn w ≤ 4) ∧ (w 0 1 = nI (ee w) ∧ 1 ≤ ee w ∧ ee w ≤ 4) ∧ ∀ q, bt (w 0 2) q = true → q < nn w
def I_rc (w : St) : Prop := ∀ q, q < 4 → w 1 q = nI (rc w q) ∧ rc w q ≤ 8 ∧ (nn w ≤ q → rc w q = 0)
def I_wr (w : St) : Prop := ∀ x y, x < 5 → y < 4 → w 6 (x * 4 + y) = nI (wr w x y) ∧ wr w x y ≤ 8 ∧ (0 < wr w x y → x ≤ nn w ∧ y < nn w ∧ x ≠ y)
def I_re (w : St) : Prop := ∀ q r, q < nn w → r < rc w q → w 2 (q * 8 + r) = nI (fr w q r) ∧ fr w q r ≤ nn w ∧ fr w q r ≠ q ∧ w 3 (q * 8 + r) = nI (tk w q (fr w q r) r) ∧ ∃ b, b < 997 ∧ w 4 (q * 8 + r) = nI b
def I_tk (w : St) : Prop := ∀ x q, x ≤ nn w → q < nn w → tk w q x (rc w q) ≤ wr w x q
/-- a letter -/
def lok (w : St) (x y k : Nat) : Prop := (∃ c, c ≤ 99 ∧ w 7 ((x * 4 + y) * 8 + k) = nI c) ∧ (x = nn w → w 8 ((x * 4 + y) * 8 + k) = -9 ∧ w 9 ((x * 4 + y) * 8 + k) = 0) ∧ (x < nn w → ∃ r, r < rc w x ∧ w 8 ((x * 4 + y) * 8 + k) = nI (x * 8 + r)) ∧ (∀ c, bt (w 9 ((x * 4 + y) * 8 + k)) c = true → isR w c) ∧ ∀ s c, s < 4 → bt (w 10 (((x * 4 + y) * 8 + k) * 4 + s)) c = true → bt (w 9 ((x * 4 + y) * 8 + k)) c = true ∧ s < nn w
def I_le (w : St) : Prop := ∀ x y k, x ≤ nn w → y < nn w → k < wr w x y → lok w x y k
def I_in (w : St) : Prop := ∀ x y k k', x < nn w → y < nn w → k < k' → k' < wr w x y → tn (w 8 ((x * 4 + y) * 8 + k)) < tn (w 8 ((x * 4 + y) * 8 + k'))
def I_kn (w : St) : Prop := ∀ p s c, p < 4 → s < 4 → bt (w 11 (p * 4 + s)) c = true → p < nn w ∧ s < nn w ∧ bt (w 11 (p * 4 + p)) c = true ∧ isR w c ∧ bt (w 0 2) p = false
def I_pa (w : St) : Prop := ∀ q r, q < nn w → r < rc w q → ∀ d, bt (w 5 (q * 8 + r)) d = true ↔ d = q * 8 + r ∨ (0 < r ∧ bt (w 5 (q * 8 + (r - 1))) d = true) ∨ ∃ b, b < 32 ∧ bir w q r = nI b ∧ bt (w 5 b) d = true
def I_ls (w : St) : Prop := ∀ C : Nat → Prop, Clo (nn w) (rc w) (bir w) C → ∀ q r, q < nn w → r < rc w q → C (q * 8 + r) → ∀ d, bt (w 5 (q * 8 + r)) d = true → C d
def Inv (w : St) : Prop := I_hd w ∧ I_rc w ∧ I_wr w ∧ I_re w ∧ I_tk w ∧ I_le w ∧ I_in w ∧ I_kn w ∧ I_pa w ∧ I_ls w
def M_hd (w : St) (m : Nat → Int32) : Prop := m 0 = w 0 0 ∧ m 1 = w 0 1 ∧ m 2 = w 0 2
def M_rc (w : St) (m : Nat → Int32) : Prop := ∀ q, q < 4 → m (3 + q) = w 1 q
def M_re (w : St) (m : Nat → Int32) : Prop := ∀ q r, q < nn w → r < rc w q → m (7 + 24 * q + 3 * r + 0) = w 2 (q * 8 + r) ∧ m (7 + 24 * q + 3 * r + 1) = w 3 (q * 8 + r) ∧ m (7 + 24 * q + 3 * r + 2) = w 4 (q * 8 + r)
def M_he (w : St) (m : Nat → Int32) : Prop := ∀ p, p < 4 → m (103 + p) = w 11 (p * 4 + p)
def M_kn (w : St) (m : Nat → Int32) : Prop := ∀ p s c, p < 4 → s < 4 → c < 32 → bt (m (107 + 4 * p + c / 8)) (4 * (c % 8) + s) = bt (w 11 (p * 4 + s)) c
def M_wr (w : St) (m : Nat → Int32) : Prop := ∀ x y, x < 5 → y < 4 → m (123 + (4 * x + y)) = w 6 (x * 4 + y)
def lom (w : St) (m : Nat → Int32) (x y k : Nat) : Prop := m (143 + 7 * (8 * (4 * x + y) + k)) = w 7 ((x * 4 + y) * 8 + k) ∧ m (143 + 7 * (8 * (4 * x + y) + k) + 1) = w 8 ((x * 4 + y) * 8 + k) ∧ m (143 + 7 * (8 * (4 * x + y) + k) + 2) = w 9 ((x * 4 + y) * 8 + k) ∧ ∀ s c, s < 4 → c < 32 → bt (w 9 ((x * 4 + y) * 8 + k)) c = true → bt (m (143 + 7 * (8 * (4 * x + y) + k) + 3 + c / 8)) (4 * (c % 8) + s) = bt (w 10 (((x * 4 + y) * 8 + k) * 4 + s)) c
def M_le (w : St) (m : Nat → Int32) : Prop := ∀ x y k, x ≤ nn w → y < nn w → k < wr w x y → lom w m x y k
def MR (w : St) (m : Nat → Int32) : Prop := M_hd w m ∧ M_rc w m ∧ M_re w m ∧ M_he w m ∧ M_kn w m ∧ M_wr w m ∧ M_le w m
def Cpl (w : St) (m : Nat → Int32) : Prop := Inv w ∧ MR w m
/-- the world a of the class's -/
def wv (S : St) (a : Nat) : St := fun j => S (12 * a + j)
theorem Inv_cong {w w' : St} (h : ∀ j, j < 12 → w' j = w j) (hI : Inv w) : Inv w' := by
  have e0 := h 0 (by omega)
  have e1 := h 1 (by omega)
  have e2 := h 2 (by omega)
  have e3 := h 3 (by omega)
  have e4 := h 4 (by omega)
  have e5 := h 5 (by omega)
  have e6 := h 6 (by omega)
  have e7 := h 7 (by omega)
  have e8 := h 8 (by omega)
  have e9 := h 9 (by omega)
  have e10 := h 10 (by omega)
  have e11 := h 11 (by omega)
  have n1 : nn w' = nn w := by unfold nn; rw [e0]
  have n2 : ee w' = ee w := by unfold ee; rw [e0]
  have n3 : rc w' = rc w := by funext q; unfold rc; rw [e1]
  have n4 : wr w' = wr w := by funext x y; unfold wr; rw [e6]
  have n5 : fr w' = fr w := by funext q r; unfold fr; rw [e2]
  have n6 : tk w' = tk w := by funext q x r; unfold tk; rw [e2]
  have n7 : bir w' = bir w := by funext q r; unfold bir; rw [e8, n5, n6]
  have n8 : isR w' = isR w := by funext c; unfold isR; rw [n1, n3]
  have n9 : lok w' = lok w := by funext x y k; unfold lok; rw [n1, n3, n8, e7, e8, e9, e10]
  unfold Inv I_hd I_rc I_wr I_re I_tk I_le I_in I_kn I_pa I_ls at hI ⊢
  rw [n1, n2, n3, n4, n5, n6, n7, n8, n9, e0, e1, e2, e3, e4, e5, e6, e8, e11]
  exact hI
theorem MR_cong {w w' : St} {m m' : Nat → Int32} (h : ∀ j, j < 12 → w' j = w j) (hm : ∀ i, i < 1263 → m' i = m i) (hI : Inv w) (hR : MR w m) : MR w' m' := by
  have e0 := h 0 (by omega)
  have e1 := h 1 (by omega)
  have e2 := h 2 (by omega)
  have e3 := h 3 (by omega)
  have e4 := h 4 (by omega)
  have e6 := h 6 (by omega)
  have e7 := h 7 (by omega)
  have e8 := h 8 (by omega)
  have e9 := h 9 (by omega)
  have e10 := h 10 (by omega)
  have e11 := h 11 (by omega)
  have n1 : nn w' = nn w := by unfold nn; rw [e0]
  have n3 : rc w' = rc w := by funext q; unfold rc; rw [e1]
  have n4 : wr w' = wr w := by funext x y; unfold wr; rw [e6]
  obtain ⟨ihd, irc, iwr, -⟩ := hI
  have h4 : nn w ≤ 4 := ihd.1.2.2
  have r8 : ∀ q, q < 4 → rc w q ≤ 8 := fun q hq => (irc q hq).2.1
  have w8 : ∀ x y, x < 5 → y < 4 → wr w x y ≤ 8 := fun x y hx hy => (iwr x y hx hy).2.1
  obtain ⟨a1, a2, a3, a4, a5, a6, a7⟩ := hR
  refine ⟨?_, ?_, ?_, ?_, ?_, ?_, ?_⟩
  · unfold M_hd at a1 ⊢
    rw [hm 0 (by omega), hm 1 (by omega), hm 2 (by omega), e0]
    exact a1
  · intro q hq
    rw [hm _ (by omega), e1]
    exact a2 q hq
  · intro q r hq hr
    rw [n1] at hq
    rw [n3] at hr
    have := r8 q (by omega)
    rw [hm _ (by omega), hm _ (by omega), hm _ (by omega), e2, e3, e4]
    exact a3 q r hq hr
  · intro p hp
    rw [hm _ (by omega), e11]
    exact a4 p hp
  · intro p s c hp hs hc
    rw [hm _ (by omega), e11]
    exact a5 p s c hp hs hc
  · intro x y hx hy
    rw [hm _ (by omega), e6]
    exact a6 x y hx hy
  · intro x y k hx hy hk
    rw [n1] at hx hy
    rw [n4] at hk
    have := w8 x y (by omega) (by omega)
    obtain ⟨b1, b2, b3, b4⟩ := a7 x y k hx hy hk
    refine ⟨?_, ?_, ?_, ?_⟩
    · rw [hm _ (by omega), e7]; exact b1
    · rw [hm _ (by omega), e8]; exact b2
    · rw [hm _ (by omega), e9]; exact b3
    · intro s c hs hc hb
      rw [e9] at hb
      rw [hm _ (by omega), e10]
      exact b4 s c hs hc hb
theorem Cpl_cong {w w' : St} {m m' : Nat → Int32} (h : ∀ j, j < 12 → w' j = w j) (hm : ∀ i, i < 1263 → m' i = m i) (hC : Cpl w m) : Cpl w' m' := ⟨Inv_cong h hC.1, MR_cong h hm hC.1 hC.2⟩
/-- the class's cells of C and the reference's of M go together -/
def T_u (C M : St) : Prop := ∃ u ne, u ≤ 5 ∧ ne < 5 ∧ C 96 3 = nI u ∧ C 96 2 = nI ne ∧ M 103 2 = nI u ∧ ∀ j, j < u → Cpl (wv C (1 + (ne + 4 - j) % 5)) (fun i => M 105 (1263 * (u - 1 - j) + i))
def T_im (C M : St) : Prop := ∀ i, i < 2 → M 107 i = bI (bt (C 96 5) i) ∧ (bt (C 96 5) i = true → Cpl (wv C (6 + i)) (fun j => M 106 (1263 * i + j)))
def T_se (C M : St) : Prop := ∃ se, se ≤ 6 ∧ C 96 8 = nI se ∧ M 103 5 = nI se ∧ ∀ j, j < se → ∃ a b, a < 4 ∧ b ≤ 8 ∧ C 99 j = nI a ∧ M 108 j = nI a ∧ C 100 j = nI b ∧ M 109 j = nI b
def Top (C M : St) : Prop := Cpl C (M 104) ∧ T_u C M ∧ T_im C M ∧ T_se C M
theorem Top_cong {C C' M M' : St} (hC : ∀ k, k < 101 → C' k = C k) (hM : ∀ k, 103 ≤ k → k < 110 → M' k = M k) (h : Top C M) : Top C' M' := by
  obtain ⟨h1, ⟨u, ne, u1, u2, u3, u4, u5, u6⟩, h3, ⟨se, s1, s2, s3, s4⟩⟩ := h
  have wvc : ∀ a, a < 8 → wv C' a = wv C a ∨ True := fun _ _ => Or.inr trivial
  refine ⟨?_, ⟨u, ne, u1, u2, ?_, ?_, ?_, ?_⟩, ?_, ⟨se, s1, ?_, ?_, ?_⟩⟩
  · exact Cpl_cong (fun j hj => hC j (by omega)) (fun i _ => by rw [hM 104 (by omega) (by omega)]) h1
  · rw [hC 96 (by omega)]; exact u3
  · rw [hC 96 (by omega)]; exact u4
  · rw [hM 103 (by omega) (by omega)]; exact u5
  · intro j hj
    exact Cpl_cong (fun i hi => hC _ (by omega)) (fun i _ => by rw [hM 105 (by omega) (by omega)]) (u6 j hj)
  · intro i hi
    rw [hC 96 (by omega), hM 107 (by omega) (by omega)]
    refine ⟨(h3 i hi).1, fun hb => ?_⟩
    exact Cpl_cong (fun j hj => hC _ (by omega)) (fun j _ => by rw [hM 106 (by omega) (by omega)]) ((h3 i hi).2 hb)
  · rw [hC 96 (by omega)]; exact s2
  · rw [hM 103 (by omega) (by omega)]; exact s3
  · intro j hj
    rw [hC 99 (by omega), hC 100 (by omega), hM 108 (by omega) (by omega), hM 109 (by omega) (by omega)]
    exact s4 j hj
/-- worlds begun anew -/
theorem Cpl_start {S : St} {n e : Nat} (h2 : 2 ≤ n) (h4 : n ≤ 4) (he1 : 1 ≤ e) (he4 : e ≤ 4) : Cpl (startW S (nI n) (nI e)) (fun i => if i = 0 then nI n else if i = 1 then nI e else 0) := by
  generalize hw : startW S (nI n) (nI e) = w
  have e00 : w 0 0 = nI n := by rw [← hw]; rfl
  have e01 : w 0 1 = nI e := by rw [← hw]; rfl
  have e02 : w 0 2 = 0 := by rw [← hw]; rfl
  have e1 : ∀ q, w 1 q = 0 := fun q => by rw [← hw]; rfl
  have e6 : ∀ q, w 6 q = 0 := fun q => by rw [← hw]; rfl
  have e11 : ∀ q, w 11 q = 0 := fun q => by rw [← hw]; rfl
  have t0 : tn 0 = 0 := by decide +kernel
  have n1 : nn w = n := by unfold nn; rw [e00]; exact tn_nI (by omega)
  have n2 : ee w = e := by unfold ee; rw [e01]; exact tn_nI (by omega)
  have n3 : ∀ q, rc w q = 0 := fun q => by unfold rc; rw [e1]; exact t0
  have n4 : ∀ x y, wr w x y = 0 := fun x y => by unfold wr; rw [e6]; exact t0
  refine ⟨⟨?_, ?_, ?_, ?_, ?_, ?_, ?_, ?_, ?_, ?_⟩, ?_, ?_, ?_, ?_, ?_, ?_, ?_⟩
  · refine ⟨⟨by rw [n1]; exact e00, by omega, by omega⟩, ⟨by rw [n2]; exact e01, by omega, by omega⟩, fun q hq => ?_⟩
    rw [e02, b_0] at hq
    cases hq
  · intro q hq
    rw [n3, e1]
    exact ⟨nI_0.symm, by omega, fun _ => rfl⟩
  · intro x y hx hy
    rw [n4, e6]
    exact ⟨nI_0.symm, by omega, fun h => by omega⟩
  · intro q r hq hr
    rw [n3] at hr
    omega
  · intro x q hx hq
    rw [n3]
    exact Nat.zero_le _
  · intro x y k hx hy hk
    rw [n4] at hk
    omega
  · intro x y k k' hx hy hk hk'
    rw [n4] at hk'
    omega
  · intro p s c hp hs hb
    rw [e11, b_0] at hb
    cases hb
  · intro q r hq hr
    rw [n3] at hr
    omega
  · intro C hC q r hq hr
    rw [n3] at hr
    omega
  · exact ⟨e00.symm, e01.symm, e02.symm⟩
  · intro q hq
    rw [e1]
    show (if 3 + q = 0 then nI n else if 3 + q = 1 then nI e else 0) = 0
    rw [if_neg (by omega), if_neg (by omega)]
  · intro q r hq hr
    rw [n3] at hr
    omega
  · intro p hp
    rw [e11]
    show (if 103 + p = 0 then nI n else if 103 + p = 1 then nI e else 0) = 0
    rw [if_neg (by omega), if_neg (by omega)]
  · intro p s c hp hs hc
    rw [e11]
    show bt (if 107 + 4 * p + c / 8 = 0 then nI n else if 107 + 4 * p + c / 8 = 1 then nI e else 0) _ = _
    rw [if_neg (by omega), if_neg (by omega), b_0, b_0]
  · intro x y hx hy
    rw [e6]
    show (if 123 + (4 * x + y) = 0 then nI n else if 123 + (4 * x + y) = 1 then nI e else 0) = 0
    rw [if_neg (by omega), if_neg (by omega)]
  · intro x y k hx hy hk
    rw [n4] at hk
    omega
end
