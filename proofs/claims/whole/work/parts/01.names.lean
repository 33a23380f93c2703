-- ===== PART A: goes FIRST, ahead of the names: the tables' words, and 'selects' of the private methods out of them =====
/-- a private method of a class that the tables say can be made, by its rows of tables_1 -/
def lw_okq (q : MethodName × Nat) : Prop := (q.1.cls ≠ "java/lang/invoke/MethodHandle" ∧ q.1.cls ≠ "java/lang/invoke/VarHandle") ∧ Cond.instantiable q.1.cls q.2 ∈ tables_1 ∧ Cond.privateMethod q.1 ∈ tables_1 ∧ Cond.instanceMethod q.1 ∈ tables_1
theorem lw_p0 : lw_okq (⟨"CarriedOrders", "remember", "()V"⟩, 11) := ⟨⟨by decide +kernel, by decide +kernel⟩, List.mem_of_getElem? (i := 9) (by decide +kernel), List.mem_of_getElem? (i := 124) (by decide +kernel), List.mem_of_getElem? (i := 125) (by decide +kernel)⟩
theorem lw_p1 : lw_okq (⟨"CarriedOrders", "possibleSets", "()I"⟩, 11) := ⟨⟨by decide +kernel, by decide +kernel⟩, List.mem_of_getElem? (i := 9) (by decide +kernel), List.mem_of_getElem? (i := 360) (by decide +kernel), List.mem_of_getElem? (i := 361) (by decide +kernel)⟩
theorem lw_p2 : lw_okq (⟨"CarriedOrders", "agreesWithSeen", "(I)Z"⟩, 11) := ⟨⟨by decide +kernel, by decide +kernel⟩, List.mem_of_getElem? (i := 9) (by decide +kernel), List.mem_of_getElem? (i := 364) (by decide +kernel), List.mem_of_getElem? (i := 365) (by decide +kernel)⟩
theorem lw_p3 : lw_okq (⟨"CarriedOrders", "mostAlike", "(II)I"⟩, 11) := ⟨⟨by decide +kernel, by decide +kernel⟩, List.mem_of_getElem? (i := 9) (by decide +kernel), List.mem_of_getElem? (i := 373) (by decide +kernel), List.mem_of_getElem? (i := 374) (by decide +kernel)⟩
theorem lw_p4 : lw_okq (⟨"CarriedOrdersModel", "start", "(II)V"⟩, 10) := ⟨⟨by decide +kernel, by decide +kernel⟩, List.mem_of_getElem? (i := 409) (by decide +kernel), List.mem_of_getElem? (i := 415) (by decide +kernel), List.mem_of_getElem? (i := 416) (by decide +kernel)⟩
theorem lw_p5 : lw_okq (⟨"CarriedOrdersModel", "note", "()V"⟩, 10) := ⟨⟨by decide +kernel, by decide +kernel⟩, List.mem_of_getElem? (i := 409) (by decide +kernel), List.mem_of_getElem? (i := 458) (by decide +kernel), List.mem_of_getElem? (i := 459) (by decide +kernel)⟩
theorem lw_p6 : lw_okq (⟨"CarriedOrdersModel", "isSite", "(I)Z"⟩, 10) := ⟨⟨by decide +kernel, by decide +kernel⟩, List.mem_of_getElem? (i := 409) (by decide +kernel), List.mem_of_getElem? (i := 466) (by decide +kernel), List.mem_of_getElem? (i := 467) (by decide +kernel)⟩
theorem lw_p7 : lw_okq (⟨"CarriedOrdersModel", "many", "()I"⟩, 10) := ⟨⟨by decide +kernel, by decide +kernel⟩, List.mem_of_getElem? (i := 409) (by decide +kernel), List.mem_of_getElem? (i := 470) (by decide +kernel), List.mem_of_getElem? (i := 471) (by decide +kernel)⟩
theorem lw_p8 : lw_okq (⟨"CarriedOrdersModel", "letters", "(II)I"⟩, 10) := ⟨⟨by decide +kernel, by decide +kernel⟩, List.mem_of_getElem? (i := 409) (by decide +kernel), List.mem_of_getElem? (i := 474) (by decide +kernel), List.mem_of_getElem? (i := 475) (by decide +kernel)⟩
theorem lw_p9 : lw_okq (⟨"CarriedOrdersModel", "write", "(IIIII)V"⟩, 10) := ⟨⟨by decide +kernel, by decide +kernel⟩, List.mem_of_getElem? (i := 409) (by decide +kernel), List.mem_of_getElem? (i := 481) (by decide +kernel), List.mem_of_getElem? (i := 482) (by decide +kernel)⟩
theorem lw_p10 : lw_okq (⟨"CarriedOrdersModel", "isWay", "(II)Z"⟩, 10) := ⟨⟨by decide +kernel, by decide +kernel⟩, List.mem_of_getElem? (i := 409) (by decide +kernel), List.mem_of_getElem? (i := 492) (by decide +kernel), List.mem_of_getElem? (i := 493) (by decide +kernel)⟩
theorem lw_p11 : lw_okq (⟨"CarriedOrdersModel", "had", "(II)I"⟩, 10) := ⟨⟨by decide +kernel, by decide +kernel⟩, List.mem_of_getElem? (i := 409) (by decide +kernel), List.mem_of_getElem? (i := 496) (by decide +kernel), List.mem_of_getElem? (i := 497) (by decide +kernel)⟩
theorem lw_p12 : lw_okq (⟨"CarriedOrdersModel", "receipts", "(I)I"⟩, 10) := ⟨⟨by decide +kernel, by decide +kernel⟩, List.mem_of_getElem? (i := 409) (by decide +kernel), List.mem_of_getElem? (i := 500) (by decide +kernel), List.mem_of_getElem? (i := 501) (by decide +kernel)⟩
theorem lw_p13 : lw_okq (⟨"CarriedOrdersModel", "ofReceipt", "(III)I"⟩, 10) := ⟨⟨by decide +kernel, by decide +kernel⟩, List.mem_of_getElem? (i := 409) (by decide +kernel), List.mem_of_getElem? (i := 504) (by decide +kernel), List.mem_of_getElem? (i := 505) (by decide +kernel)⟩
theorem lw_p14 : lw_okq (⟨"CarriedOrdersModel", "isDown", "(I)Z"⟩, 10) := ⟨⟨by decide +kernel, by decide +kernel⟩, List.mem_of_getElem? (i := 409) (by decide +kernel), List.mem_of_getElem? (i := 508) (by decide +kernel), List.mem_of_getElem? (i := 509) (by decide +kernel)⟩
theorem lw_p15 : lw_okq (⟨"CarriedOrdersModel", "stateOf", "(I)I"⟩, 10) := ⟨⟨by decide +kernel, by decide +kernel⟩, List.mem_of_getElem? (i := 409) (by decide +kernel), List.mem_of_getElem? (i := 515) (by decide +kernel), List.mem_of_getElem? (i := 516) (by decide +kernel)⟩
def lw_privs_1 : List (MethodName × Nat) := [(⟨"CarriedOrders", "remember", "()V"⟩, 11), (⟨"CarriedOrders", "possibleSets", "()I"⟩, 11), (⟨"CarriedOrders", "agreesWithSeen", "(I)Z"⟩, 11), (⟨"CarriedOrders", "mostAlike", "(II)I"⟩, 11), (⟨"CarriedOrdersModel", "start", "(II)V"⟩, 10), (⟨"CarriedOrdersModel", "note", "()V"⟩, 10), (⟨"CarriedOrdersModel", "isSite", "(I)Z"⟩, 10), (⟨"CarriedOrdersModel", "many", "()I"⟩, 10), (⟨"CarriedOrdersModel", "letters", "(II)I"⟩, 10), (⟨"CarriedOrdersModel", "write", "(IIIII)V"⟩, 10), (⟨"CarriedOrdersModel", "isWay", "(II)Z"⟩, 10), (⟨"CarriedOrdersModel", "had", "(II)I"⟩, 10), (⟨"CarriedOrdersModel", "receipts", "(I)I"⟩, 10), (⟨"CarriedOrdersModel", "ofReceipt", "(III)I"⟩, 10), (⟨"CarriedOrdersModel", "isDown", "(I)Z"⟩, 10), (⟨"CarriedOrdersModel", "stateOf", "(I)I"⟩, 10)]
theorem lw_r1 : ∀ q ∈ lw_privs_1, lw_okq q := List.forall_mem_cons.mpr ⟨lw_p0, List.forall_mem_cons.mpr ⟨lw_p1, List.forall_mem_cons.mpr ⟨lw_p2, List.forall_mem_cons.mpr ⟨lw_p3, List.forall_mem_cons.mpr ⟨lw_p4, List.forall_mem_cons.mpr ⟨lw_p5, List.forall_mem_cons.mpr ⟨lw_p6, List.forall_mem_cons.mpr ⟨lw_p7, List.forall_mem_cons.mpr ⟨lw_p8, List.forall_mem_cons.mpr ⟨lw_p9, List.forall_mem_cons.mpr ⟨lw_p10, List.forall_mem_cons.mpr ⟨lw_p11, List.forall_mem_cons.mpr ⟨lw_p12, List.forall_mem_cons.mpr ⟨lw_p13, List.forall_mem_cons.mpr ⟨lw_p14, List.forall_mem_cons.mpr ⟨lw_p15, fun _ h => absurd h List.not_mem_nil⟩⟩⟩⟩⟩⟩⟩⟩⟩⟩⟩⟩⟩⟩⟩⟩
theorem lw_p16 : lw_okq (⟨"CarriedOrdersModel", "know", "(III)V"⟩, 10) := ⟨⟨by decide +kernel, by decide +kernel⟩, List.mem_of_getElem? (i := 409) (by decide +kernel), List.mem_of_getElem? (i := 519) (by decide +kernel), List.mem_of_getElem? (i := 520) (by decide +kernel)⟩
theorem lw_p17 : lw_okq (⟨"CarriedOrdersModel", "knownBy", "(II)I"⟩, 10) := ⟨⟨by decide +kernel, by decide +kernel⟩, List.mem_of_getElem? (i := 409) (by decide +kernel), List.mem_of_getElem? (i := 523) (by decide +kernel), List.mem_of_getElem? (i := 524) (by decide +kernel)⟩
theorem lw_p18 : lw_okq (⟨"CarriedOrdersModel", "answer", "(III)V"⟩, 10) := ⟨⟨by decide +kernel, by decide +kernel⟩, List.mem_of_getElem? (i := 409) (by decide +kernel), List.mem_of_getElem? (i := 530) (by decide +kernel), List.mem_of_getElem? (i := 531) (by decide +kernel)⟩
theorem lw_p19 : lw_okq (⟨"CarriedOrdersModel", "findKept", "(I)V"⟩, 10) := ⟨⟨by decide +kernel, by decide +kernel⟩, List.mem_of_getElem? (i := 409) (by decide +kernel), List.mem_of_getElem? (i := 545) (by decide +kernel), List.mem_of_getElem? (i := 546) (by decide +kernel)⟩
theorem lw_p20 : lw_okq (⟨"CarriedOrdersModel", "heldBut", "(I)I"⟩, 10) := ⟨⟨by decide +kernel, by decide +kernel⟩, List.mem_of_getElem? (i := 409) (by decide +kernel), List.mem_of_getElem? (i := 549) (by decide +kernel), List.mem_of_getElem? (i := 550) (by decide +kernel)⟩
theorem lw_p21 : lw_okq (⟨"CarriedOrdersModel", "birthOf", "(II)I"⟩, 10) := ⟨⟨by decide +kernel, by decide +kernel⟩, List.mem_of_getElem? (i := 409) (by decide +kernel), List.mem_of_getElem? (i := 553) (by decide +kernel), List.mem_of_getElem? (i := 554) (by decide +kernel)⟩
theorem lw_p22 : lw_okq (⟨"CarriedOrdersModel", "isKeptCode", "(I)Z"⟩, 10) := ⟨⟨by decide +kernel, by decide +kernel⟩, List.mem_of_getElem? (i := 409) (by decide +kernel), List.mem_of_getElem? (i := 557) (by decide +kernel), List.mem_of_getElem? (i := 558) (by decide +kernel)⟩
theorem lw_p23 : lw_okq (⟨"CarriedOrdersModel", "lost", "()I"⟩, 10) := ⟨⟨by decide +kernel, by decide +kernel⟩, List.mem_of_getElem? (i := 409) (by decide +kernel), List.mem_of_getElem? (i := 561) (by decide +kernel), List.mem_of_getElem? (i := 562) (by decide +kernel)⟩
theorem lw_p24 : lw_okq (⟨"CarriedOrdersModel", "codesKept", "()I"⟩, 10) := ⟨⟨by decide +kernel, by decide +kernel⟩, List.mem_of_getElem? (i := 409) (by decide +kernel), List.mem_of_getElem? (i := 565) (by decide +kernel), List.mem_of_getElem? (i := 566) (by decide +kernel)⟩
theorem lw_p25 : lw_okq (⟨"CarriedOrdersModel", "dropLetters", "(I)V"⟩, 10) := ⟨⟨by decide +kernel, by decide +kernel⟩, List.mem_of_getElem? (i := 409) (by decide +kernel), List.mem_of_getElem? (i := 569) (by decide +kernel), List.mem_of_getElem? (i := 570) (by decide +kernel)⟩
theorem lw_p26 : lw_okq (⟨"CarriedOrdersModel", "raiseAll", "(II)V"⟩, 10) := ⟨⟨by decide +kernel, by decide +kernel⟩, List.mem_of_getElem? (i := 409) (by decide +kernel), List.mem_of_getElem? (i := 573) (by decide +kernel), List.mem_of_getElem? (i := 574) (by decide +kernel)⟩
theorem lw_p27 : lw_okq (⟨"CarriedOrdersModel", "written", "(I)I"⟩, 10) := ⟨⟨by decide +kernel, by decide +kernel⟩, List.mem_of_getElem? (i := 409) (by decide +kernel), List.mem_of_getElem? (i := 585) (by decide +kernel), List.mem_of_getElem? (i := 586) (by decide +kernel)⟩
theorem lw_p28 : lw_okq (⟨"CarriedOrdersModel", "isReceipt", "(II)Z"⟩, 10) := ⟨⟨by decide +kernel, by decide +kernel⟩, List.mem_of_getElem? (i := 409) (by decide +kernel), List.mem_of_getElem? (i := 593) (by decide +kernel), List.mem_of_getElem? (i := 594) (by decide +kernel)⟩
theorem lw_p29 : lw_okq (⟨"CarriedOrdersModel", "holders", "(I)I"⟩, 10) := ⟨⟨by decide +kernel, by decide +kernel⟩, List.mem_of_getElem? (i := 409) (by decide +kernel), List.mem_of_getElem? (i := 597) (by decide +kernel), List.mem_of_getElem? (i := 598) (by decide +kernel)⟩
theorem lw_p30 : lw_okq (⟨"CarriedOrdersModel", "isSafe", "(II)Z"⟩, 10) := ⟨⟨by decide +kernel, by decide +kernel⟩, List.mem_of_getElem? (i := 409) (by decide +kernel), List.mem_of_getElem? (i := 601) (by decide +kernel), List.mem_of_getElem? (i := 602) (by decide +kernel)⟩
theorem lw_p31 : lw_okq (⟨"CarriedOrdersModel", "pastOf", "(II)I"⟩, 10) := ⟨⟨by decide +kernel, by decide +kernel⟩, List.mem_of_getElem? (i := 409) (by decide +kernel), List.mem_of_getElem? (i := 605) (by decide +kernel), List.mem_of_getElem? (i := 606) (by decide +kernel)⟩
def lw_privs_2 : List (MethodName × Nat) := [(⟨"CarriedOrdersModel", "know", "(III)V"⟩, 10), (⟨"CarriedOrdersModel", "knownBy", "(II)I"⟩, 10), (⟨"CarriedOrdersModel", "answer", "(III)V"⟩, 10), (⟨"CarriedOrdersModel", "findKept", "(I)V"⟩, 10), (⟨"CarriedOrdersModel", "heldBut", "(I)I"⟩, 10), (⟨"CarriedOrdersModel", "birthOf", "(II)I"⟩, 10), (⟨"CarriedOrdersModel", "isKeptCode", "(I)Z"⟩, 10), (⟨"CarriedOrdersModel", "lost", "()I"⟩, 10), (⟨"CarriedOrdersModel", "codesKept", "()I"⟩, 10), (⟨"CarriedOrdersModel", "dropLetters", "(I)V"⟩, 10), (⟨"CarriedOrdersModel", "raiseAll", "(II)V"⟩, 10), (⟨"CarriedOrdersModel", "written", "(I)I"⟩, 10), (⟨"CarriedOrdersModel", "isReceipt", "(II)Z"⟩, 10), (⟨"CarriedOrdersModel", "holders", "(I)I"⟩, 10), (⟨"CarriedOrdersModel", "isSafe", "(II)Z"⟩, 10), (⟨"CarriedOrdersModel", "pastOf", "(II)I"⟩, 10)]
theorem lw_r2 : ∀ q ∈ lw_privs_2, lw_okq q := List.forall_mem_cons.mpr ⟨lw_p16, List.forall_mem_cons.mpr ⟨lw_p17, List.forall_mem_cons.mpr ⟨lw_p18, List.forall_mem_cons.mpr ⟨lw_p19, List.forall_mem_cons.mpr ⟨lw_p20, List.forall_mem_cons.mpr ⟨lw_p21, List.forall_mem_cons.mpr ⟨lw_p22, List.forall_mem_cons.mpr ⟨lw_p23, List.forall_mem_cons.mpr ⟨lw_p24, List.forall_mem_cons.mpr ⟨lw_p25, List.forall_mem_cons.mpr ⟨lw_p26, List.forall_mem_cons.mpr ⟨lw_p27, List.forall_mem_cons.mpr ⟨lw_p28, List.forall_mem_cons.mpr ⟨lw_p29, List.forall_mem_cons.mpr ⟨lw_p30, List.forall_mem_cons.mpr ⟨lw_p31, fun _ h => absurd h List.not_mem_nil⟩⟩⟩⟩⟩⟩⟩⟩⟩⟩⟩⟩⟩⟩⟩⟩
theorem lw_p32 : lw_okq (⟨"CarriedOrdersModel", "orphans", "(I)I"⟩, 10) := ⟨⟨by decide +kernel, by decide +kernel⟩, List.mem_of_getElem? (i := 409) (by decide +kernel), List.mem_of_getElem? (i := 632) (by decide +kernel), List.mem_of_getElem? (i := 633) (by decide +kernel)⟩
theorem lw_p33 : lw_okq (⟨"CarriedOrdersModel", "fits", "(I)Z"⟩, 10) := ⟨⟨by decide +kernel, by decide +kernel⟩, List.mem_of_getElem? (i := 409) (by decide +kernel), List.mem_of_getElem? (i := 652) (by decide +kernel), List.mem_of_getElem? (i := 653) (by decide +kernel)⟩
theorem lw_p34 : lw_okq (⟨"CarriedOrdersModel", "greatest", "(I)I"⟩, 10) := ⟨⟨by decide +kernel, by decide +kernel⟩, List.mem_of_getElem? (i := 409) (by decide +kernel), List.mem_of_getElem? (i := 661) (by decide +kernel), List.mem_of_getElem? (i := 662) (by decide +kernel)⟩
theorem lw_p35 : lw_okq (⟨"CarriedOrdersModel", "allReceipts", "()I"⟩, 10) := ⟨⟨by decide +kernel, by decide +kernel⟩, List.mem_of_getElem? (i := 409) (by decide +kernel), List.mem_of_getElem? (i := 669) (by decide +kernel), List.mem_of_getElem? (i := 670) (by decide +kernel)⟩
theorem lw_p36 : lw_okq (⟨"CarriedOrdersModel", "allLetters", "()I"⟩, 10) := ⟨⟨by decide +kernel, by decide +kernel⟩, List.mem_of_getElem? (i := 409) (by decide +kernel), List.mem_of_getElem? (i := 681) (by decide +kernel), List.mem_of_getElem? (i := 682) (by decide +kernel)⟩
theorem lw_p37 : lw_okq (⟨"CarriedOrdersModel", "allSafe", "()I"⟩, 10) := ⟨⟨by decide +kernel, by decide +kernel⟩, List.mem_of_getElem? (i := 409) (by decide +kernel), List.mem_of_getElem? (i := 685) (by decide +kernel), List.mem_of_getElem? (i := 686) (by decide +kernel)⟩
theorem lw_p38 : lw_okq (⟨"CarriedOrdersModel", "allCarried", "()I"⟩, 10) := ⟨⟨by decide +kernel, by decide +kernel⟩, List.mem_of_getElem? (i := 409) (by decide +kernel), List.mem_of_getElem? (i := 689) (by decide +kernel), List.mem_of_getElem? (i := 690) (by decide +kernel)⟩
def lw_privs_3 : List (MethodName × Nat) := [(⟨"CarriedOrdersModel", "orphans", "(I)I"⟩, 10), (⟨"CarriedOrdersModel", "fits", "(I)Z"⟩, 10), (⟨"CarriedOrdersModel", "greatest", "(I)I"⟩, 10), (⟨"CarriedOrdersModel", "allReceipts", "()I"⟩, 10), (⟨"CarriedOrdersModel", "allLetters", "()I"⟩, 10), (⟨"CarriedOrdersModel", "allSafe", "()I"⟩, 10), (⟨"CarriedOrdersModel", "allCarried", "()I"⟩, 10)]
theorem lw_r3 : ∀ q ∈ lw_privs_3, lw_okq q := List.forall_mem_cons.mpr ⟨lw_p32, List.forall_mem_cons.mpr ⟨lw_p33, List.forall_mem_cons.mpr ⟨lw_p34, List.forall_mem_cons.mpr ⟨lw_p35, List.forall_mem_cons.mpr ⟨lw_p36, List.forall_mem_cons.mpr ⟨lw_p37, List.forall_mem_cons.mpr ⟨lw_p38, fun _ h => absurd h List.not_mem_nil⟩⟩⟩⟩⟩⟩⟩
def lw_privs : List (MethodName × Nat) := lw_privs_1 ++ (lw_privs_2 ++ (lw_privs_3))
def lw_tbl : List Cond := k2_sels lw_privs ++ tables_1
theorem lw_privs_ok : ∀ q ∈ lw_privs, lw_okq q := by
  show ∀ q ∈ lw_privs_1 ++ (lw_privs_2 ++ (lw_privs_3)), lw_okq q
  exact List.forall_mem_append.mpr ⟨lw_r1, List.forall_mem_append.mpr ⟨lw_r2, lw_r3⟩⟩
def RX0 : String := "CarriedOrders$World"
def TX0 : u_T := fun k => match k with
  | 0 => ("CarriedOrders$World", "sites", "I", false)
  | 1 => ("CarriedOrders$World", "enough", "I", false)
  | 2 => ("CarriedOrders$World", "down", "I", false)
  | 3 => ("CarriedOrders$World", "receipts", "[I", true)
  | 4 => ("CarriedOrders$World", "from", "[I", true)
  | 5 => ("CarriedOrders$World", "number", "[I", true)
  | 6 => ("CarriedOrders$World", "behind", "[I", true)
  | 7 => ("CarriedOrders$World", "pasts", "[I", true)
  | 8 => ("CarriedOrders$World", "written", "[I", true)
  | 9 => ("CarriedOrders$World", "content", "[I", true)
  | 10 => ("CarriedOrders$World", "birth", "[I", true)
  | 11 => ("CarriedOrders$World", "carried", "[I", true)
  | 12 => ("CarriedOrders$World", "told", "[I", true)
  | _ => ("CarriedOrders$World", "known", "[I", true)
def tyX0 : Nat → FieldType := fun k => match k with
  | 0 => .int
  | 1 => .int
  | 2 => .int
  | 3 => .array .int
  | 4 => .array .int
  | 5 => .array .int
  | 6 => .array .int
  | 7 => .array .int
  | 8 => .array .int
  | 9 => .array .int
  | 10 => .array .int
  | 11 => .array .int
  | 12 => .array .int
  | _ => .array .int
abbrev wsX00 : List Cond := u_ws RX0 TX0 14
theorem nmX0 : ∀ a, a < 14 → ∀ b, b < 14 → a ≠ b → (TX0 a).2.1 ≠ (TX0 b).2.1 := by decide +kernel
theorem tyX0_ok : ∀ k, k < 14 → parseFieldDescriptor (TX0 k).2.2.1 = some (tyX0 k) := by decide +kernel
abbrev cX0_init : ByteArray := prog_2_method_1_code
def yX0_init : MethodName := ⟨RX0, "<init>", "()V"⟩
abbrev cX0_start : ByteArray := prog_2_method_2_code
def yX0_start : MethodName := ⟨RX0, "start", "(II)V"⟩
abbrev cX0_become : ByteArray := prog_2_method_3_code
def yX0_become : MethodName := ⟨RX0, "become", "(LCarriedOrders$World;)V"⟩
abbrev cX0_codeOf : ByteArray := prog_2_method_4_code
def yX0_codeOf : MethodName := ⟨RX0, "codeOf", "(II)I"⟩
abbrev cX0_codesOf : ByteArray := prog_2_method_5_code
def yX0_codesOf : MethodName := ⟨RX0, "codesOf", "(I)I"⟩
abbrev cX0_receiptsIn : ByteArray := prog_2_method_6_code
def yX0_receiptsIn : MethodName := ⟨RX0, "receiptsIn", "(II)I"⟩
abbrev cX0_wayOf : ByteArray := prog_2_method_7_code
def yX0_wayOf : MethodName := ⟨RX0, "wayOf", "(II)I"⟩
abbrev cX0_letterOn : ByteArray := prog_2_method_8_code
def yX0_letterOn : MethodName := ⟨RX0, "letterOn", "(III)I"⟩
abbrev cX0_isSite : ByteArray := prog_2_method_9_code
def yX0_isSite : MethodName := ⟨RX0, "isSite", "(I)Z"⟩
abbrev cX0_isWay : ByteArray := prog_2_method_10_code
def yX0_isWay : MethodName := ⟨RX0, "isWay", "(II)Z"⟩
abbrev cX0_isReceipt : ByteArray := prog_2_method_11_code
def yX0_isReceipt : MethodName := ⟨RX0, "isReceipt", "(II)Z"⟩
abbrev cX0_isDown : ByteArray := prog_2_method_12_code
def yX0_isDown : MethodName := ⟨RX0, "isDown", "(I)Z"⟩
abbrev cX0_allSites : ByteArray := prog_2_method_13_code
def yX0_allSites : MethodName := ⟨RX0, "allSites", "()I"⟩
abbrev cX0_stateOf : ByteArray := prog_2_method_14_code
def yX0_stateOf : MethodName := ⟨RX0, "stateOf", "(I)I"⟩
abbrev cX0_allReceipts : ByteArray := prog_2_method_15_code
def yX0_allReceipts : MethodName := ⟨RX0, "allReceipts", "()I"⟩
abbrev cX0_lettersOn : ByteArray := prog_2_method_16_code
def yX0_lettersOn : MethodName := ⟨RX0, "lettersOn", "(II)I"⟩
abbrev cX0_lettersBy : ByteArray := prog_2_method_17_code
def yX0_lettersBy : MethodName := ⟨RX0, "lettersBy", "(I)I"⟩
abbrev cX0_allLetters : ByteArray := prog_2_method_18_code
def yX0_allLetters : MethodName := ⟨RX0, "allLetters", "()I"⟩
abbrev cX0_allCarried : ByteArray := prog_2_method_19_code
def yX0_allCarried : MethodName := ⟨RX0, "allCarried", "()I"⟩
abbrev cX0_carriedOn : ByteArray := prog_2_method_20_code
def yX0_carriedOn : MethodName := ⟨RX0, "carriedOn", "(II)I"⟩
abbrev cX0_takenFrom : ByteArray := prog_2_method_21_code
def yX0_takenFrom : MethodName := ⟨RX0, "takenFrom", "(II)I"⟩
abbrev cX0_heldBy : ByteArray := prog_2_method_22_code
def yX0_heldBy : MethodName := ⟨RX0, "heldBy", "(I)I"⟩
abbrev cX0_holdersOf : ByteArray := prog_2_method_23_code
def yX0_holdersOf : MethodName := ⟨RX0, "holdersOf", "(I)I"⟩
abbrev cX0_holdersKnown : ByteArray := prog_2_method_24_code
def yX0_holdersKnown : MethodName := ⟨RX0, "holdersKnown", "(II)I"⟩
abbrev cX0_isSafe : ByteArray := prog_2_method_25_code
def yX0_isSafe : MethodName := ⟨RX0, "isSafe", "(I)Z"⟩
abbrev cX0_safeReceipts : ByteArray := prog_2_method_26_code
def yX0_safeReceipts : MethodName := ⟨RX0, "safeReceipts", "()I"⟩
abbrev cX0_unsafeFor : ByteArray := prog_2_method_27_code
def yX0_unsafeFor : MethodName := ⟨RX0, "unsafeFor", "(I)I"⟩
abbrev cX0_write : ByteArray := prog_2_method_28_code
def yX0_write : MethodName := ⟨RX0, "write", "(IIIII)V"⟩
abbrev cX0_take : ByteArray := prog_2_method_29_code
def yX0_take : MethodName := ⟨RX0, "take", "(II)V"⟩
abbrev cX0_pastAhead : ByteArray := prog_2_method_30_code
def yX0_pastAhead : MethodName := ⟨RX0, "pastAhead", "(I)I"⟩
abbrev cX0_pastOfBirth : ByteArray := prog_2_method_31_code
def yX0_pastOfBirth : MethodName := ⟨RX0, "pastOfBirth", "(I)I"⟩
abbrev cX0_learn : ByteArray := prog_2_method_32_code
def yX0_learn : MethodName := ⟨RX0, "learn", "(III)V"⟩
abbrev cX0_answer : ByteArray := prog_2_method_33_code
def yX0_answer : MethodName := ⟨RX0, "answer", "(II)V"⟩
abbrev cX0_crash : ByteArray := prog_2_method_34_code
def yX0_crash : MethodName := ⟨RX0, "crash", "(I)V"⟩
abbrev cX0_keptIfDown : ByteArray := prog_2_method_35_code
def yX0_keptIfDown : MethodName := ⟨RX0, "keptIfDown", "(I)I"⟩
abbrev cX0_lostBut : ByteArray := prog_2_method_36_code
def yX0_lostBut : MethodName := ⟨RX0, "lostBut", "(I)I"⟩
abbrev cX0_orphansBut : ByteArray := prog_2_method_37_code
def yX0_orphansBut : MethodName := ⟨RX0, "orphansBut", "(II)I"⟩
abbrev cX0_raiseAll : ByteArray := prog_2_method_38_code
def yX0_raiseAll : MethodName := ⟨RX0, "raiseAll", "()I"⟩
abbrev cX0_keepLettersOn : ByteArray := prog_2_method_39_code
def yX0_keepLettersOn : MethodName := ⟨RX0, "keepLettersOn", "(III)V"⟩
abbrev cX0_learnAll : ByteArray := prog_2_method_40_code
def yX0_learnAll : MethodName := ⟨RX0, "learnAll", "(II)V"⟩
abbrev cX0_tellTheRaised : ByteArray := prog_2_method_41_code
def yX0_tellTheRaised : MethodName := ⟨RX0, "tellTheRaised", "()V"⟩
def RX1 : String := "CarriedOrders"
def TX1 : u_T := fun k => match k with
  | 0 => ("CarriedOrders", "now", "LCarriedOrders$World;", true)
  | 1 => ("CarriedOrders", "earlier", "[LCarriedOrders$World;", true)
  | 2 => ("CarriedOrders", "nextEarlier", "I", false)
  | 3 => ("CarriedOrders", "undoable", "I", false)
  | 4 => ("CarriedOrders", "images", "[LCarriedOrders$World;", true)
  | 5 => ("CarriedOrders", "imagesKept", "I", false)
  | 6 => ("CarriedOrders", "seenSite", "[I", true)
  | 7 => ("CarriedOrders", "seenReceipts", "[I", true)
  | 8 => ("CarriedOrders", "seen", "I", false)
  | 9 => ("CarriedOrders", "keptBySet", "[I", true)
  | _ => ("CarriedOrders", "tally", "[I", true)
def tyX1 : Nat → FieldType := fun k => match k with
  | 0 => .object "CarriedOrders$World"
  | 1 => .array (.object "CarriedOrders$World")
  | 2 => .int
  | 3 => .int
  | 4 => .array (.object "CarriedOrders$World")
  | 5 => .int
  | 6 => .array .int
  | 7 => .array .int
  | 8 => .int
  | 9 => .array .int
  | _ => .array .int
abbrev wsX10 : List Cond := u_ws RX1 TX1 11
theorem nmX1 : ∀ a, a < 11 → ∀ b, b < 11 → a ≠ b → (TX1 a).2.1 ≠ (TX1 b).2.1 := by decide +kernel
theorem tyX1_ok : ∀ k, k < 11 → parseFieldDescriptor (TX1 k).2.2.1 = some (tyX1 k) := by decide +kernel
abbrev cX1_init : ByteArray := prog_1_method_1_code
def yX1_init : MethodName := ⟨RX1, "<init>", "()V"⟩
abbrev cX1_begins : ByteArray := prog_1_method_2_code
def yX1_begins : MethodName := ⟨RX1, "begins", "(II)I"⟩
abbrev cX1_puts : ByteArray := prog_1_method_3_code
def yX1_puts : MethodName := ⟨RX1, "puts", "(II)I"⟩
abbrev cX1_receives : ByteArray := prog_1_method_4_code
def yX1_receives : MethodName := ⟨RX1, "receives", "(II)I"⟩
abbrev cX1_crashes : ByteArray := prog_1_method_5_code
def yX1_crashes : MethodName := ⟨RX1, "crashes", "(I)I"⟩
abbrev cX1_raises : ByteArray := prog_1_method_6_code
def yX1_raises : MethodName := ⟨RX1, "raises", "()I"⟩
abbrev cX1_undo : ByteArray := prog_1_method_7_code
def yX1_undo : MethodName := ⟨RX1, "undo", "()I"⟩
abbrev cX1_site : ByteArray := prog_1_method_8_code
def yX1_site : MethodName := ⟨RX1, "site", "(II)I"⟩
abbrev cX1_receipt : ByteArray := prog_1_method_9_code
def yX1_receipt : MethodName := ⟨RX1, "receipt", "(III)I"⟩
abbrev cX1_letter : ByteArray := prog_1_method_10_code
def yX1_letter : MethodName := ⟨RX1, "letter", "(IIII)I"⟩
abbrev cX1_carries : ByteArray := prog_1_method_11_code
def yX1_carries : MethodName := ⟨RX1, "carries", "(IIII)I"⟩
abbrev cX1_knows : ByteArray := prog_1_method_12_code
def yX1_knows : MethodName := ⟨RX1, "knows", "(II)I"⟩
abbrev cX1_past : ByteArray := prog_1_method_13_code
def yX1_past : MethodName := ⟨RX1, "past", "(III)I"⟩
abbrev cX1_risk : ByteArray := prog_1_method_14_code
def yX1_risk : MethodName := ⟨RX1, "risk", "(II)I"⟩
abbrev cX1_worst : ByteArray := prog_1_method_15_code
def yX1_worst : MethodName := ⟨RX1, "worst", "(I)I"⟩
abbrev cX1_sees : ByteArray := prog_1_method_16_code
def yX1_sees : MethodName := ⟨RX1, "sees", "(II)I"⟩
abbrev cX1_forget : ByteArray := prog_1_method_17_code
def yX1_forget : MethodName := ⟨RX1, "forget", "()I"⟩
abbrev cX1_which : ByteArray := prog_1_method_18_code
def yX1_which : MethodName := ⟨RX1, "which", "(I)I"⟩
abbrev cX1_ask : ByteArray := prog_1_method_19_code
def yX1_ask : MethodName := ⟨RX1, "ask", "()I"⟩
abbrev cX1_keep : ByteArray := prog_1_method_20_code
def yX1_keep : MethodName := ⟨RX1, "keep", "(I)I"⟩
abbrev cX1_back : ByteArray := prog_1_method_21_code
def yX1_back : MethodName := ⟨RX1, "back", "(I)I"⟩
abbrev cX1_count : ByteArray := prog_1_method_22_code
def yX1_count : MethodName := ⟨RX1, "count", "(I)I"⟩
abbrev cX1_remember : ByteArray := prog_1_method_23_code
def yX1_remember : MethodName := ⟨RX1, "remember", "()V"⟩
abbrev cX1_possibleSets : ByteArray := prog_1_method_24_code
def yX1_possibleSets : MethodName := ⟨RX1, "possibleSets", "()I"⟩
abbrev cX1_agreesWithSeen : ByteArray := prog_1_method_25_code
def yX1_agreesWithSeen : MethodName := ⟨RX1, "agreesWithSeen", "(I)Z"⟩
abbrev cX1_mostAlike : ByteArray := prog_1_method_26_code
def yX1_mostAlike : MethodName := ⟨RX1, "mostAlike", "(II)I"⟩
abbrev cX1_numberAt : ByteArray := prog_1_method_27_code
def yX1_numberAt : MethodName := ⟨RX1, "numberAt", "(II)I"⟩
def RX2 : String := "CarriedOrdersModel"
def TX2 : u_T := fun k => match k with
  | 0 => ("CarriedOrdersModel", "now", "[I", true)
  | 1 => ("CarriedOrdersModel", "past", "[I", true)
  | 2 => ("CarriedOrdersModel", "pasts", "I", false)
  | 3 => ("CarriedOrdersModel", "images", "[I", true)
  | 4 => ("CarriedOrdersModel", "isKept", "[Z", true)
  | 5 => ("CarriedOrdersModel", "seen", "I", false)
  | 6 => ("CarriedOrdersModel", "seenSite", "[I", true)
  | 7 => ("CarriedOrdersModel", "seenMany", "[I", true)
  | 8 => ("CarriedOrdersModel", "kept", "[I", true)
  | _ => ("CarriedOrdersModel", "tally", "[I", true)
def tyX2 : Nat → FieldType := fun k => match k with
  | 0 => .array .int
  | 1 => .array .int
  | 2 => .int
  | 3 => .array .int
  | 4 => .array .boolean
  | 5 => .int
  | 6 => .array .int
  | 7 => .array .int
  | 8 => .array .int
  | _ => .array .int
abbrev wsX20 : List Cond := u_ws RX2 TX2 10
theorem nmX2 : ∀ a, a < 10 → ∀ b, b < 10 → a ≠ b → (TX2 a).2.1 ≠ (TX2 b).2.1 := by decide +kernel
theorem tyX2_ok : ∀ k, k < 10 → parseFieldDescriptor (TX2 k).2.2.1 = some (tyX2 k) := by decide +kernel
abbrev cX2_init : ByteArray := prog_4_method_1_code
def yX2_init : MethodName := ⟨RX2, "<init>", "()V"⟩
abbrev cX2_in : ByteArray := prog_4_method_2_code
def yX2_in : MethodName := ⟨RX2, "in", "(III)Z"⟩
abbrev cX2_has : ByteArray := prog_4_method_3_code
def yX2_has : MethodName := ⟨RX2, "has", "(II)Z"⟩
abbrev cX2_bits : ByteArray := prog_4_method_4_code
def yX2_bits : MethodName := ⟨RX2, "bits", "(I)I"⟩
abbrev cX2_start : ByteArray := prog_4_method_5_code
def yX2_start : MethodName := ⟨RX2, "start", "(II)V"⟩
abbrev cX2_many : ByteArray := prog_4_method_6_code
def yX2_many : MethodName := ⟨RX2, "many", "()I"⟩
abbrev cX2_isSite : ByteArray := prog_4_method_7_code
def yX2_isSite : MethodName := ⟨RX2, "isSite", "(I)Z"⟩
abbrev cX2_isDown : ByteArray := prog_4_method_8_code
def yX2_isDown : MethodName := ⟨RX2, "isDown", "(I)Z"⟩
abbrev cX2_receipts : ByteArray := prog_4_method_9_code
def yX2_receipts : MethodName := ⟨RX2, "receipts", "(I)I"⟩
abbrev cX2_ofReceipt : ByteArray := prog_4_method_10_code
def yX2_ofReceipt : MethodName := ⟨RX2, "ofReceipt", "(III)I"⟩
abbrev cX2_stateOf : ByteArray := prog_4_method_11_code
def yX2_stateOf : MethodName := ⟨RX2, "stateOf", "(I)I"⟩
abbrev cX2_way : ByteArray := prog_4_method_12_code
def yX2_way : MethodName := ⟨RX2, "way", "(II)I"⟩
abbrev cX2_letters : ByteArray := prog_4_method_13_code
def yX2_letters : MethodName := ⟨RX2, "letters", "(II)I"⟩
abbrev cX2_letterAt : ByteArray := prog_4_method_14_code
def yX2_letterAt : MethodName := ⟨RX2, "letterAt", "(III)I"⟩
abbrev cX2_knownIn : ByteArray := prog_4_method_15_code
def yX2_knownIn : MethodName := ⟨RX2, "knownIn", "(II)I"⟩
abbrev cX2_knownBy : ByteArray := prog_4_method_16_code
def yX2_knownBy : MethodName := ⟨RX2, "knownBy", "(II)I"⟩
abbrev cX2_know : ByteArray := prog_4_method_17_code
def yX2_know : MethodName := ⟨RX2, "know", "(III)V"⟩
abbrev cX2_write : ByteArray := prog_4_method_18_code
def yX2_write : MethodName := ⟨RX2, "write", "(IIIII)V"⟩
abbrev cX2_had : ByteArray := prog_4_method_19_code
def yX2_had : MethodName := ⟨RX2, "had", "(II)I"⟩
abbrev cX2_note : ByteArray := prog_4_method_20_code
def yX2_note : MethodName := ⟨RX2, "note", "()V"⟩
abbrev cX2_begins : ByteArray := prog_4_method_21_code
def yX2_begins : MethodName := ⟨RX2, "begins", "(II)I"⟩
abbrev cX2_puts : ByteArray := prog_4_method_22_code
def yX2_puts : MethodName := ⟨RX2, "puts", "(II)I"⟩
abbrev cX2_isWay : ByteArray := prog_4_method_23_code
def yX2_isWay : MethodName := ⟨RX2, "isWay", "(II)Z"⟩
abbrev cX2_receives : ByteArray := prog_4_method_24_code
def yX2_receives : MethodName := ⟨RX2, "receives", "(II)I"⟩
abbrev cX2_answer : ByteArray := prog_4_method_25_code
def yX2_answer : MethodName := ⟨RX2, "answer", "(III)V"⟩
abbrev cX2_crashes : ByteArray := prog_4_method_26_code
def yX2_crashes : MethodName := ⟨RX2, "crashes", "(I)I"⟩
abbrev cX2_heldBut : ByteArray := prog_4_method_27_code
def yX2_heldBut : MethodName := ⟨RX2, "heldBut", "(I)I"⟩
abbrev cX2_isKeptCode : ByteArray := prog_4_method_28_code
def yX2_isKeptCode : MethodName := ⟨RX2, "isKeptCode", "(I)Z"⟩
abbrev cX2_birthOf : ByteArray := prog_4_method_29_code
def yX2_birthOf : MethodName := ⟨RX2, "birthOf", "(II)I"⟩
abbrev cX2_findKept : ByteArray := prog_4_method_30_code
def yX2_findKept : MethodName := ⟨RX2, "findKept", "(I)V"⟩
abbrev cX2_lost : ByteArray := prog_4_method_31_code
def yX2_lost : MethodName := ⟨RX2, "lost", "()I"⟩
abbrev cX2_orphans : ByteArray := prog_4_method_32_code
def yX2_orphans : MethodName := ⟨RX2, "orphans", "(I)I"⟩
abbrev cX2_codesKept : ByteArray := prog_4_method_33_code
def yX2_codesKept : MethodName := ⟨RX2, "codesKept", "()I"⟩
abbrev cX2_dropLetters : ByteArray := prog_4_method_34_code
def yX2_dropLetters : MethodName := ⟨RX2, "dropLetters", "(I)V"⟩
abbrev cX2_raises : ByteArray := prog_4_method_35_code
def yX2_raises : MethodName := ⟨RX2, "raises", "()I"⟩
abbrev cX2_raiseAll : ByteArray := prog_4_method_36_code
def yX2_raiseAll : MethodName := ⟨RX2, "raiseAll", "(II)V"⟩
abbrev cX2_undo : ByteArray := prog_4_method_37_code
def yX2_undo : MethodName := ⟨RX2, "undo", "()I"⟩
abbrev cX2_written : ByteArray := prog_4_method_38_code
def yX2_written : MethodName := ⟨RX2, "written", "(I)I"⟩
abbrev cX2_site : ByteArray := prog_4_method_39_code
def yX2_site : MethodName := ⟨RX2, "site", "(II)I"⟩
abbrev cX2_holders : ByteArray := prog_4_method_40_code
def yX2_holders : MethodName := ⟨RX2, "holders", "(I)I"⟩
abbrev cX2_isSafe : ByteArray := prog_4_method_41_code
def yX2_isSafe : MethodName := ⟨RX2, "isSafe", "(II)Z"⟩
abbrev cX2_pastOf : ByteArray := prog_4_method_42_code
def yX2_pastOf : MethodName := ⟨RX2, "pastOf", "(II)I"⟩
abbrev cX2_isReceipt : ByteArray := prog_4_method_43_code
def yX2_isReceipt : MethodName := ⟨RX2, "isReceipt", "(II)Z"⟩
abbrev cX2_receipt : ByteArray := prog_4_method_44_code
def yX2_receipt : MethodName := ⟨RX2, "receipt", "(III)I"⟩
abbrev cX2_letter : ByteArray := prog_4_method_45_code
def yX2_letter : MethodName := ⟨RX2, "letter", "(IIII)I"⟩
abbrev cX2_nth : ByteArray := prog_4_method_46_code
def yX2_nth : MethodName := ⟨RX2, "nth", "(II)I"⟩
abbrev cX2_carries : ByteArray := prog_4_method_47_code
def yX2_carries : MethodName := ⟨RX2, "carries", "(IIII)I"⟩
abbrev cX2_knows : ByteArray := prog_4_method_48_code
def yX2_knows : MethodName := ⟨RX2, "knows", "(II)I"⟩
abbrev cX2_past : ByteArray := prog_4_method_49_code
def yX2_past : MethodName := ⟨RX2, "past", "(III)I"⟩
abbrev cX2_risk : ByteArray := prog_4_method_50_code
def yX2_risk : MethodName := ⟨RX2, "risk", "(II)I"⟩
abbrev cX2_worst : ByteArray := prog_4_method_51_code
def yX2_worst : MethodName := ⟨RX2, "worst", "(I)I"⟩
abbrev cX2_sees : ByteArray := prog_4_method_52_code
def yX2_sees : MethodName := ⟨RX2, "sees", "(II)I"⟩
abbrev cX2_forget : ByteArray := prog_4_method_53_code
def yX2_forget : MethodName := ⟨RX2, "forget", "()I"⟩
abbrev cX2_fits : ByteArray := prog_4_method_54_code
def yX2_fits : MethodName := ⟨RX2, "fits", "(I)Z"⟩
abbrev cX2_which : ByteArray := prog_4_method_55_code
def yX2_which : MethodName := ⟨RX2, "which", "(I)I"⟩
abbrev cX2_greatest : ByteArray := prog_4_method_56_code
def yX2_greatest : MethodName := ⟨RX2, "greatest", "(I)I"⟩
abbrev cX2_ask : ByteArray := prog_4_method_57_code
def yX2_ask : MethodName := ⟨RX2, "ask", "()I"⟩
abbrev cX2_allReceipts : ByteArray := prog_4_method_58_code
def yX2_allReceipts : MethodName := ⟨RX2, "allReceipts", "()I"⟩
abbrev cX2_keep : ByteArray := prog_4_method_59_code
def yX2_keep : MethodName := ⟨RX2, "keep", "(I)I"⟩
abbrev cX2_back : ByteArray := prog_4_method_60_code
def yX2_back : MethodName := ⟨RX2, "back", "(I)I"⟩
abbrev cX2_allLetters : ByteArray := prog_4_method_61_code
def yX2_allLetters : MethodName := ⟨RX2, "allLetters", "()I"⟩
abbrev cX2_allSafe : ByteArray := prog_4_method_62_code
def yX2_allSafe : MethodName := ⟨RX2, "allSafe", "()I"⟩
abbrev cX2_allCarried : ByteArray := prog_4_method_63_code
def yX2_allCarried : MethodName := ⟨RX2, "allCarried", "()I"⟩
abbrev cX2_count : ByteArray := prog_4_method_64_code
def yX2_count : MethodName := ⟨RX2, "count", "(I)I"⟩
def RJ6 : String := "java/lang/Integer"
def TJ6 : u_T := fun k => match k with
  | _ => ("", "", "", false)
def tyJ6 : Nat → FieldType := fun k => match k with
  | _ => .int
abbrev wsJ60 : List Cond := u_ws RJ6 TJ6 0
theorem nmJ6 : ∀ a, a < 0 → ∀ b, b < 0 → a ≠ b → (TJ6 a).2.1 ≠ (TJ6 b).2.1 := by decide +kernel
theorem tyJ6_ok : ∀ k, k < 0 → parseFieldDescriptor (TJ6 k).2.2.1 = some (tyJ6 k) := by decide +kernel
abbrev cJ6_bitCount_0f7a4 : ByteArray := prog_5_method_49_code
def yJ6_bitCount_0f7a4 : MethodName := ⟨RJ6, "bitCount", "(I)I"⟩
def RJ9 : String := "java/lang/Math"
def TJ9 : u_T := fun k => match k with
  | _ => ("", "", "", false)
def tyJ9 : Nat → FieldType := fun k => match k with
  | _ => .int
abbrev wsJ90 : List Cond := u_ws RJ9 TJ9 0
theorem nmJ9 : ∀ a, a < 0 → ∀ b, b < 0 → a ≠ b → (TJ9 a).2.1 ≠ (TJ9 b).2.1 := by decide +kernel
theorem tyJ9_ok : ∀ k, k < 0 → parseFieldDescriptor (TJ9 k).2.2.1 = some (tyJ9 k) := by decide +kernel
abbrev cJ9_max_7cf53 : ByteArray := prog_6_method_65_code
def yJ9_max_7cf53 : MethodName := ⟨RJ9, "max", "(II)I"⟩
abbrev cJ9_min_7cf53 : ByteArray := prog_6_method_69_code
def yJ9_min_7cf53 : MethodName := ⟨RJ9, "min", "(II)I"⟩
def RJ10 : String := "java/lang/System"
def TJ10 : u_T := fun k => match k with
  | _ => ("", "", "", false)
def tyJ10 : Nat → FieldType := fun k => match k with
  | _ => .int
abbrev wsJ100 : List Cond := u_ws RJ10 TJ10 0
theorem nmJ10 : ∀ a, a < 0 → ∀ b, b < 0 → a ≠ b → (TJ10 a).2.1 ≠ (TJ10 b).2.1 := by decide +kernel
theorem tyJ10_ok : ∀ k, k < 0 → parseFieldDescriptor (TJ10 k).2.2.1 = some (tyJ10 k) := by decide +kernel
def RJ7 : String := "java/util/Arrays"
def TJ7 : u_T := fun k => match k with
  | _ => ("", "", "", false)
def tyJ7 : Nat → FieldType := fun k => match k with
  | _ => .int
abbrev wsJ70 : List Cond := u_ws RJ7 TJ7 0
theorem nmJ7 : ∀ a, a < 0 → ∀ b, b < 0 → a ≠ b → (TJ7 a).2.1 ≠ (TJ7 b).2.1 := by decide +kernel
theorem tyJ7_ok : ∀ k, k < 0 → parseFieldDescriptor (TJ7 k).2.2.1 = some (tyJ7 k) := by decide +kernel
abbrev cJ7_fill_53178 : ByteArray := prog_8_method_103_code
def yJ7_fill_53178 : MethodName := ⟨RJ7, "fill", "([II)V"⟩
def RL : String := "CarriedOrdersLaw"
abbrev cL_law : ByteArray := code
def yL_law : MethodName := ⟨RL, "law", "([I)Z"⟩
theorem inX0 : ∀ w ∈ wsX00, w ∈ lw_tbl := by decide +kernel
theorem inX1 : ∀ w ∈ wsX10, w ∈ lw_tbl := by decide +kernel
theorem inX2 : ∀ w ∈ wsX20, w ∈ lw_tbl := by decide +kernel
/-- the words of the tables that stay: what every contract takes -/
def gw : List Cond := lw_tbl.filter goodWord
theorem gw_mem {w : Cond} (n : Nat) (h : lw_tbl[n]? = some w) (hg : goodWord w = true) : w ∈ gw := List.mem_filter.mpr ⟨List.mem_of_getElem? h, hg⟩
theorem gw_sub {w : Cond} (h : w ∈ gw) : w ∈ lw_tbl := (List.mem_filter.mp h).1
theorem gw_good : ∀ w ∈ gw, goodWord w = true := fun _ h => (List.mem_filter.mp h).2
theorem igX0 : ∀ w ∈ wsX00, w ∈ gw := fun w h => List.mem_filter.mpr ⟨inX0 w h, List.all_eq_true.mp (by decide +kernel : wsX00.all goodWord = true) w h⟩
theorem igX1 : ∀ w ∈ wsX10, w ∈ gw := fun w h => List.mem_filter.mpr ⟨inX1 w h, List.all_eq_true.mp (by decide +kernel : wsX10.all goodWord = true) w h⟩
theorem igX2 : ∀ w ∈ wsX20, w ∈ gw := fun w h => List.mem_filter.mpr ⟨inX2 w h, List.all_eq_true.mp (by decide +kernel : wsX20.all goodWord = true) w h⟩
theorem gw_in : GoodIn gw gw := fun w h => ⟨h, good_of_word (gw_good w h)⟩
