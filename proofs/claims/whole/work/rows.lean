section
-- ===== PART A: goes FIRST, ahead of the names: the tables' words, and 'selects' of the private methods out of them =====
/-- a private method of a class that the tables say can be made, by its rows of tables_1 -/
def lw_okq (q : MethodName × Nat) : Prop := (q.1.cls ≠ "java/lang/invoke/MethodHandle" ∧ q.1.cls ≠ "java/lang/invoke/VarHandle") ∧ Cond.instantiable q.1.cls q.2 ∈ tables_1 ∧ Cond.privateMethod q.1 ∈ tables_1 ∧ Cond.instanceMethod q.1 ∈ tables_1
theorem lw_p0 : lw_okq (⟨"ForgoneShop$Letters", "add", "(C)Z"⟩, 2) := ⟨⟨by decide +kernel, by decide +kernel⟩, List.mem_of_getElem? (i := 25) (by decide +kernel), List.mem_of_getElem? (i := 297) (by decide +kernel), List.mem_of_getElem? (i := 298) (by decide +kernel)⟩
theorem lw_p1 : lw_okq (⟨"ForgoneShop", "layText", "()Z"⟩, 11) := ⟨⟨by decide +kernel, by decide +kernel⟩, List.mem_of_getElem? (i := 17) (by decide +kernel), List.mem_of_getElem? (i := 301) (by decide +kernel), List.mem_of_getElem? (i := 302) (by decide +kernel)⟩
theorem lw_p2 : lw_okq (⟨"ForgoneShop$Reader", "readInto", "(LForgoneShop$Plan;LForgoneShop$Letters;)I"⟩, 2) := ⟨⟨by decide +kernel, by decide +kernel⟩, List.mem_of_getElem? (i := 41) (by decide +kernel), List.mem_of_getElem? (i := 305) (by decide +kernel), List.mem_of_getElem? (i := 306) (by decide +kernel)⟩
theorem lw_p3 : lw_okq (⟨"ForgoneShop$Plan", "clear", "()V"⟩, 11) := ⟨⟨by decide +kernel, by decide +kernel⟩, List.mem_of_getElem? (i := 55) (by decide +kernel), List.mem_of_getElem? (i := 309) (by decide +kernel), List.mem_of_getElem? (i := 310) (by decide +kernel)⟩
theorem lw_p4 : lw_okq (⟨"ForgoneShop$Reader", "readNumbers", "(LForgoneShop$Letters;I)I"⟩, 2) := ⟨⟨by decide +kernel, by decide +kernel⟩, List.mem_of_getElem? (i := 41) (by decide +kernel), List.mem_of_getElem? (i := 313) (by decide +kernel), List.mem_of_getElem? (i := 314) (by decide +kernel)⟩
theorem lw_p5 : lw_okq (⟨"ForgoneShop$Reader", "isFigure", "(LForgoneShop$Letters;I)Z"⟩, 2) := ⟨⟨by decide +kernel, by decide +kernel⟩, List.mem_of_getElem? (i := 41) (by decide +kernel), List.mem_of_getElem? (i := 317) (by decide +kernel), List.mem_of_getElem? (i := 318) (by decide +kernel)⟩
theorem lw_p6 : lw_okq (⟨"ForgoneShop$Letters", "letter", "(I)C"⟩, 2) := ⟨⟨by decide +kernel, by decide +kernel⟩, List.mem_of_getElem? (i := 25) (by decide +kernel), List.mem_of_getElem? (i := 321) (by decide +kernel), List.mem_of_getElem? (i := 322) (by decide +kernel)⟩
theorem lw_p7 : lw_okq (⟨"ForgoneShop$Reader", "tell", "(LForgoneShop$Plan;C)Z"⟩, 2) := ⟨⟨by decide +kernel, by decide +kernel⟩, List.mem_of_getElem? (i := 41) (by decide +kernel), List.mem_of_getElem? (i := 331) (by decide +kernel), List.mem_of_getElem? (i := 332) (by decide +kernel)⟩
theorem lw_p8 : lw_okq (⟨"ForgoneShop$Plan", "addPerson", "(I)Z"⟩, 11) := ⟨⟨by decide +kernel, by decide +kernel⟩, List.mem_of_getElem? (i := 55) (by decide +kernel), List.mem_of_getElem? (i := 338) (by decide +kernel), List.mem_of_getElem? (i := 339) (by decide +kernel)⟩
theorem lw_p9 : lw_okq (⟨"ForgoneShop$Plan", "addThing", "(IIII)Z"⟩, 11) := ⟨⟨by decide +kernel, by decide +kernel⟩, List.mem_of_getElem? (i := 55) (by decide +kernel), List.mem_of_getElem? (i := 343) (by decide +kernel), List.mem_of_getElem? (i := 344) (by decide +kernel)⟩
theorem lw_p10 : lw_okq (⟨"ForgoneShop$Plan", "addRate", "(I)Z"⟩, 11) := ⟨⟨by decide +kernel, by decide +kernel⟩, List.mem_of_getElem? (i := 55) (by decide +kernel), List.mem_of_getElem? (i := 348) (by decide +kernel), List.mem_of_getElem? (i := 349) (by decide +kernel)⟩
theorem lw_p11 : lw_okq (⟨"ForgoneShop$Plan", "setShop", "(II)Z"⟩, 11) := ⟨⟨by decide +kernel, by decide +kernel⟩, List.mem_of_getElem? (i := 55) (by decide +kernel), List.mem_of_getElem? (i := 352) (by decide +kernel), List.mem_of_getElem? (i := 353) (by decide +kernel)⟩
theorem lw_p12 : lw_okq (⟨"ForgoneShop$Stand", "begin", "(LForgoneShop$Plan;)V"⟩, 6) := ⟨⟨by decide +kernel, by decide +kernel⟩, List.mem_of_getElem? (i := 113) (by decide +kernel), List.mem_of_getElem? (i := 356) (by decide +kernel), List.mem_of_getElem? (i := 357) (by decide +kernel)⟩
theorem lw_p13 : lw_okq (⟨"ForgoneShop", "isPerson", "(I)Z"⟩, 11) := ⟨⟨by decide +kernel, by decide +kernel⟩, List.mem_of_getElem? (i := 17) (by decide +kernel), List.mem_of_getElem? (i := 422) (by decide +kernel), List.mem_of_getElem? (i := 423) (by decide +kernel)⟩
theorem lw_p14 : lw_okq (⟨"ForgoneShop$Stand", "thingsWith", "(LForgoneShop$Plan;I)I"⟩, 6) := ⟨⟨by decide +kernel, by decide +kernel⟩, List.mem_of_getElem? (i := 113) (by decide +kernel), List.mem_of_getElem? (i := 426) (by decide +kernel), List.mem_of_getElem? (i := 427) (by decide +kernel)⟩
theorem lw_p15 : lw_okq (⟨"ForgoneShop", "isThing", "(I)Z"⟩, 11) := ⟨⟨by decide +kernel, by decide +kernel⟩, List.mem_of_getElem? (i := 17) (by decide +kernel), List.mem_of_getElem? (i := 435) (by decide +kernel), List.mem_of_getElem? (i := 436) (by decide +kernel)⟩
def lw_privs_1 : List (MethodName × Nat) := [(⟨"ForgoneShop$Letters", "add", "(C)Z"⟩, 2), (⟨"ForgoneShop", "layText", "()Z"⟩, 11), (⟨"ForgoneShop$Reader", "readInto", "(LForgoneShop$Plan;LForgoneShop$Letters;)I"⟩, 2), (⟨"ForgoneShop$Plan", "clear", "()V"⟩, 11), (⟨"ForgoneShop$Reader", "readNumbers", "(LForgoneShop$Letters;I)I"⟩, 2), (⟨"ForgoneShop$Reader", "isFigure", "(LForgoneShop$Letters;I)Z"⟩, 2), (⟨"ForgoneShop$Letters", "letter", "(I)C"⟩, 2), (⟨"ForgoneShop$Reader", "tell", "(LForgoneShop$Plan;C)Z"⟩, 2), (⟨"ForgoneShop$Plan", "addPerson", "(I)Z"⟩, 11), (⟨"ForgoneShop$Plan", "addThing", "(IIII)Z"⟩, 11), (⟨"ForgoneShop$Plan", "addRate", "(I)Z"⟩, 11), (⟨"ForgoneShop$Plan", "setShop", "(II)Z"⟩, 11), (⟨"ForgoneShop$Stand", "begin", "(LForgoneShop$Plan;)V"⟩, 6), (⟨"ForgoneShop", "isPerson", "(I)Z"⟩, 11), (⟨"ForgoneShop$Stand", "thingsWith", "(LForgoneShop$Plan;I)I"⟩, 6), (⟨"ForgoneShop", "isThing", "(I)Z"⟩, 11)]
theorem lw_r1 : ∀ q ∈ lw_privs_1, lw_okq q := List.forall_mem_cons.mpr ⟨lw_p0, List.forall_mem_cons.mpr ⟨lw_p1, List.forall_mem_cons.mpr ⟨lw_p2, List.forall_mem_cons.mpr ⟨lw_p3, List.forall_mem_cons.mpr ⟨lw_p4, List.forall_mem_cons.mpr ⟨lw_p5, List.forall_mem_cons.mpr ⟨lw_p6, List.forall_mem_cons.mpr ⟨lw_p7, List.forall_mem_cons.mpr ⟨lw_p8, List.forall_mem_cons.mpr ⟨lw_p9, List.forall_mem_cons.mpr ⟨lw_p10, List.forall_mem_cons.mpr ⟨lw_p11, List.forall_mem_cons.mpr ⟨lw_p12, List.forall_mem_cons.mpr ⟨lw_p13, List.forall_mem_cons.mpr ⟨lw_p14, List.forall_mem_cons.mpr ⟨lw_p15, fun _ h => absurd h List.not_mem_nil⟩⟩⟩⟩⟩⟩⟩⟩⟩⟩⟩⟩⟩⟩⟩⟩
theorem lw_p16 : lw_okq (⟨"ForgoneShop$Stand", "price", "(LForgoneShop$Plan;I)I"⟩, 6) := ⟨⟨by decide +kernel, by decide +kernel⟩, List.mem_of_getElem? (i := 113) (by decide +kernel), List.mem_of_getElem? (i := 439) (by decide +kernel), List.mem_of_getElem? (i := 440) (by decide +kernel)⟩
theorem lw_p17 : lw_okq (⟨"ForgoneShop$Plan", "rate", "(I)I"⟩, 11) := ⟨⟨by decide +kernel, by decide +kernel⟩, List.mem_of_getElem? (i := 55) (by decide +kernel), List.mem_of_getElem? (i := 443) (by decide +kernel), List.mem_of_getElem? (i := 444) (by decide +kernel)⟩
theorem lw_p18 : lw_okq (⟨"ForgoneShop$Stand", "canSell", "(LForgoneShop$Plan;I)Z"⟩, 6) := ⟨⟨by decide +kernel, by decide +kernel⟩, List.mem_of_getElem? (i := 113) (by decide +kernel), List.mem_of_getElem? (i := 457) (by decide +kernel), List.mem_of_getElem? (i := 458) (by decide +kernel)⟩
theorem lw_p19 : lw_okq (⟨"ForgoneShop$Stand", "isOffered", "(LForgoneShop$Plan;I)Z"⟩, 6) := ⟨⟨by decide +kernel, by decide +kernel⟩, List.mem_of_getElem? (i := 113) (by decide +kernel), List.mem_of_getElem? (i := 461) (by decide +kernel), List.mem_of_getElem? (i := 462) (by decide +kernel)⟩
theorem lw_p20 : lw_okq (⟨"ForgoneShop$Memory", "push", "(LForgoneShop$Stand;)V"⟩, 3) := ⟨⟨by decide +kernel, by decide +kernel⟩, List.mem_of_getElem? (i := 145) (by decide +kernel), List.mem_of_getElem? (i := 466) (by decide +kernel), List.mem_of_getElem? (i := 467) (by decide +kernel)⟩
theorem lw_p21 : lw_okq (⟨"ForgoneShop$Memory", "slotAt", "(I)LForgoneShop$Stand;"⟩, 3) := ⟨⟨by decide +kernel, by decide +kernel⟩, List.mem_of_getElem? (i := 145) (by decide +kernel), List.mem_of_getElem? (i := 470) (by decide +kernel), List.mem_of_getElem? (i := 471) (by decide +kernel)⟩
theorem lw_p22 : lw_okq (⟨"ForgoneShop$Stand", "copyFrom", "(LForgoneShop$Stand;)V"⟩, 6) := ⟨⟨by decide +kernel, by decide +kernel⟩, List.mem_of_getElem? (i := 113) (by decide +kernel), List.mem_of_getElem? (i := 474) (by decide +kernel), List.mem_of_getElem? (i := 475) (by decide +kernel)⟩
theorem lw_p23 : lw_okq (⟨"ForgoneShop$Stand", "moveToCellar", "(LForgoneShop$Plan;I)V"⟩, 6) := ⟨⟨by decide +kernel, by decide +kernel⟩, List.mem_of_getElem? (i := 113) (by decide +kernel), List.mem_of_getElem? (i := 481) (by decide +kernel), List.mem_of_getElem? (i := 482) (by decide +kernel)⟩
theorem lw_p24 : lw_okq (⟨"ForgoneShop$Stand", "payPerson", "(II)V"⟩, 6) := ⟨⟨by decide +kernel, by decide +kernel⟩, List.mem_of_getElem? (i := 113) (by decide +kernel), List.mem_of_getElem? (i := 485) (by decide +kernel), List.mem_of_getElem? (i := 486) (by decide +kernel)⟩
theorem lw_p25 : lw_okq (⟨"ForgoneShop$Stand", "canBuyBack", "(LForgoneShop$Plan;I)Z"⟩, 6) := ⟨⟨by decide +kernel, by decide +kernel⟩, List.mem_of_getElem? (i := 113) (by decide +kernel), List.mem_of_getElem? (i := 493) (by decide +kernel), List.mem_of_getElem? (i := 494) (by decide +kernel)⟩
theorem lw_p26 : lw_okq (⟨"ForgoneShop$Stand", "moveToPerson", "(LForgoneShop$Plan;I)V"⟩, 6) := ⟨⟨by decide +kernel, by decide +kernel⟩, List.mem_of_getElem? (i := 113) (by decide +kernel), List.mem_of_getElem? (i := 497) (by decide +kernel), List.mem_of_getElem? (i := 498) (by decide +kernel)⟩
theorem lw_p27 : lw_okq (⟨"ForgoneShop$Stand", "passDay", "(LForgoneShop$Plan;)V"⟩, 6) := ⟨⟨by decide +kernel, by decide +kernel⟩, List.mem_of_getElem? (i := 113) (by decide +kernel), List.mem_of_getElem? (i := 505) (by decide +kernel), List.mem_of_getElem? (i := 506) (by decide +kernel)⟩
theorem lw_p28 : lw_okq (⟨"ForgoneShop$Stand", "goOn", "(LForgoneShop$Plan;I)V"⟩, 6) := ⟨⟨by decide +kernel, by decide +kernel⟩, List.mem_of_getElem? (i := 113) (by decide +kernel), List.mem_of_getElem? (i := 509) (by decide +kernel), List.mem_of_getElem? (i := 510) (by decide +kernel)⟩
theorem lw_p29 : lw_okq (⟨"ForgoneShop$Memory", "popInto", "(LForgoneShop$Stand;)Z"⟩, 3) := ⟨⟨by decide +kernel, by decide +kernel⟩, List.mem_of_getElem? (i := 145) (by decide +kernel), List.mem_of_getElem? (i := 524) (by decide +kernel), List.mem_of_getElem? (i := 525) (by decide +kernel)⟩
theorem lw_p30 : lw_okq (⟨"ForgoneShop", "nearInCellar", "(III)I"⟩, 11) := ⟨⟨by decide +kernel, by decide +kernel⟩, List.mem_of_getElem? (i := 17) (by decide +kernel), List.mem_of_getElem? (i := 532) (by decide +kernel), List.mem_of_getElem? (i := 533) (by decide +kernel)⟩
theorem lw_p31 : lw_okq (⟨"ForgoneShop$Stand", "nearOfCellar", "(LForgoneShop$Plan;)I"⟩, 6) := ⟨⟨by decide +kernel, by decide +kernel⟩, List.mem_of_getElem? (i := 113) (by decide +kernel), List.mem_of_getElem? (i := 542) (by decide +kernel), List.mem_of_getElem? (i := 543) (by decide +kernel)⟩
def lw_privs_2 : List (MethodName × Nat) := [(⟨"ForgoneShop$Stand", "price", "(LForgoneShop$Plan;I)I"⟩, 6), (⟨"ForgoneShop$Plan", "rate", "(I)I"⟩, 11), (⟨"ForgoneShop$Stand", "canSell", "(LForgoneShop$Plan;I)Z"⟩, 6), (⟨"ForgoneShop$Stand", "isOffered", "(LForgoneShop$Plan;I)Z"⟩, 6), (⟨"ForgoneShop$Memory", "push", "(LForgoneShop$Stand;)V"⟩, 3), (⟨"ForgoneShop$Memory", "slotAt", "(I)LForgoneShop$Stand;"⟩, 3), (⟨"ForgoneShop$Stand", "copyFrom", "(LForgoneShop$Stand;)V"⟩, 6), (⟨"ForgoneShop$Stand", "moveToCellar", "(LForgoneShop$Plan;I)V"⟩, 6), (⟨"ForgoneShop$Stand", "payPerson", "(II)V"⟩, 6), (⟨"ForgoneShop$Stand", "canBuyBack", "(LForgoneShop$Plan;I)Z"⟩, 6), (⟨"ForgoneShop$Stand", "moveToPerson", "(LForgoneShop$Plan;I)V"⟩, 6), (⟨"ForgoneShop$Stand", "passDay", "(LForgoneShop$Plan;)V"⟩, 6), (⟨"ForgoneShop$Stand", "goOn", "(LForgoneShop$Plan;I)V"⟩, 6), (⟨"ForgoneShop$Memory", "popInto", "(LForgoneShop$Stand;)Z"⟩, 3), (⟨"ForgoneShop", "nearInCellar", "(III)I"⟩, 11), (⟨"ForgoneShop$Stand", "nearOfCellar", "(LForgoneShop$Plan;)I"⟩, 6)]
theorem lw_r2 : ∀ q ∈ lw_privs_2, lw_okq q := List.forall_mem_cons.mpr ⟨lw_p16, List.forall_mem_cons.mpr ⟨lw_p17, List.forall_mem_cons.mpr ⟨lw_p18, List.forall_mem_cons.mpr ⟨lw_p19, List.forall_mem_cons.mpr ⟨lw_p20, List.forall_mem_cons.mpr ⟨lw_p21, List.forall_mem_cons.mpr ⟨lw_p22, List.forall_mem_cons.mpr ⟨lw_p23, List.forall_mem_cons.mpr ⟨lw_p24, List.forall_mem_cons.mpr ⟨lw_p25, List.forall_mem_cons.mpr ⟨lw_p26, List.forall_mem_cons.mpr ⟨lw_p27, List.forall_mem_cons.mpr ⟨lw_p28, List.forall_mem_cons.mpr ⟨lw_p29, List.forall_mem_cons.mpr ⟨lw_p30, List.forall_mem_cons.mpr ⟨lw_p31, fun _ h => absurd h List.not_mem_nil⟩⟩⟩⟩⟩⟩⟩⟩⟩⟩⟩⟩⟩⟩⟩⟩
theorem lw_p32 : lw_okq (⟨"ForgoneShop$Choice", "offer", "(III)V"⟩, 6) := ⟨⟨by decide +kernel, by decide +kernel⟩, List.mem_of_getElem? (i := 188) (by decide +kernel), List.mem_of_getElem? (i := 551) (by decide +kernel), List.mem_of_getElem? (i := 552) (by decide +kernel)⟩
theorem lw_p33 : lw_okq (⟨"ForgoneShop$Choice", "find", "(IIII)Z"⟩, 6) := ⟨⟨by decide +kernel, by decide +kernel⟩, List.mem_of_getElem? (i := 188) (by decide +kernel), List.mem_of_getElem? (i := 556) (by decide +kernel), List.mem_of_getElem? (i := 557) (by decide +kernel)⟩
theorem lw_p34 : lw_okq (⟨"ForgoneShop$Choice", "addUp", "(I)V"⟩, 6) := ⟨⟨by decide +kernel, by decide +kernel⟩, List.mem_of_getElem? (i := 188) (by decide +kernel), List.mem_of_getElem? (i := 560) (by decide +kernel), List.mem_of_getElem? (i := 561) (by decide +kernel)⟩
theorem lw_p35 : lw_okq (⟨"ForgoneShop", "priceBehind", "(II)I"⟩, 11) := ⟨⟨by decide +kernel, by decide +kernel⟩, List.mem_of_getElem? (i := 17) (by decide +kernel), List.mem_of_getElem? (i := 575) (by decide +kernel), List.mem_of_getElem? (i := 576) (by decide +kernel)⟩
theorem lw_p36 : lw_okq (⟨"ForgoneShop$Exchange", "arrange", "(LForgoneShop$Plan;LForgoneShop$Stand;)V"⟩, 8) := ⟨⟨by decide +kernel, by decide +kernel⟩, List.mem_of_getElem? (i := 215) (by decide +kernel), List.mem_of_getElem? (i := 587) (by decide +kernel), List.mem_of_getElem? (i := 588) (by decide +kernel)⟩
theorem lw_p37 : lw_okq (⟨"ForgoneShop$Exchange", "collect", "(LForgoneShop$Plan;LForgoneShop$Stand;)V"⟩, 8) := ⟨⟨by decide +kernel, by decide +kernel⟩, List.mem_of_getElem? (i := 215) (by decide +kernel), List.mem_of_getElem? (i := 591) (by decide +kernel), List.mem_of_getElem? (i := 592) (by decide +kernel)⟩
theorem lw_p38 : lw_okq (⟨"ForgoneShop$Exchange", "leastFrom", "(LForgoneShop$Plan;I)I"⟩, 8) := ⟨⟨by decide +kernel, by decide +kernel⟩, List.mem_of_getElem? (i := 215) (by decide +kernel), List.mem_of_getElem? (i := 597) (by decide +kernel), List.mem_of_getElem? (i := 598) (by decide +kernel)⟩
theorem lw_p39 : lw_okq (⟨"ForgoneShop$Exchange", "nextThing", "(I)I"⟩, 8) := ⟨⟨by decide +kernel, by decide +kernel⟩, List.mem_of_getElem? (i := 215) (by decide +kernel), List.mem_of_getElem? (i := 601) (by decide +kernel), List.mem_of_getElem? (i := 602) (by decide +kernel)⟩
theorem lw_p40 : lw_okq (⟨"ForgoneShop$Exchange", "leftFor", "(II)I"⟩, 8) := ⟨⟨by decide +kernel, by decide +kernel⟩, List.mem_of_getElem? (i := 215) (by decide +kernel), List.mem_of_getElem? (i := 605) (by decide +kernel), List.mem_of_getElem? (i := 606) (by decide +kernel)⟩
theorem lw_p41 : lw_okq (⟨"ForgoneShop$Exchange", "rueFrom", "(LForgoneShop$Plan;III)I"⟩, 8) := ⟨⟨by decide +kernel, by decide +kernel⟩, List.mem_of_getElem? (i := 215) (by decide +kernel), List.mem_of_getElem? (i := 609) (by decide +kernel), List.mem_of_getElem? (i := 610) (by decide +kernel)⟩
theorem lw_p42 : lw_okq (⟨"ForgoneShop$Exchange", "rueBy", "(LForgoneShop$Plan;II)I"⟩, 8) := ⟨⟨by decide +kernel, by decide +kernel⟩, List.mem_of_getElem? (i := 215) (by decide +kernel), List.mem_of_getElem? (i := 613) (by decide +kernel), List.mem_of_getElem? (i := 614) (by decide +kernel)⟩
theorem lw_p43 : lw_okq (⟨"ForgoneShop$Exchange", "giveOut", "(LForgoneShop$Plan;)V"⟩, 8) := ⟨⟨by decide +kernel, by decide +kernel⟩, List.mem_of_getElem? (i := 215) (by decide +kernel), List.mem_of_getElem? (i := 618) (by decide +kernel), List.mem_of_getElem? (i := 619) (by decide +kernel)⟩
theorem lw_p44 : lw_okq (⟨"ForgoneShop$Exchange", "firstBest", "(LForgoneShop$Plan;II)I"⟩, 8) := ⟨⟨by decide +kernel, by decide +kernel⟩, List.mem_of_getElem? (i := 215) (by decide +kernel), List.mem_of_getElem? (i := 622) (by decide +kernel), List.mem_of_getElem? (i := 623) (by decide +kernel)⟩
theorem lw_p45 : lw_okq (⟨"ForgoneShop$Looks", "add", "(III)Z"⟩, 4) := ⟨⟨by decide +kernel, by decide +kernel⟩, List.mem_of_getElem? (i := 165) (by decide +kernel), List.mem_of_getElem? (i := 630) (by decide +kernel), List.mem_of_getElem? (i := 631) (by decide +kernel)⟩
theorem lw_p46 : lw_okq (⟨"ForgoneShop", "fitsLooks", "(II)Z"⟩, 11) := ⟨⟨by decide +kernel, by decide +kernel⟩, List.mem_of_getElem? (i := 17) (by decide +kernel), List.mem_of_getElem? (i := 643) (by decide +kernel), List.mem_of_getElem? (i := 644) (by decide +kernel)⟩
theorem lw_p47 : lw_okq (⟨"ForgoneShop", "actByDraw", "(II)V"⟩, 11) := ⟨⟨by decide +kernel, by decide +kernel⟩, List.mem_of_getElem? (i := 17) (by decide +kernel), List.mem_of_getElem? (i := 673) (by decide +kernel), List.mem_of_getElem? (i := 674) (by decide +kernel)⟩
def lw_privs_3 : List (MethodName × Nat) := [(⟨"ForgoneShop$Choice", "offer", "(III)V"⟩, 6), (⟨"ForgoneShop$Choice", "find", "(IIII)Z"⟩, 6), (⟨"ForgoneShop$Choice", "addUp", "(I)V"⟩, 6), (⟨"ForgoneShop", "priceBehind", "(II)I"⟩, 11), (⟨"ForgoneShop$Exchange", "arrange", "(LForgoneShop$Plan;LForgoneShop$Stand;)V"⟩, 8), (⟨"ForgoneShop$Exchange", "collect", "(LForgoneShop$Plan;LForgoneShop$Stand;)V"⟩, 8), (⟨"ForgoneShop$Exchange", "leastFrom", "(LForgoneShop$Plan;I)I"⟩, 8), (⟨"ForgoneShop$Exchange", "nextThing", "(I)I"⟩, 8), (⟨"ForgoneShop$Exchange", "leftFor", "(II)I"⟩, 8), (⟨"ForgoneShop$Exchange", "rueFrom", "(LForgoneShop$Plan;III)I"⟩, 8), (⟨"ForgoneShop$Exchange", "rueBy", "(LForgoneShop$Plan;II)I"⟩, 8), (⟨"ForgoneShop$Exchange", "giveOut", "(LForgoneShop$Plan;)V"⟩, 8), (⟨"ForgoneShop$Exchange", "firstBest", "(LForgoneShop$Plan;II)I"⟩, 8), (⟨"ForgoneShop$Looks", "add", "(III)Z"⟩, 4), (⟨"ForgoneShop", "fitsLooks", "(II)Z"⟩, 11), (⟨"ForgoneShop", "actByDraw", "(II)V"⟩, 11)]
theorem lw_r3 : ∀ q ∈ lw_privs_3, lw_okq q := List.forall_mem_cons.mpr ⟨lw_p32, List.forall_mem_cons.mpr ⟨lw_p33, List.forall_mem_cons.mpr ⟨lw_p34, List.forall_mem_cons.mpr ⟨lw_p35, List.forall_mem_cons.mpr ⟨lw_p36, List.forall_mem_cons.mpr ⟨lw_p37, List.forall_mem_cons.mpr ⟨lw_p38, List.forall_mem_cons.mpr ⟨lw_p39, List.forall_mem_cons.mpr ⟨lw_p40, List.forall_mem_cons.mpr ⟨lw_p41, List.forall_mem_cons.mpr ⟨lw_p42, List.forall_mem_cons.mpr ⟨lw_p43, List.forall_mem_cons.mpr ⟨lw_p44, List.forall_mem_cons.mpr ⟨lw_p45, List.forall_mem_cons.mpr ⟨lw_p46, List.forall_mem_cons.mpr ⟨lw_p47, fun _ h => absurd h List.not_mem_nil⟩⟩⟩⟩⟩⟩⟩⟩⟩⟩⟩⟩⟩⟩⟩⟩
theorem lw_p48 : lw_okq (⟨"ForgoneShop$Stand", "rueOfAll", "(LForgoneShop$Plan;)I"⟩, 6) := ⟨⟨by decide +kernel, by decide +kernel⟩, List.mem_of_getElem? (i := 113) (by decide +kernel), List.mem_of_getElem? (i := 680) (by decide +kernel), List.mem_of_getElem? (i := 681) (by decide +kernel)⟩
theorem lw_p49 : lw_okq (⟨"ForgoneShop$Stand", "howMany", "(LForgoneShop$Plan;I)I"⟩, 6) := ⟨⟨by decide +kernel, by decide +kernel⟩, List.mem_of_getElem? (i := 113) (by decide +kernel), List.mem_of_getElem? (i := 696) (by decide +kernel), List.mem_of_getElem? (i := 697) (by decide +kernel)⟩
theorem lw_p50 : lw_okq (⟨"ForgoneShopModel", "sets", "(IIIII)V"⟩, 39) := ⟨⟨by decide +kernel, by decide +kernel⟩, List.mem_of_getElem? (i := 700) (by decide +kernel), List.mem_of_getElem? (i := 706) (by decide +kernel), List.mem_of_getElem? (i := 707) (by decide +kernel)⟩
theorem lw_p51 : lw_okq (⟨"ForgoneShopModel", "readsItem", "()Z"⟩, 39) := ⟨⟨by decide +kernel, by decide +kernel⟩, List.mem_of_getElem? (i := 700) (by decide +kernel), List.mem_of_getElem? (i := 843) (by decide +kernel), List.mem_of_getElem? (i := 844) (by decide +kernel)⟩
theorem lw_p52 : lw_okq (⟨"ForgoneShopModel", "here", "()I"⟩, 39) := ⟨⟨by decide +kernel, by decide +kernel⟩, List.mem_of_getElem? (i := 700) (by decide +kernel), List.mem_of_getElem? (i := 847) (by decide +kernel), List.mem_of_getElem? (i := 848) (by decide +kernel)⟩
theorem lw_p53 : lw_okq (⟨"ForgoneShopModel", "readsPerson", "()Z"⟩, 39) := ⟨⟨by decide +kernel, by decide +kernel⟩, List.mem_of_getElem? (i := 700) (by decide +kernel), List.mem_of_getElem? (i := 851) (by decide +kernel), List.mem_of_getElem? (i := 852) (by decide +kernel)⟩
theorem lw_p54 : lw_okq (⟨"ForgoneShopModel", "number", "(III)Z"⟩, 39) := ⟨⟨by decide +kernel, by decide +kernel⟩, List.mem_of_getElem? (i := 700) (by decide +kernel), List.mem_of_getElem? (i := 855) (by decide +kernel), List.mem_of_getElem? (i := 856) (by decide +kernel)⟩
theorem lw_p55 : lw_okq (⟨"ForgoneShopModel", "isFigure", "()Z"⟩, 39) := ⟨⟨by decide +kernel, by decide +kernel⟩, List.mem_of_getElem? (i := 700) (by decide +kernel), List.mem_of_getElem? (i := 859) (by decide +kernel), List.mem_of_getElem? (i := 860) (by decide +kernel)⟩
theorem lw_p56 : lw_okq (⟨"ForgoneShopModel", "readsThing", "()Z"⟩, 39) := ⟨⟨by decide +kernel, by decide +kernel⟩, List.mem_of_getElem? (i := 700) (by decide +kernel), List.mem_of_getElem? (i := 863) (by decide +kernel), List.mem_of_getElem? (i := 864) (by decide +kernel)⟩
theorem lw_p57 : lw_okq (⟨"ForgoneShopModel", "readsRate", "()Z"⟩, 39) := ⟨⟨by decide +kernel, by decide +kernel⟩, List.mem_of_getElem? (i := 700) (by decide +kernel), List.mem_of_getElem? (i := 867) (by decide +kernel), List.mem_of_getElem? (i := 868) (by decide +kernel)⟩
theorem lw_p58 : lw_okq (⟨"ForgoneShopModel", "readsShop", "()Z"⟩, 39) := ⟨⟨by decide +kernel, by decide +kernel⟩, List.mem_of_getElem? (i := 700) (by decide +kernel), List.mem_of_getElem? (i := 871) (by decide +kernel), List.mem_of_getElem? (i := 872) (by decide +kernel)⟩
theorem lw_p59 : lw_okq (⟨"ForgoneShopModel", "isPerson", "(I)Z"⟩, 39) := ⟨⟨by decide +kernel, by decide +kernel⟩, List.mem_of_getElem? (i := 700) (by decide +kernel), List.mem_of_getElem? (i := 884) (by decide +kernel), List.mem_of_getElem? (i := 885) (by decide +kernel)⟩
theorem lw_p60 : lw_okq (⟨"ForgoneShopModel", "thoseWith", "(I)I"⟩, 39) := ⟨⟨by decide +kernel, by decide +kernel⟩, List.mem_of_getElem? (i := 700) (by decide +kernel), List.mem_of_getElem? (i := 888) (by decide +kernel), List.mem_of_getElem? (i := 889) (by decide +kernel)⟩
theorem lw_p61 : lw_okq (⟨"ForgoneShopModel", "isThing", "(I)Z"⟩, 39) := ⟨⟨by decide +kernel, by decide +kernel⟩, List.mem_of_getElem? (i := 700) (by decide +kernel), List.mem_of_getElem? (i := 896) (by decide +kernel), List.mem_of_getElem? (i := 897) (by decide +kernel)⟩
theorem lw_p62 : lw_okq (⟨"ForgoneShopModel", "price", "(I)I"⟩, 39) := ⟨⟨by decide +kernel, by decide +kernel⟩, List.mem_of_getElem? (i := 700) (by decide +kernel), List.mem_of_getElem? (i := 900) (by decide +kernel), List.mem_of_getElem? (i := 901) (by decide +kernel)⟩
theorem lw_p63 : lw_okq (⟨"ForgoneShopModel", "rateOf", "(I)I"⟩, 39) := ⟨⟨by decide +kernel, by decide +kernel⟩, List.mem_of_getElem? (i := 700) (by decide +kernel), List.mem_of_getElem? (i := 904) (by decide +kernel), List.mem_of_getElem? (i := 905) (by decide +kernel)⟩
def lw_privs_4 : List (MethodName × Nat) := [(⟨"ForgoneShop$Stand", "rueOfAll", "(LForgoneShop$Plan;)I"⟩, 6), (⟨"ForgoneShop$Stand", "howMany", "(LForgoneShop$Plan;I)I"⟩, 6), (⟨"ForgoneShopModel", "sets", "(IIIII)V"⟩, 39), (⟨"ForgoneShopModel", "readsItem", "()Z"⟩, 39), (⟨"ForgoneShopModel", "here", "()I"⟩, 39), (⟨"ForgoneShopModel", "readsPerson", "()Z"⟩, 39), (⟨"ForgoneShopModel", "number", "(III)Z"⟩, 39), (⟨"ForgoneShopModel", "isFigure", "()Z"⟩, 39), (⟨"ForgoneShopModel", "readsThing", "()Z"⟩, 39), (⟨"ForgoneShopModel", "readsRate", "()Z"⟩, 39), (⟨"ForgoneShopModel", "readsShop", "()Z"⟩, 39), (⟨"ForgoneShopModel", "isPerson", "(I)Z"⟩, 39), (⟨"ForgoneShopModel", "thoseWith", "(I)I"⟩, 39), (⟨"ForgoneShopModel", "isThing", "(I)Z"⟩, 39), (⟨"ForgoneShopModel", "price", "(I)I"⟩, 39), (⟨"ForgoneShopModel", "rateOf", "(I)I"⟩, 39)]
theorem lw_r4 : ∀ q ∈ lw_privs_4, lw_okq q := List.forall_mem_cons.mpr ⟨lw_p48, List.forall_mem_cons.mpr ⟨lw_p49, List.forall_mem_cons.mpr ⟨lw_p50, List.forall_mem_cons.mpr ⟨lw_p51, List.forall_mem_cons.mpr ⟨lw_p52, List.forall_mem_cons.mpr ⟨lw_p53, List.forall_mem_cons.mpr ⟨lw_p54, List.forall_mem_cons.mpr ⟨lw_p55, List.forall_mem_cons.mpr ⟨lw_p56, List.forall_mem_cons.mpr ⟨lw_p57, List.forall_mem_cons.mpr ⟨lw_p58, List.forall_mem_cons.mpr ⟨lw_p59, List.forall_mem_cons.mpr ⟨lw_p60, List.forall_mem_cons.mpr ⟨lw_p61, List.forall_mem_cons.mpr ⟨lw_p62, List.forall_mem_cons.mpr ⟨lw_p63, fun _ h => absurd h List.not_mem_nil⟩⟩⟩⟩⟩⟩⟩⟩⟩⟩⟩⟩⟩⟩⟩⟩
theorem lw_p64 : lw_okq (⟨"ForgoneShopModel", "maySell", "(I)Z"⟩, 39) := ⟨⟨by decide +kernel, by decide +kernel⟩, List.mem_of_getElem? (i := 700) (by decide +kernel), List.mem_of_getElem? (i := 916) (by decide +kernel), List.mem_of_getElem? (i := 917) (by decide +kernel)⟩
theorem lw_p65 : lw_okq (⟨"ForgoneShopModel", "notes", "()V"⟩, 39) := ⟨⟨by decide +kernel, by decide +kernel⟩, List.mem_of_getElem? (i := 700) (by decide +kernel), List.mem_of_getElem? (i := 920) (by decide +kernel), List.mem_of_getElem? (i := 921) (by decide +kernel)⟩
theorem lw_p66 : lw_okq (⟨"ForgoneShopModel", "lays", "([II)V"⟩, 39) := ⟨⟨by decide +kernel, by decide +kernel⟩, List.mem_of_getElem? (i := 700) (by decide +kernel), List.mem_of_getElem? (i := 924) (by decide +kernel), List.mem_of_getElem? (i := 925) (by decide +kernel)⟩
theorem lw_p67 : lw_okq (⟨"ForgoneShopModel", "sells", "(I)V"⟩, 39) := ⟨⟨by decide +kernel, by decide +kernel⟩, List.mem_of_getElem? (i := 700) (by decide +kernel), List.mem_of_getElem? (i := 928) (by decide +kernel), List.mem_of_getElem? (i := 929) (by decide +kernel)⟩
theorem lw_p68 : lw_okq (⟨"ForgoneShopModel", "mayBuy", "(I)Z"⟩, 39) := ⟨⟨by decide +kernel, by decide +kernel⟩, List.mem_of_getElem? (i := 700) (by decide +kernel), List.mem_of_getElem? (i := 936) (by decide +kernel), List.mem_of_getElem? (i := 937) (by decide +kernel)⟩
theorem lw_p69 : lw_okq (⟨"ForgoneShopModel", "buys", "(I)V"⟩, 39) := ⟨⟨by decide +kernel, by decide +kernel⟩, List.mem_of_getElem? (i := 700) (by decide +kernel), List.mem_of_getElem? (i := 940) (by decide +kernel), List.mem_of_getElem? (i := 941) (by decide +kernel)⟩
theorem lw_p70 : lw_okq (⟨"ForgoneShopModel", "goesOn", "(I)V"⟩, 39) := ⟨⟨by decide +kernel, by decide +kernel⟩, List.mem_of_getElem? (i := 700) (by decide +kernel), List.mem_of_getElem? (i := 948) (by decide +kernel), List.mem_of_getElem? (i := 949) (by decide +kernel)⟩
theorem lw_p71 : lw_okq (⟨"ForgoneShopModel", "passes", "()V"⟩, 39) := ⟨⟨by decide +kernel, by decide +kernel⟩, List.mem_of_getElem? (i := 700) (by decide +kernel), List.mem_of_getElem? (i := 952) (by decide +kernel), List.mem_of_getElem? (i := 953) (by decide +kernel)⟩
theorem lw_p72 : lw_okq (⟨"ForgoneShopModel", "takes", "([II)V"⟩, 39) := ⟨⟨by decide +kernel, by decide +kernel⟩, List.mem_of_getElem? (i := 700) (by decide +kernel), List.mem_of_getElem? (i := 963) (by decide +kernel), List.mem_of_getElem? (i := 964) (by decide +kernel)⟩
theorem lw_p73 : lw_okq (⟨"ForgoneShopModel", "begin", "()V"⟩, 39) := ⟨⟨by decide +kernel, by decide +kernel⟩, List.mem_of_getElem? (i := 700) (by decide +kernel), List.mem_of_getElem? (i := 971) (by decide +kernel), List.mem_of_getElem? (i := 972) (by decide +kernel)⟩
theorem lw_p74 : lw_okq (⟨"ForgoneShopModel", "putBack", "()V"⟩, 39) := ⟨⟨by decide +kernel, by decide +kernel⟩, List.mem_of_getElem? (i := 700) (by decide +kernel), List.mem_of_getElem? (i := 975) (by decide +kernel), List.mem_of_getElem? (i := 976) (by decide +kernel)⟩
theorem lw_p75 : lw_okq (⟨"ForgoneShopModel", "nearIn", "()I"⟩, 39) := ⟨⟨by decide +kernel, by decide +kernel⟩, List.mem_of_getElem? (i := 700) (by decide +kernel), List.mem_of_getElem? (i := 983) (by decide +kernel), List.mem_of_getElem? (i := 984) (by decide +kernel)⟩
theorem lw_p76 : lw_okq (⟨"ForgoneShopModel", "takable", "()I"⟩, 39) := ⟨⟨by decide +kernel, by decide +kernel⟩, List.mem_of_getElem? (i := 700) (by decide +kernel), List.mem_of_getElem? (i := 991) (by decide +kernel), List.mem_of_getElem? (i := 992) (by decide +kernel)⟩
theorem lw_p77 : lw_okq (⟨"ForgoneShopModel", "sumOf", "(IZ)I"⟩, 39) := ⟨⟨by decide +kernel, by decide +kernel⟩, List.mem_of_getElem? (i := 700) (by decide +kernel), List.mem_of_getElem? (i := 996) (by decide +kernel), List.mem_of_getElem? (i := 997) (by decide +kernel)⟩
theorem lw_p78 : lw_okq (⟨"ForgoneShopModel", "setCosts", "()V"⟩, 39) := ⟨⟨by decide +kernel, by decide +kernel⟩, List.mem_of_getElem? (i := 700) (by decide +kernel), List.mem_of_getElem? (i := 1019) (by decide +kernel), List.mem_of_getElem? (i := 1020) (by decide +kernel)⟩
theorem lw_p79 : lw_okq (⟨"ForgoneShopModel", "costOf", "(II)I"⟩, 39) := ⟨⟨by decide +kernel, by decide +kernel⟩, List.mem_of_getElem? (i := 700) (by decide +kernel), List.mem_of_getElem? (i := 1026) (by decide +kernel), List.mem_of_getElem? (i := 1027) (by decide +kernel)⟩
def lw_privs_5 : List (MethodName × Nat) := [(⟨"ForgoneShopModel", "maySell", "(I)Z"⟩, 39), (⟨"ForgoneShopModel", "notes", "()V"⟩, 39), (⟨"ForgoneShopModel", "lays", "([II)V"⟩, 39), (⟨"ForgoneShopModel", "sells", "(I)V"⟩, 39), (⟨"ForgoneShopModel", "mayBuy", "(I)Z"⟩, 39), (⟨"ForgoneShopModel", "buys", "(I)V"⟩, 39), (⟨"ForgoneShopModel", "goesOn", "(I)V"⟩, 39), (⟨"ForgoneShopModel", "passes", "()V"⟩, 39), (⟨"ForgoneShopModel", "takes", "([II)V"⟩, 39), (⟨"ForgoneShopModel", "begin", "()V"⟩, 39), (⟨"ForgoneShopModel", "putBack", "()V"⟩, 39), (⟨"ForgoneShopModel", "nearIn", "()I"⟩, 39), (⟨"ForgoneShopModel", "takable", "()I"⟩, 39), (⟨"ForgoneShopModel", "sumOf", "(IZ)I"⟩, 39), (⟨"ForgoneShopModel", "setCosts", "()V"⟩, 39), (⟨"ForgoneShopModel", "costOf", "(II)I"⟩, 39)]
theorem lw_r5 : ∀ q ∈ lw_privs_5, lw_okq q := List.forall_mem_cons.mpr ⟨lw_p64, List.forall_mem_cons.mpr ⟨lw_p65, List.forall_mem_cons.mpr ⟨lw_p66, List.forall_mem_cons.mpr ⟨lw_p67, List.forall_mem_cons.mpr ⟨lw_p68, List.forall_mem_cons.mpr ⟨lw_p69, List.forall_mem_cons.mpr ⟨lw_p70, List.forall_mem_cons.mpr ⟨lw_p71, List.forall_mem_cons.mpr ⟨lw_p72, List.forall_mem_cons.mpr ⟨lw_p73, List.forall_mem_cons.mpr ⟨lw_p74, List.forall_mem_cons.mpr ⟨lw_p75, List.forall_mem_cons.mpr ⟨lw_p76, List.forall_mem_cons.mpr ⟨lw_p77, List.forall_mem_cons.mpr ⟨lw_p78, List.forall_mem_cons.mpr ⟨lw_p79, fun _ h => absurd h List.not_mem_nil⟩⟩⟩⟩⟩⟩⟩⟩⟩⟩⟩⟩⟩⟩⟩⟩
theorem lw_p80 : lw_okq (⟨"ForgoneShopModel", "nearBy", "(III)I"⟩, 39) := ⟨⟨by decide +kernel, by decide +kernel⟩, List.mem_of_getElem? (i := 700) (by decide +kernel), List.mem_of_getElem? (i := 1042) (by decide +kernel), List.mem_of_getElem? (i := 1043) (by decide +kernel)⟩
theorem lw_p81 : lw_okq (⟨"ForgoneShopModel", "thoseIn", "(I)I"⟩, 39) := ⟨⟨by decide +kernel, by decide +kernel⟩, List.mem_of_getElem? (i := 700) (by decide +kernel), List.mem_of_getElem? (i := 1084) (by decide +kernel), List.mem_of_getElem? (i := 1085) (by decide +kernel)⟩
def lw_privs_6 : List (MethodName × Nat) := [(⟨"ForgoneShopModel", "nearBy", "(III)I"⟩, 39), (⟨"ForgoneShopModel", "thoseIn", "(I)I"⟩, 39)]
theorem lw_r6 : ∀ q ∈ lw_privs_6, lw_okq q := List.forall_mem_cons.mpr ⟨lw_p80, List.forall_mem_cons.mpr ⟨lw_p81, fun _ h => absurd h List.not_mem_nil⟩⟩
def lw_privs : List (MethodName × Nat) := lw_privs_1 ++ (lw_privs_2 ++ (lw_privs_3 ++ (lw_privs_4 ++ (lw_privs_5 ++ (lw_privs_6)))))
def lw_tbl : List Cond := k2_sels lw_privs ++ tables_1
theorem lw_privs_ok : ∀ q ∈ lw_privs, lw_okq q := by
  show ∀ q ∈ lw_privs_1 ++ (lw_privs_2 ++ (lw_privs_3 ++ (lw_privs_4 ++ (lw_privs_5 ++ (lw_privs_6))))), lw_okq q
  exact List.forall_mem_append.mpr ⟨lw_r1, List.forall_mem_append.mpr ⟨lw_r2, List.forall_mem_append.mpr ⟨lw_r3, List.forall_mem_append.mpr ⟨lw_r4, List.forall_mem_append.mpr ⟨lw_r5, lw_r6⟩⟩⟩⟩⟩
/-- the words that ride along with a method's code: all of the tables' words that keep -/
def gw : List Cond := lw_tbl.filter goodWord
theorem gw_in {wd : Cond} (i : Nat) (h : lw_tbl[i]? = some wd) (hg : goodWord wd = true) : wd ∈ gw := List.mem_filter.mpr ⟨List.mem_of_getElem? h, hg⟩
theorem gw_good {wd : Cond} (h : wd ∈ gw) : (wd.onTables && wd.keeps) = true ∨ ∃ ty, wd = .arrayClass ty := good_of_word (List.mem_filter.mp h).2
/-- the links to nest mates -/
def isNest : Cond → Bool
  | .fieldLinkNest _ _ _ _ _ _ => true
  | .methodLinkNest _ _ _ _ => true
  | _ => false
def nw : List Cond := lw_tbl.filter isNest
theorem nw_in {wd : Cond} (i : Nat) (h : lw_tbl[i]? = some wd) (hg : isNest wd = true) : wd ∈ nw := List.mem_filter.mpr ⟨List.mem_of_getElem? h, hg⟩

def R_C : String := "ForgoneShop$Choice"
def T_C : u_T := fun k => match k with
  | 0 => ("ForgoneShop$Choice", "priceOfThing", "[I", true)
  | 1 => ("ForgoneShop$Choice", "worthOfThing", "[I", true)
  | 2 => ("ForgoneShop$Choice", "priceOfSet", "[I", true)
  | 3 => ("ForgoneShop$Choice", "worthOfSet", "[I", true)
  | 4 => ("ForgoneShop$Choice", "set", "I", false)
  | _ => ("ForgoneShop$Choice", "worth", "I", false)
def t_C : Nat → FieldType := fun k => match k with
  | 0 => .array .int
  | 1 => .array .int
  | 2 => .array .int
  | 3 => .array .int
  | 4 => .int
  | _ => .int
theorem n_C : ∀ a, a < 6 → ∀ b, b < 6 → a ≠ b → (T_C a).2.1 ≠ (T_C b).2.1 := by decide +kernel
theorem t_C_ok : ∀ k, k < 6 → parseFieldDescriptor (T_C k).2.2.1 = some (t_C k) := by decide +kernel
theorem in_C : ∀ wd ∈ u_ws R_C T_C 6, wd ∈ gw := by decide +kernel
def R_E : String := "ForgoneShop$Exchange"
def T_E : u_T := fun k => match k with
  | 0 => ("ForgoneShop$Exchange", "moved", "[I", true)
  | 1 => ("ForgoneShop$Exchange", "quota", "[I", true)
  | 2 => ("ForgoneShop$Exchange", "weight", "[I", true)
  | 3 => ("ForgoneShop$Exchange", "leastOfCode", "[I", true)
  | 4 => ("ForgoneShop$Exchange", "holder", "[I", true)
  | 5 => ("ForgoneShop$Exchange", "size", "I", false)
  | 6 => ("ForgoneShop$Exchange", "codes", "I", false)
  | _ => ("ForgoneShop$Exchange", "least", "I", false)
def t_E : Nat → FieldType := fun k => match k with
  | 0 => .array .int
  | 1 => .array .int
  | 2 => .array .int
  | 3 => .array .int
  | 4 => .array .int
  | 5 => .int
  | 6 => .int
  | _ => .int
theorem n_E : ∀ a, a < 8 → ∀ b, b < 8 → a ≠ b → (T_E a).2.1 ≠ (T_E b).2.1 := by decide +kernel
theorem t_E_ok : ∀ k, k < 8 → parseFieldDescriptor (T_E k).2.2.1 = some (t_E k) := by decide +kernel
theorem in_E : ∀ wd ∈ u_ws R_E T_E 8, wd ∈ gw := by decide +kernel
def R_L : String := "ForgoneShop$Letters"
def T_L : u_T := fun k => match k with
  | 0 => ("ForgoneShop$Letters", "signs", "[C", true)
  | _ => ("ForgoneShop$Letters", "size", "I", false)
def t_L : Nat → FieldType := fun k => match k with
  | 0 => .array .char
  | _ => .int
theorem n_L : ∀ a, a < 2 → ∀ b, b < 2 → a ≠ b → (T_L a).2.1 ≠ (T_L b).2.1 := by decide +kernel
theorem t_L_ok : ∀ k, k < 2 → parseFieldDescriptor (T_L k).2.2.1 = some (t_L k) := by decide +kernel
theorem in_L : ∀ wd ∈ u_ws R_L T_L 2, wd ∈ gw := by decide +kernel
def R_K : String := "ForgoneShop$Looks"
def T_K : u_T := fun k => match k with
  | 0 => ("ForgoneShop$Looks", "thing", "[I", true)
  | 1 => ("ForgoneShop$Looks", "days", "[I", true)
  | 2 => ("ForgoneShop$Looks", "near", "[I", true)
  | _ => ("ForgoneShop$Looks", "size", "I", false)
def t_K : Nat → FieldType := fun k => match k with
  | 0 => .array .int
  | 1 => .array .int
  | 2 => .array .int
  | _ => .int
theorem n_K : ∀ a, a < 4 → ∀ b, b < 4 → a ≠ b → (T_K a).2.1 ≠ (T_K b).2.1 := by decide +kernel
theorem t_K_ok : ∀ k, k < 4 → parseFieldDescriptor (T_K k).2.2.1 = some (t_K k) := by decide +kernel
theorem in_K : ∀ wd ∈ u_ws R_K T_K 4, wd ∈ gw := by decide +kernel
def R_M : String := "ForgoneShop$Memory"
def T_M : u_T := fun k => match k with
  | 0 => ("ForgoneShop$Memory", "ring", "[LForgoneShop$Stand;", true)
  | 1 => ("ForgoneShop$Memory", "next", "I", false)
  | _ => ("ForgoneShop$Memory", "held", "I", false)
def t_M : Nat → FieldType := fun k => match k with
  | 0 => .array (.object "ForgoneShop$Stand")
  | 1 => .int
  | _ => .int
theorem n_M : ∀ a, a < 3 → ∀ b, b < 3 → a ≠ b → (T_M a).2.1 ≠ (T_M b).2.1 := by decide +kernel
theorem t_M_ok : ∀ k, k < 3 → parseFieldDescriptor (T_M k).2.2.1 = some (t_M k) := by decide +kernel
theorem in_M : ∀ wd ∈ u_ws R_M T_M 3, wd ∈ gw := by decide +kernel
def R_P : String := "ForgoneShop$Plan"
def T_P : u_T := fun k => match k with
  | 0 => ("ForgoneShop$Plan", "persons", "I", false)
  | 1 => ("ForgoneShop$Plan", "money", "[I", true)
  | 2 => ("ForgoneShop$Plan", "things", "I", false)
  | 3 => ("ForgoneShop$Plan", "owner", "[I", true)
  | 4 => ("ForgoneShop$Plan", "kind", "[I", true)
  | 5 => ("ForgoneShop$Plan", "near", "[I", true)
  | 6 => ("ForgoneShop$Plan", "rued", "[I", true)
  | 7 => ("ForgoneShop$Plan", "rates", "I", false)
  | 8 => ("ForgoneShop$Plan", "rateRow", "[I", true)
  | 9 => ("ForgoneShop$Plan", "shopMoney", "I", false)
  | _ => ("ForgoneShop$Plan", "leastNear", "I", false)
def t_P : Nat → FieldType := fun k => match k with
  | 0 => .int
  | 1 => .array .int
  | 2 => .int
  | 3 => .array .int
  | 4 => .array .int
  | 5 => .array .int
  | 6 => .array .int
  | 7 => .int
  | 8 => .array .int
  | 9 => .int
  | _ => .int
theorem n_P : ∀ a, a < 11 → ∀ b, b < 11 → a ≠ b → (T_P a).2.1 ≠ (T_P b).2.1 := by decide +kernel
theorem t_P_ok : ∀ k, k < 11 → parseFieldDescriptor (T_P k).2.2.1 = some (t_P k) := by decide +kernel
theorem in_P : ∀ wd ∈ u_ws R_P T_P 11, wd ∈ gw := by decide +kernel
def R_R : String := "ForgoneShop$Reader"
def T_R : u_T := fun k => match k with
  | 0 => ("ForgoneShop$Reader", "numbers", "[I", true)
  | _ => ("ForgoneShop$Reader", "howMany", "I", false)
def t_R : Nat → FieldType := fun k => match k with
  | 0 => .array .int
  | _ => .int
theorem n_R : ∀ a, a < 2 → ∀ b, b < 2 → a ≠ b → (T_R a).2.1 ≠ (T_R b).2.1 := by decide +kernel
theorem t_R_ok : ∀ k, k < 2 → parseFieldDescriptor (T_R k).2.2.1 = some (t_R k) := by decide +kernel
theorem in_R : ∀ wd ∈ u_ws R_R T_R 2, wd ∈ gw := by decide +kernel
def R_S : String := "ForgoneShop$Stand"
def T_S : u_T := fun k => match k with
  | 0 => ("ForgoneShop$Stand", "day", "I", false)
  | 1 => ("ForgoneShop$Stand", "shopMoney", "I", false)
  | 2 => ("ForgoneShop$Stand", "money", "[I", true)
  | 3 => ("ForgoneShop$Stand", "rue", "[I", true)
  | 4 => ("ForgoneShop$Stand", "near", "[I", true)
  | _ => ("ForgoneShop$Stand", "place", "[I", true)
def t_S : Nat → FieldType := fun k => match k with
  | 0 => .int
  | 1 => .int
  | 2 => .array .int
  | 3 => .array .int
  | 4 => .array .int
  | _ => .array .int
theorem n_S : ∀ a, a < 6 → ∀ b, b < 6 → a ≠ b → (T_S a).2.1 ≠ (T_S b).2.1 := by decide +kernel
theorem t_S_ok : ∀ k, k < 6 → parseFieldDescriptor (T_S k).2.2.1 = some (t_S k) := by decide +kernel
theorem in_S : ∀ wd ∈ u_ws R_S T_S 6, wd ∈ gw := by decide +kernel
def R_F : String := "ForgoneShop"
def T_F : u_T := fun k => match k with
  | 0 => ("ForgoneShop", "text", "LForgoneShop$Letters;", true)
  | 1 => ("ForgoneShop", "reader", "LForgoneShop$Reader;", true)
  | 2 => ("ForgoneShop", "plan", "LForgoneShop$Plan;", false)
  | 3 => ("ForgoneShop", "spare", "LForgoneShop$Plan;", false)
  | 4 => ("ForgoneShop", "now", "LForgoneShop$Stand;", true)
  | 5 => ("ForgoneShop", "trial", "LForgoneShop$Stand;", true)
  | 6 => ("ForgoneShop", "done", "LForgoneShop$Memory;", true)
  | 7 => ("ForgoneShop", "kept", "LForgoneShop$Memory;", true)
  | 8 => ("ForgoneShop", "looks", "LForgoneShop$Looks;", true)
  | 9 => ("ForgoneShop", "choice", "LForgoneShop$Choice;", true)
  | _ => ("ForgoneShop", "exchange", "LForgoneShop$Exchange;", true)
def t_F : Nat → FieldType := fun k => match k with
  | 0 => .object "ForgoneShop$Letters"
  | 1 => .object "ForgoneShop$Reader"
  | 2 => .object "ForgoneShop$Plan"
  | 3 => .object "ForgoneShop$Plan"
  | 4 => .object "ForgoneShop$Stand"
  | 5 => .object "ForgoneShop$Stand"
  | 6 => .object "ForgoneShop$Memory"
  | 7 => .object "ForgoneShop$Memory"
  | 8 => .object "ForgoneShop$Looks"
  | 9 => .object "ForgoneShop$Choice"
  | _ => .object "ForgoneShop$Exchange"
theorem n_F : ∀ a, a < 11 → ∀ b, b < 11 → a ≠ b → (T_F a).2.1 ≠ (T_F b).2.1 := by decide +kernel
theorem t_F_ok : ∀ k, k < 11 → parseFieldDescriptor (T_F k).2.2.1 = some (t_F k) := by decide +kernel
theorem in_F : ∀ wd ∈ u_ws R_F T_F 11, wd ∈ gw := by decide +kernel
def R_Z : String := "ForgoneShopModel"
def T_Z : u_T := fun k => match k with
  | 0 => ("ForgoneShopModel", "persons", "I", false)
  | 1 => ("ForgoneShopModel", "things", "I", false)
  | 2 => ("ForgoneShopModel", "rateMany", "I", false)
  | 3 => ("ForgoneShopModel", "limit", "I", false)
  | 4 => ("ForgoneShopModel", "rates", "[I", true)
  | 5 => ("ForgoneShopModel", "whose", "[I", true)
  | 6 => ("ForgoneShopModel", "kindOf", "[I", true)
  | 7 => ("ForgoneShopModel", "rued", "[I", true)
  | 8 => ("ForgoneShopModel", "day", "I", false)
  | 9 => ("ForgoneShopModel", "shopMoney", "I", false)
  | 10 => ("ForgoneShopModel", "money", "[I", true)
  | 11 => ("ForgoneShopModel", "rues", "[I", true)
  | 12 => ("ForgoneShopModel", "near", "[I", true)
  | 13 => ("ForgoneShopModel", "where", "[I", true)
  | 14 => ("ForgoneShopModel", "seenMany", "I", false)
  | 15 => ("ForgoneShopModel", "seenOf", "[I", true)
  | 16 => ("ForgoneShopModel", "seenBehind", "[I", true)
  | 17 => ("ForgoneShopModel", "seenNear", "[I", true)
  | 18 => ("ForgoneShopModel", "text", "[I", true)
  | 19 => ("ForgoneShopModel", "size", "I", false)
  | 20 => ("ForgoneShopModel", "readAt", "I", false)
  | 21 => ("ForgoneShopModel", "readPersons", "I", false)
  | 22 => ("ForgoneShopModel", "readThings", "I", false)
  | 23 => ("ForgoneShopModel", "readRates", "I", false)
  | 24 => ("ForgoneShopModel", "readShop", "I", false)
  | 25 => ("ForgoneShopModel", "readLimit", "I", false)
  | 26 => ("ForgoneShopModel", "readMoney", "[I", true)
  | 27 => ("ForgoneShopModel", "readThing", "[I", true)
  | 28 => ("ForgoneShopModel", "readRate", "[I", true)
  | 29 => ("ForgoneShopModel", "readNumber", "I", false)
  | 30 => ("ForgoneShopModel", "ahead", "[I", true)
  | 31 => ("ForgoneShopModel", "undoMany", "I", false)
  | 32 => ("ForgoneShopModel", "aside", "[I", true)
  | 33 => ("ForgoneShopModel", "slots", "I", false)
  | 34 => ("ForgoneShopModel", "slotOf", "[I", true)
  | 35 => ("ForgoneShopModel", "inSlots", "[I", true)
  | 36 => ("ForgoneShopModel", "costs", "[I", true)
  | 37 => ("ForgoneShopModel", "kept", "[I", true)
  | _ => ("ForgoneShopModel", "keptMany", "I", false)
def t_Z : Nat → FieldType := fun k => match k with
  | 0 => .int
  | 1 => .int
  | 2 => .int
  | 3 => .int
  | 4 => .array .int
  | 5 => .array .int
  | 6 => .array .int
  | 7 => .array .int
  | 8 => .int
  | 9 => .int
  | 10 => .array .int
  | 11 => .array .int
  | 12 => .array .int
  | 13 => .array .int
  | 14 => .int
  | 15 => .array .int
  | 16 => .array .int
  | 17 => .array .int
  | 18 => .array .int
  | 19 => .int
  | 20 => .int
  | 21 => .int
  | 22 => .int
  | 23 => .int
  | 24 => .int
  | 25 => .int
  | 26 => .array .int
  | 27 => .array .int
  | 28 => .array .int
  | 29 => .int
  | 30 => .array .int
  | 31 => .int
  | 32 => .array .int
  | 33 => .int
  | 34 => .array .int
  | 35 => .array .int
  | 36 => .array .int
  | 37 => .array .int
  | _ => .int
theorem n_Z : ∀ a, a < 39 → ∀ b, b < 39 → a ≠ b → (T_Z a).2.1 ≠ (T_Z b).2.1 := by decide +kernel
theorem t_Z_ok : ∀ k, k < 39 → parseFieldDescriptor (T_Z k).2.2.1 = some (t_Z k) := by decide +kernel
theorem in_Z : ∀ wd ∈ u_ws R_Z T_Z 39, wd ∈ gw := by decide +kernel
abbrev CL : List vw_C := [(R_C, T_C, 6), (R_E, T_E, 8), (R_L, T_L, 2), (R_K, T_K, 4), (R_M, T_M, 3), (R_P, T_P, 11), (R_R, T_R, 2), (R_S, T_S, 6), (R_F, T_F, 11), (R_Z, T_Z, 39)]
end
