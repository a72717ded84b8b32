section
-- ===== PART A: goes FIRST, ahead of the names: the tables' words, and 'selects' of the private methods out of them =====
/-- a private method of a class that the tables say can be made, by its rows of tables_1 -/
def lw_okq (q : MethodName × Nat) : Prop := (q.1.cls ≠ "java/lang/invoke/MethodHandle" ∧ q.1.cls ≠ "java/lang/invoke/VarHandle") ∧ Cond.instantiable q.1.cls q.2 ∈ tables_1 ∧ Cond.privateMethod q.1 ∈ tables_1 ∧ Cond.instanceMethod q.1 ∈ tables_1
theorem lw_p0 : lw_okq (⟨"ForgoneShop$Letters", "add", "(C)Z"⟩, 2) := ⟨⟨by decide +kernel, by decide +kernel⟩, List.mem_of_getElem? (i := 25) (by decide +kernel), List.mem_of_getElem? (i := 297) (by decide +kernel), List.mem_of_getElem? (i := 298) (by decide +kernel)⟩
theorem lw_p1 : lw_okq (⟨"ForgoneShop", "layText", "()Z"⟩, 11) := ⟨⟨by decide +kernel, by decide +kernel⟩, List.mem_of_getElem? (i := 17) (by decide +kernel), List.mem_of_getElem? (i := 301) (by decide +kernel), List.mem_of_getElem? (i := 302) (by decide +kernel)⟩
theorem lw_p2 : lw_okq (⟨"ForgoneShop$Reader", "readInto", "(LForgoneShop$Plan;LForgoneShop$Letters;)I"⟩, 2) := ⟨⟨by decide +kernel, by decide +kernel⟩, List.mem_of_getElem? (i := 41) (by decide +kernel), List.mem_of_getElem? (i := 305) (by decide +kernel), List.mem_of_getElem? (i := 306) (by decide +kernel)⟩
theorem lw_p3 : lw_okq (⟨"ForgoneShop$Plan", "clear", "()V"⟩, 11) := ⟨⟨by decide +kernel, by decide +kernel⟩, List.mem_of_getElem? (i := 55) (by decide +kernel), List.mem_of_getElem? (i := 309) (by decide +kernel), List.mem_of_getElem? (i := 310) (by decide +kernel)⟩
theorem lw_p4 : lw_okq (⟨"ForgoneShop$Reader", "readNumbers", "(LForgoneShop$Letters;I)I"⟩, 2) := ⟨⟨by decide +kernel, by decide +kernel⟩, List.mem_of_getElem? (i := 41) (by decide +kernel), List.mem_of_getElem? (i := 313) (by decide +kernel), List.mem_of_getElem? (i := 314) (by decide +kernel)⟩
theorem lw_p5 : lw_okq (⟨"ForgoneShop$Reader", "isFigure", "(LForgoneShop$Letters;I)Z"⟩, 2) := ⟨⟨by decide +kernel, by decide +kernel⟩, List.mem_of_getElem? (i := 41) (by decide +kernel), List.mem_of_getElem? (i := 317) (by decide +kernel), List.mem_of_getElem? (i := 318) (by decide +kernel)⟩
theorem lw_p6 : lw_okq (⟨"ForgoneShop$Letters", "letter", "(I)C"⟩, 2) := ⟨⟨by decide +kernel, by decide +kernel⟩, List.mem_of_getElem? (i := 25) (by decide +kernel), List.mem_of_getElem? (i := 321) (by decide +kernel), List.mem_of_getElem? (i := 322) (by decide +kernel)⟩
theorem lw_p7 : lw_okq (⟨"ForgoneShop$Reader", "tell", "(LForgoneShop$Plan;C)Z"⟩, 2) := ⟨⟨by decide +kernel, by decide +kernel⟩, List.mem_of_getElem? (i := 41) (by decide +kernel), List.mem_of_getElem? (i := 331) (by decide +kernel), List.mem_of_getElem? (i := 332) (by decide +kernel)⟩
theorem lw_p8 : lw_okq (⟨"ForgoneShop$Plan", "addPerson", "(I)Z"⟩, 11) := ⟨⟨by decide +kernel, by decide +kernel⟩, List.mem_of_getElem? (i := 55) (by decide +kernel), List.mem_of_getElem? (i := 338) (by decide +kernel), List.mem_of_getElem? (i := 339) (by decide +kernel)⟩
theorem lw_p9 : lw_okq (⟨"ForgoneShop$Plan", "addThing", "(IIII)Z"⟩, 11) := ⟨⟨by decide +kernel, by decide +kernel⟩, List.mem_of_getElem? (i := 55) (by decide +kernel), List.mem_of_getElem? (i := 343) (by decide +kernel), List.mem_of_getElem? (i := 344) (by decide +kernel)⟩
theorem lw_p10 : lw_okq (⟨"ForgoneShop$Plan", "addRate", "(I)Z"⟩, 11) := ⟨⟨by decide +kernel, by decide +kernel⟩, List.mem_of_getElem? (i := 55) (by decide +kernel), List.mem_of_getElem? (i := 348) (by decide +kernel), List.mem_of_getElem? (i := 349) (by decide +kernel)⟩
theorem lw_p11 : lw_okq (⟨"ForgoneShop$Plan", "setShop", "(II)Z"⟩, 11) := ⟨⟨by decide +kernel, by decide +kernel⟩, List.mem_of_getElem? (i := 55) (by decide +kernel), List.mem_of_getElem? (i := 352) (by decide +kernel), List.mem_of_getElem? (i := 353) (by decide +kernel)⟩
theorem lw_p12 : lw_okq (⟨"ForgoneShop$Stand", "begin", "(LForgoneShop$Plan;)V"⟩, 6) := ⟨⟨by decide +kernel, by decide +kernel⟩, List.mem_of_getElem? (i := 113) (by decide +kernel), List.mem_of_getElem? (i := 356) (by decide +kernel), List.mem_of_getElem? (i := 357) (by decide +kernel)⟩
theorem lw_p13 : lw_okq (⟨"ForgoneShop", "isPerson", "(I)Z"⟩, 11) := ⟨⟨by decide +kernel, by decide +kernel⟩, List.mem_of_getElem? (i := 17) (by decide +kernel), List.mem_of_getElem? (i := 422) (by decide +kernel), List.mem_of_getElem? (i := 423) (by decide +kernel)⟩
theorem lw_p14 : lw_okq (⟨"ForgoneShop$Stand", "thingsWith", "(LForgoneShop$Plan;I)I"⟩, 6) := ⟨⟨by decide +kernel, by decide +kernel⟩, List.mem_of_getElem? (i := 113) (by decide +kernel), List.mem_of_getElem? (i := 426) (by decide +kernel), List.mem_of_getElem? (i := 427) (by decide +kernel)⟩
theorem lw_p15 : lw_okq (⟨"ForgoneShop", "isThing", "(I)Z"⟩, 11) := ⟨⟨by decide +kernel, by decide +kernel⟩, List.mem_of_getElem? (i := 17) (by decide +kernel), List.mem_of_getElem? (i := 435) (by decide +kernel), List.mem_of_getElem? (i := 436) (by decide +kernel)⟩
def lw_privs_1 : List (MethodName × Nat) := [(⟨"ForgoneShop$Letters", "add", "(C)Z"⟩, 2), (⟨"ForgoneShop", "layText", "()Z"⟩, 11), (⟨"ForgoneShop$Reader", "readInto", "(LForgoneShop$Plan;LForgoneShop$Letters;)I"⟩, 2), (⟨"ForgoneShop$Plan", "clear", "()V"⟩, 11), (⟨"ForgoneShop$Reader", "readNumbers", "(LForgoneShop$Letters;I)I"⟩, 2), (⟨"ForgoneShop$Reader", "isFigure", "(LForgoneShop$Letters;I)Z"⟩, 2), (⟨"ForgoneShop$Letters", "letter", "(I)C"⟩, 2), (⟨"ForgoneShop$Reader", "tell", "(LForgoneShop$Plan;C)Z"⟩, 2), (⟨"ForgoneShop$Plan", "addPerson", "(I)Z"⟩, 11), (⟨"ForgoneShop$Plan", "addThing", "(IIII)Z"⟩, 11), (⟨"ForgoneShop$Plan", "addRate", "(I)Z"⟩, 11), (⟨"ForgoneShop$Plan", "setShop", "(II)Z"⟩, 11), (⟨"ForgoneShop$Stand", "begin", "(LForgoneShop$Plan;)V"⟩, 6), (⟨"ForgoneShop", "isPerson", "(I)Z"⟩, 11), (⟨"ForgoneShop$Stand", "thingsWith", "(LForgoneShop$Plan;I)I"⟩, 6), (⟨"ForgoneShop", "isThing", "(I)Z"⟩, 11)]
theorem lw_r1 : ∀ q ∈ lw_privs_1, lw_okq q := List.forall_mem_cons.mpr ⟨lw_p0, List.forall_mem_cons.mpr ⟨lw_p1, List.forall_mem_cons.mpr ⟨lw_p2, List.forall_mem_cons.mpr ⟨lw_p3, List.forall_mem_cons.mpr ⟨lw_p4, List.forall_mem_cons.mpr ⟨lw_p5, List.forall_mem_cons.mpr ⟨lw_p6, List.forall_mem_cons.mpr ⟨lw_p7, List.forall_mem_cons.mpr ⟨lw_p8, List.forall_mem_cons.mpr ⟨lw_p9, List.forall_mem_cons.mpr ⟨lw_p10, List.forall_mem_cons.mpr ⟨lw_p11, List.forall_mem_cons.mpr ⟨lw_p12, List.forall_mem_cons.mpr ⟨lw_p13, List.forall_mem_cons.mpr ⟨lw_p14, List.forall_mem_cons.mpr ⟨lw_p15, fun _ h => absurd h List.not_mem_nil⟩⟩⟩⟩⟩⟩⟩⟩⟩⟩⟩⟩⟩⟩⟩⟩
theorem lw_p16 : lw_okq (⟨"ForgoneShop$Stand", "price", "(LForgoneShop$Plan;I)I"⟩, 6) := ⟨⟨by decide +kernel, by decide +kernel⟩, List.mem_of_getElem? (i := 113) (by decide +kernel), List.mem_of_getElem? (i := 439) (by decide +kernel), List.mem_of_getElem? (i := 440) (by decide +kernel)⟩
theorem lw_p17 : lw_okq (⟨"ForgoneShop$Plan", "rate", "(I)I"⟩, 11) := ⟨⟨by decide +kernel, by decide +kernel⟩, List.mem_of_getElem? (i := 55) (by decide +kernel), List.mem_of_getElem? (i := 443) (by decide +kernel), List.mem_of_getElem? (i := 444) (by decide +kernel)⟩
theorem lw_p18 : lw_okq (⟨"ForgoneShop$Stand", "canSell", "(LForgoneShop$Plan;I)Z"⟩, 6) := ⟨⟨by decide +kernel, by decide +kernel⟩, List.mem_of_getElem? (i := 113) (by decide +kernel), List.mem_of_getElem? (i := 457) (by decide +kernel), List.mem_of_getElem? (i := 458) (by decide +kernel)⟩
theorem lw_p19 : lw_okq (⟨"ForgoneShop$Stand", "isOffered", "(LForgoneShop$Plan;I)Z"⟩, 6) := ⟨⟨by decide +kernel, by decide +kernel⟩, List.mem_of_getElem? (i := 113) (by decide +kernel), List.mem_of_getElem? (i := 461) (by decide +kernel), List.mem_of_getElem? (i := 462) (by decide +kernel)⟩
theorem lw_p20 : lw_okq (⟨"ForgoneShop$Memory", "push", "(LForgoneShop$Stand;)V"⟩, 3) := ⟨⟨by decide +kernel, by decide +kernel⟩, List.mem_of_getElem? (i := 145) (by decide +kernel), List.mem_of_getElem? (i := 466) (by decide +kernel), List.mem_of_getElem? (i := 467) (by decide +kernel)⟩
theorem lw_p21 : lw_okq (⟨"ForgoneShop$Memory", "slotAt", "(I)LForgoneShop$Stand;"⟩, 3) := ⟨⟨by decide +kernel, by decide +kernel⟩, List.mem_of_getElem? (i := 145) (by decide +kernel), List.mem_of_getElem? (i := 470) (by decide +kernel), List.mem_of_getElem? (i := 471) (by decide +kernel)⟩
theorem lw_p22 : lw_okq (⟨"ForgoneShop$Stand", "copyFrom", "(LForgoneShop$Stand;)V"⟩, 6) := ⟨⟨by decide +kernel, by decide +kernel⟩, List.mem_of_getElem? (i := 113) (by decide +kernel), List.mem_of_getElem? (i := 474) (by decide +kernel), List.mem_of_getElem? (i := 475) (by decide +kernel)⟩
theorem lw_p23 : lw_okq (⟨"ForgoneShop$Stand", "moveToCellar", "(LForgoneShop$Plan;I)V"⟩, 6) := ⟨⟨by decide +kernel, by decide +kernel⟩, List.mem_of_getElem? (i := 113) (by decide +kernel), List.mem_of_getElem? (i := 481) (by decide +kernel), List.mem_of_getElem? (i := 482) (by decide +kernel)⟩
theorem lw_p24 : lw_okq (⟨"ForgoneShop$Stand", "payPerson", "(II)V"⟩, 6) := ⟨⟨by decide +kernel, by decide +kernel⟩, List.mem_of_getElem? (i := 113) (by decide +kernel), List.mem_of_getElem? (i := 485) (by decide +kernel), List.mem_of_getElem? (i := 486) (by decide +kernel)⟩
theorem lw_p25 : lw_okq (⟨"ForgoneShop$Stand", "canBuyBack", "(LForgoneShop$Plan;I)Z"⟩, 6) := ⟨⟨by decide +kernel, by decide +kernel⟩, List.mem_of_getElem? (i := 113) (by decide +kernel), List.mem_of_getElem? (i := 493) (by decide +kernel), List.mem_of_getElem? (i := 494) (by decide +kernel)⟩
theorem lw_p26 : lw_okq (⟨"ForgoneShop$Stand", "moveToPerson", "(LForgoneShop$Plan;I)V"⟩, 6) := ⟨⟨by decide +kernel, by decide +kernel⟩, List.mem_of_getElem? (i := 113) (by decide +kernel), List.mem_of_getElem? (i := 497) (by decide +kernel), List.mem_of_getElem? (i := 498) (by decide +kernel)⟩
theorem lw_p27 : lw_okq (⟨"ForgoneShop$Stand", "passDay", "(LForgoneShop$Plan;)V"⟩, 6) := ⟨⟨by decide +kernel, by decide +kernel⟩, List.mem_of_getElem? (i := 113) (by decide +kernel), List.mem_of_getElem? (i := 505) (by decide +kernel), List.mem_of_getElem? (i := 506) (by decide +kernel)⟩
theorem lw_p28 : lw_okq (⟨"ForgoneShop$Stand", "goOn", "(LForgoneShop$Plan;I)V"⟩, 6) := ⟨⟨by decide +kernel, by decide +kernel⟩, List.mem_of_getElem? (i := 113) (by decide +kernel), List.mem_of_getElem? (i := 509) (by decide +kernel), List.mem_of_getElem? (i := 510) (by decide +kernel)⟩
theorem lw_p29 : lw_okq (⟨"ForgoneShop$Memory", "popInto", "(LForgoneShop$Stand;)Z"⟩, 3) := ⟨⟨by decide +kernel, by decide +kernel⟩, List.mem_of_getElem? (i := 145) (by decide +kernel), List.mem_of_getElem? (i := 524) (by decide +kernel), List.mem_of_getElem? (i := 525) (by decide +kernel)⟩
theorem lw_p30 : lw_okq (⟨"ForgoneShop", "nearInCellar", "(III)I"⟩, 11) := ⟨⟨by decide +kernel, by decide +kernel⟩, List.mem_of_getElem? (i := 17) (by decide +kernel), List.mem_of_getElem? (i := 532) (by decide +kernel), List.mem_of_getElem? (i := 533) (by decide +kernel)⟩
theorem lw_p31 : lw_okq (⟨"ForgoneShop$Stand", "nearOfCellar", "(LForgoneShop$Plan;)I"⟩, 6) := ⟨⟨by decide +kernel, by decide +kernel⟩, List.mem_of_getElem? (i := 113) (by decide +kernel), List.mem_of_getElem? (i := 542) (by decide +kernel), List.mem_of_getElem? (i := 543) (by decide +kernel)⟩
def lw_privs_2 : List (MethodName × Nat) := [(⟨"ForgoneShop$Stand", "price", "(LForgoneShop$Plan;I)I"⟩, 6), (⟨"ForgoneShop$Plan", "rate", "(I)I"⟩, 11), (⟨"ForgoneShop$Stand", "canSell", "(LForgoneShop$Plan;I)Z"⟩, 6), (⟨"ForgoneShop$Stand", "isOffered", "(LForgoneShop$Plan;I)Z"⟩, 6), (⟨"ForgoneShop$Memory", "push", "(LForgoneShop$Stand;)V"⟩, 3), (⟨"ForgoneShop$Memory", "slotAt", "(I)LForgoneShop$Stand;"⟩, 3), (⟨"ForgoneShop$Stand", "copyFrom", "(LForgoneShop$Stand;)V"⟩, 6), (⟨"ForgoneShop$Stand", "moveToCellar", "(LForgoneShop$Plan;I)V"⟩, 6), (⟨"ForgoneShop$Stand", "payPerson", "(II)V"⟩, 6), (⟨"ForgoneShop$Stand", "canBuyBack", "(LForgoneShop$Plan;I)Z"⟩, 6), (⟨"ForgoneShop$Stand", "moveToPerson", "(LForgoneShop$Plan;I)V"⟩, 6), (⟨"ForgoneShop$Stand", "passDay", "(LForgoneShop$Plan;)V"⟩, 6), (⟨"ForgoneShop$Stand", "goOn", "(LForgoneShop$Plan;I)V"⟩, 6), (⟨"ForgoneShop$Memory", "popInto", "(LForgoneShop$Stand;)Z"⟩, 3), (⟨"ForgoneShop", "nearInCellar", "(III)I"⟩, 11), (⟨"ForgoneShop$Stand", "nearOfCellar", "(LForgoneShop$Plan;)I"⟩, 6)]
theorem lw_r2 : ∀ q ∈ lw_privs_2, lw_okq q := List.forall_mem_cons.mpr ⟨lw_p16, List.forall_mem_cons.mpr ⟨lw_p17, List.forall_mem_cons.mpr ⟨lw_p18, List.forall_mem_cons.mpr ⟨lw_p19, List.forall_mem_cons.mpr ⟨lw_p20, List.forall_mem_cons.mpr ⟨lw_p21, List.forall_mem_cons.mpr ⟨lw_p22, List.forall_mem_cons.mpr ⟨lw_p23, List.forall_mem_cons.mpr ⟨lw_p24, List.forall_mem_cons.mpr ⟨lw_p25, List.forall_mem_cons.mpr ⟨lw_p26, List.forall_mem_cons.mpr ⟨lw_p27, List.forall_mem_cons.mpr ⟨lw_p28, List.forall_mem_cons.mpr ⟨lw_p29, List.forall_mem_cons.mpr ⟨lw_p30, List.forall_mem_cons.mpr ⟨lw_p31, fun _ h => absurd h List.not_mem_nil⟩⟩⟩⟩⟩⟩⟩⟩⟩⟩⟩⟩⟩⟩⟩⟩
theorem lw_p32 : lw_okq (⟨"ForgoneShop$Choice", "offer", "(III)V"⟩, 6) := ⟨⟨by decide +kernel, by decide +kernel⟩, List.mem_of_getElem? (i := 188) (by decide +kernel), List.mem_of_getElem? (i := 551) (by decide +kernel), List.mem_of_getElem? (i := 552) (by decide +kernel)⟩
theorem lw_p33 : lw_okq (⟨"ForgoneShop$Choice", "find", "(IIII)Z"⟩, 6) := ⟨⟨by decide +kernel, by decide +kernel⟩, List.mem_of_getElem? (i := 188) (by decide +kernel), List.mem_of_getElem? (i := 556) (by decide +kernel), List.mem_of_getElem? (i := 557) (by decide +kernel)⟩
theorem lw_p34 : lw_okq (⟨"ForgoneShop$Choice", "addUp", "(I)V"⟩, 6) := ⟨⟨by decide +kernel, by decide +kernel⟩, List.mem_of_getElem? (i := 188) (by decide +kernel), List.mem_of_getElem? (i := 560) (by decide +kernel), List.mem_of_getElem? (i := 561) (by decide +kernel)⟩
theorem lw_p35 : lw_okq (⟨"ForgoneShop", "priceBehind", "(II)I"⟩, 11) := ⟨⟨by decide +kernel, by decide +kernel⟩, List.mem_of_getElem? (i := 17) (by decide +kernel), List.mem_of_getElem? (i := 575) (by decide +kernel), List.mem_of_getElem? (i := 576) (by decide +kernel)⟩
theorem lw_p36 : lw_okq (⟨"ForgoneShop$Exchange", "arrange", "(LForgoneShop$Plan;LForgoneShop$Stand;)V"⟩, 8) := ⟨⟨by decide +kernel, by decide +kernel⟩, List.mem_of_getElem? (i := 215) (by decide +kernel), List.mem_of_getElem? (i := 587) (by decide +kernel), List.mem_of_getElem? (i := 588) (by decide +kernel)⟩
theorem lw_p37 : lw_okq (⟨"ForgoneShop$Exchange", "collect", "(LForgoneShop$Plan;LForgoneShop$Stand;)V"⟩, 8) := ⟨⟨by decide +kernel, by decide +kernel⟩, List.mem_of_getElem? (i := 215) (by decide +kernel), List.mem_of_getElem? (i := 591) (by decide +kernel), List.mem_of_getElem? (i := 592) (by decide +kernel)⟩
theorem lw_p38 : lw_okq (⟨"ForgoneShop$Exchange", "leastFrom", "(LForgoneShop$Plan;I)I"⟩, 8) := ⟨⟨by decide +kernel, by decide +kernel⟩, List.mem_of_getElem? (i := 215) (by decide +kernel), List.mem_of_getElem? (i := 597) (by decide +kernel), List.mem_of_getElem? (i := 598) (by decide +kernel)⟩
theorem lw_p39 : lw_okq (⟨"ForgoneShop$Exchange", "nextThing", "(I)I"⟩, 8) := ⟨⟨by decide +kernel, by decide +kernel⟩, List.mem_of_getElem? (i := 215) (by decide +kernel), List.mem_of_getElem? (i := 601) (by decide +kernel), List.mem_of_getElem? (i := 602) (by decide +kernel)⟩
theorem lw_p40 : lw_okq (⟨"ForgoneShop$Exchange", "leftFor", "(II)I"⟩, 8) := ⟨⟨by decide +kernel, by decide +kernel⟩, List.mem_of_getElem? (i := 215) (by decide +kernel), List.mem_of_getElem? (i := 605) (by decide +kernel), List.mem_of_getElem? (i := 606) (by decide +kernel)⟩
theorem lw_p41 : lw_okq (⟨"ForgoneShop$Exchange", "rueFrom", "(LForgoneShop$Plan;III)I"⟩, 8) := ⟨⟨by decide +kernel, by decide +kernel⟩, List.mem_of_getElem? (i := 215) (by decide +kernel), List.mem_of_getElem? (i := 609) (by decide +kernel), List.mem_of_getElem? (i := 610) (by decide +kernel)⟩
theorem lw_p42 : lw_okq (⟨"ForgoneShop$Exchange", "rueBy", "(LForgoneShop$Plan;II)I"⟩, 8) := ⟨⟨by decide +kernel, by decide +kernel⟩, List.mem_of_getElem? (i := 215) (by decide +kernel), List.mem_of_getElem? (i := 613) (by decide +kernel), List.mem_of_getElem? (i := 614) (by decide +kernel)⟩
theorem lw_p43 : lw_okq (⟨"ForgoneShop$Exchange", "giveOut", "(LForgoneShop$Plan;)V"⟩, 8) := ⟨⟨by decide +kernel, by decide +kernel⟩, List.mem_of_getElem? (i := 215) (by decide +kernel), List.mem_of_getElem? (i := 618) (by decide +kernel), List.mem_of_getElem? (i := 619) (by decide +kernel)⟩
theorem lw_p44 : lw_okq (⟨"ForgoneShop$Exchange", "firstBest", "(LForgoneShop$Plan;II)I"⟩, 8) := ⟨⟨by decide +kernel, by decide +kernel⟩, List.mem_of_getElem? (i := 215) (by decide +kernel), List.mem_of_getElem? (i := 622) (by decide +kernel), List.mem_of_getElem? (i := 623) (by decide +kernel)⟩
theorem lw_p45 : lw_okq (⟨"ForgoneShop$Looks", "add", "(III)Z"⟩, 4) := ⟨⟨by decide +kernel, by decide +kernel⟩, List.mem_of_getElem? (i := 165) (by decide +kernel), List.mem_of_getElem? (i := 630) (by decide +kernel), List.mem_of_getElem? (i := 631) (by decide +kernel)⟩
theorem lw_p46 : lw_okq (⟨"ForgoneShop", "fitsLooks", "(II)Z"⟩, 11) := ⟨⟨by decide +kernel, by decide +kernel⟩, List.mem_of_getElem? (i := 17) (by decide +kernel), List.mem_of_getElem? (i := 643) (by decide +kernel), List.mem_of_getElem? (i := 644) (by decide +kernel)⟩
theorem lw_p47 : lw_okq (⟨"ForgoneShop", "actByDraw", "(II)V"⟩, 11) := ⟨⟨by decide +kernel, by decide +kernel⟩, List.mem_of_getElem? (i := 17) (by decide +kernel), List.mem_of_getElem? (i := 673) (by decide +kernel), List.mem_of_getElem? (i := 674) (by decide +kernel)⟩
def lw_privs_3 : List (MethodName × Nat) := [(⟨"ForgoneShop$Choice", "offer", "(III)V"⟩, 6), (⟨"ForgoneShop$Choice", "find", "(IIII)Z"⟩, 6), (⟨"ForgoneShop$Choice", "addUp", "(I)V"⟩, 6), (⟨"ForgoneShop", "priceBehind", "(II)I"⟩, 11), (⟨"ForgoneShop$Exchange", "arrange", "(LForgoneShop$Plan;LForgoneShop$Stand;)V"⟩, 8), (⟨"ForgoneShop$Exchange", "collect", "(LForgoneShop$Plan;LForgoneShop$Stand;)V"⟩, 8), (⟨"ForgoneShop$Exchange", "leastFrom", "(LForgoneShop$Plan;I)I"⟩, 8), (⟨"ForgoneShop$Exchange", "nextThing", "(I)I"⟩, 8), (⟨"ForgoneShop$Exchange", "leftFor", "(II)I"⟩, 8), (⟨"ForgoneShop$Exchange", "rueFrom", "(LForgoneShop$Plan;III)I"⟩, 8), (⟨"ForgoneShop$Exchange", "rueBy", "(LForgoneShop$Plan;II)I"⟩, 8), (⟨"ForgoneShop$Exchange", "giveOut", "(LForgoneShop$Plan;)V"⟩, 8), (⟨"ForgoneShop$Exchange", "firstBest", "(LForgoneShop$Plan;II)I"⟩, 8), (⟨"ForgoneShop$Looks", "add", "(III)Z"⟩, 4), (⟨"ForgoneShop", "fitsLooks", "(II)Z"⟩, 11), (⟨"ForgoneShop", "actByDraw", "(II)V"⟩, 11)]
theorem lw_r3 : ∀ q ∈ lw_privs_3, lw_okq q := List.forall_mem_cons.mpr ⟨lw_p32, List.forall_mem_cons.mpr ⟨lw_p33, List.forall_mem_cons.mpr ⟨lw_p34, List.forall_mem_cons.mpr ⟨lw_p35, List.forall_mem_cons.mpr ⟨lw_p36, List.forall_mem_cons.mpr ⟨lw_p37, List.forall_mem_cons.mpr ⟨lw_p38, List.forall_mem_cons.mpr ⟨lw_p39, List.forall_mem_cons.mpr ⟨lw_p40, List.forall_mem_cons.mpr ⟨lw_p41, List.forall_mem_cons.mpr ⟨lw_p42, List.forall_mem_cons.mpr ⟨lw_p43, List.forall_mem_cons.mpr ⟨lw_p44, List.forall_mem_cons.mpr ⟨lw_p45, List.forall_mem_cons.mpr ⟨lw_p46, List.forall_mem_cons.mpr ⟨lw_p47, fun _ h => absurd h List.not_mem_nil⟩⟩⟩⟩⟩⟩⟩⟩⟩⟩⟩⟩⟩⟩⟩⟩
theorem lw_p48 : lw_okq (⟨"ForgoneShop$Stand", "rueOfAll", "(LForgoneShop$Plan;)I"⟩, 6) := ⟨⟨by decide +kernel, by decide +kernel⟩, List.mem_of_getElem? (i := 113) (by decide +kernel), List.mem_of_getElem? (i := 680) (by decide +kernel), List.mem_of_getElem? (i := 681) (by decide +kernel)⟩
theorem lw_p49 : lw_okq (⟨"ForgoneShop$Stand", "howMany", "(LForgoneShop$Plan;I)I"⟩, 6) := ⟨⟨by decide +kernel, by decide +kernel⟩, List.mem_of_getElem? (i := 113) (by decide +kernel), List.mem_of_getElem? (i := 696) (by decide +kernel), List.mem_of_getElem? (i := 697) (by decide +kernel)⟩
theorem lw_p50 : lw_okq (⟨"ForgoneShopModel", "sets", "(IIIII)V"⟩, 39) := ⟨⟨by decide +kernel, by decide +kernel⟩, List.mem_of_getElem? (i := 700) (by decide +kernel), List.mem_of_getElem? (i := 706) (by decide +kernel), List.mem_of_getElem? (i := 707) (by decide +kernel)⟩
theorem lw_p51 : lw_okq (⟨"ForgoneShopModel", "readsItem", "()Z"⟩, 39) := ⟨⟨by decide +kernel, by decide +kernel⟩, List.mem_of_getElem? (i := 700) (by decide +kernel), List.mem_of_getElem? (i := 843) (by decide +kernel), List.mem_of_getElem? (i := 844) (by decide +kernel)⟩
theorem lw_p52 : lw_okq (⟨"ForgoneShopModel", "here", "()I"⟩, 39) := ⟨⟨by decide +kernel, by decide +kernel⟩, List.mem_of_getElem? (i := 700) (by decide +kernel), List.mem_of_getElem? (i := 847) (by decide +kernel), List.mem_of_getElem? (i := 848) (by decide +kernel)⟩
theorem lw_p53 : lw_okq (⟨"ForgoneShopModel", "readsPerson", "()Z"⟩, 39) := ⟨⟨by decide +kernel, by decide +kernel⟩, List.mem_of_getElem? (i := 700) (by decide +kernel), List.mem_of_getElem? (i := 851) (by decide +kernel), List.mem_of_getElem? (i := 852) (by decide +kernel)⟩
theorem lw_p54 : lw_okq (⟨"ForgoneShopModel", "number", "(III)Z"⟩, 39) := ⟨⟨by decide +kernel, by decide +kernel⟩, List.mem_of_getElem? (i := 700) (by decide +kernel), List.mem_of_getElem? (i := 855) (by decide +kernel), List.mem_of_getElem? (i := 856) (by decide +kernel)⟩
theorem lw_p55 : lw_okq (⟨"ForgoneShopModel", "isFigure", "()Z"⟩, 39) := ⟨⟨by decide +kernel, by decide +kernel⟩, List.mem_of_getElem? (i := 700) (by decide +kernel), List.mem_of_getElem? (i := 859) (by decide +kernel), List.mem_of_getElem? (i := 860) (by decide +kernel)⟩
theorem lw_p56 : lw_okq (⟨"ForgoneShopModel", "readsThing", "()Z"⟩, 39) := ⟨⟨by decide +kernel, by decide +kernel⟩, List.mem_of_getElem? (i := 700) (by decide +kernel), List.mem_of_getElem? (i := 863) (by decide +kernel), List.mem_of_getElem? (i := 864) (by decide +kernel)⟩
theorem lw_p57 : lw_okq (⟨"ForgoneShopModel", "readsRate", "()Z"⟩, 39) := ⟨⟨by decide +kernel, by decide +kernel⟩, List.mem_of_getElem? (i := 700) (by decide +kernel), List.mem_of_getElem? (i := 867) (by decide +kernel), List.mem_of_getElem? (i := 868) (by decide +kernel)⟩
theorem lw_p58 : lw_okq (⟨"ForgoneShopModel", "readsShop", "()Z"⟩, 39) := ⟨⟨by decide +kernel, by decide +kernel⟩, List.mem_of_getElem? (i := 700) (by decide +kernel), List.mem_of_getElem? (i := 871) (by decide +kernel), List.mem_of_getElem? (i := 872) (by decide +kernel)⟩
theorem lw_p59 : lw_okq (⟨"ForgoneShopModel", "isPerson", "(I)Z"⟩, 39) := ⟨⟨by decide +kernel, by decide +kernel⟩, List.mem_of_getElem? (i := 700) (by decide +kernel), List.mem_of_getElem? (i := 884) (by decide +kernel), List.mem_of_getElem? (i := 885) (by decide +kernel)⟩
theorem lw_p60 : lw_okq (⟨"ForgoneShopModel", "thoseWith", "(I)I"⟩, 39) := ⟨⟨by decide +kernel, by decide +kernel⟩, List.mem_of_getElem? (i := 700) (by decide +kernel), List.mem_of_getElem? (i := 888) (by decide +kernel), List.mem_of_getElem? (i := 889) (by decide +kernel)⟩
theorem lw_p61 : lw_okq (⟨"ForgoneShopModel", "isThing", "(I)Z"⟩, 39) := ⟨⟨by decide +kernel, by decide +kernel⟩, List.mem_of_getElem? (i := 700) (by decide +kernel), List.mem_of_getElem? (i := 896) (by decide +kernel), List.mem_of_getElem? (i := 897) (by decide +kernel)⟩
theorem lw_p62 : lw_okq (⟨"ForgoneShopModel", "price", "(I)I"⟩, 39) := ⟨⟨by decide +kernel, by decide +kernel⟩, List.mem_of_getElem? (i := 700) (by decide +kernel), List.mem_of_getElem? (i := 900) (by decide +kernel), List.mem_of_getElem? (i := 901) (by decide +kernel)⟩
theorem lw_p63 : lw_okq (⟨"ForgoneShopModel", "rateOf", "(I)I"⟩, 39) := ⟨⟨by decide +kernel, by decide +kernel⟩, List.mem_of_getElem? (i := 700) (by decide +kernel), List.mem_of_getElem? (i := 904) (by decide +kernel), List.mem_of_getElem? (i := 905) (by decide +kernel)⟩
def lw_privs_4 : List (MethodName × Nat) := [(⟨"ForgoneShop$Stand", "rueOfAll", "(LForgoneShop$Plan;)I"⟩, 6), (⟨"ForgoneShop$Stand", "howMany", "(LForgoneShop$Plan;I)I"⟩, 6), (⟨"ForgoneShopModel", "sets", "(IIIII)V"⟩, 39), (⟨"ForgoneShopModel", "readsItem", "()Z"⟩, 39), (⟨"ForgoneShopModel", "here", "()I"⟩, 39), (⟨"ForgoneShopModel", "readsPerson", "()Z"⟩, 39), (⟨"ForgoneShopModel", "number", "(III)Z"⟩, 39), (⟨"ForgoneShopModel", "isFigure", "()Z"⟩, 39), (⟨"ForgoneShopModel", "readsThing", "()Z"⟩, 39), (⟨"ForgoneShopModel", "readsRate", "()Z"⟩, 39), (⟨"ForgoneShopModel", "readsShop", "()Z"⟩, 39), (⟨"ForgoneShopModel", "isPerson", "(I)Z"⟩, 39), (⟨"ForgoneShopModel", "thoseWith", "(I)I"⟩, 39), (⟨"ForgoneShopModel", "isThing", "(I)Z"⟩, 39), (⟨"ForgoneShopModel", "price", "(I)I"⟩, 39), (⟨"ForgoneShopModel", "rateOf", "(I)I"⟩, 39)]
theorem lw_r4 : ∀ q ∈ lw_privs_4, lw_okq q := List.forall_mem_cons.mpr ⟨lw_p48, List.forall_mem_cons.mpr ⟨lw_p49, List.forall_mem_cons.mpr ⟨lw_p50, List.forall_mem_cons.mpr ⟨lw_p51, List.forall_mem_cons.mpr ⟨lw_p52, List.forall_mem_cons.mpr ⟨lw_p53, List.forall_mem_cons.mpr ⟨lw_p54, List.forall_mem_cons.mpr ⟨lw_p55, List.forall_mem_cons.mpr ⟨lw_p56, List.forall_mem_cons.mpr ⟨lw_p57, List.forall_mem_cons.mpr ⟨lw_p58, List.forall_mem_cons.mpr ⟨lw_p59, List.forall_mem_cons.mpr ⟨lw_p60, List.forall_mem_cons.mpr ⟨lw_p61, List.forall_mem_cons.mpr ⟨lw_p62, List.forall_mem_cons.mpr ⟨lw_p63, fun _ h => absurd h List.not_mem_nil⟩⟩⟩⟩⟩⟩⟩⟩⟩⟩⟩⟩⟩⟩⟩⟩
theorem lw_p64 : lw_okq (⟨"ForgoneShopModel", "maySell", "(I)Z"⟩, 39) := ⟨⟨by decide +kernel, by decide +kernel⟩, List.mem_of_getElem? (i := 700) (by decide +kernel), List.mem_of_getElem? (i := 916) (by decide +kernel), List.mem_of_getElem? (i := 917) (by decide +kernel)⟩
theorem lw_p65 : lw_okq (⟨"ForgoneShopModel", "notes", "()V"⟩, 39) := ⟨⟨by decide +kernel, by decide +kernel⟩, List.mem_of_getElem? (i := 700) (by decide +kernel), List.mem_of_getElem? (i := 920) (by decide +kernel), List.mem_of_getElem? (i := 921) (by decide +kernel)⟩
theorem lw_p66 : lw_okq (⟨"ForgoneShopModel", "lays", "([II)V"⟩, 39) := ⟨⟨by decide +kernel, by decide +kernel⟩, List.mem_of_getElem? (i := 700) (by decide +kernel), List.mem_of_getElem? (i := 924) (by decide +kernel), List.mem_of_getElem? (i := 925) (by decide +kernel)⟩
theorem lw_p67 : lw_okq (⟨"ForgoneShopModel", "sells", "(I)V"⟩, 39) := ⟨⟨by decide +kernel, by decide +kernel⟩, List.mem_of_getElem? (i := 700) (by decide +kernel), List.mem_of_getElem? (i := 928) (by decide +kernel), List.mem_of_getElem? (i := 929) (by decide +kernel)⟩
theorem lw_p68 : lw_okq (⟨"ForgoneShopModel", "mayBuy", "(I)Z"⟩, 39) := ⟨⟨by decide +kernel, by decide +kernel⟩, List.mem_of_getElem? (i := 700) (by decide +kernel), List.mem_of_getElem? (i := 936) (by decide +kernel), List.mem_of_getElem? (i := 937) (by decide +kernel)⟩
theorem lw_p69 : lw_okq (⟨"ForgoneShopModel", "buys", "(I)V"⟩, 39) := ⟨⟨by decide +kernel, by decide +kernel⟩, List.mem_of_getElem? (i := 700) (by decide +kernel), List.mem_of_getElem? (i := 940) (by decide +kernel), List.mem_of_getElem? (i := 941) (by decide +kernel)⟩
theorem lw_p70 : lw_okq (⟨"ForgoneShopModel", "goesOn", "(I)V"⟩, 39) := ⟨⟨by decide +kernel, by decide +kernel⟩, List.mem_of_getElem? (i := 700) (by decide +kernel), List.mem_of_getElem? (i := 948) (by decide +kernel), List.mem_of_getElem? (i := 949) (by decide +kernel)⟩
theorem lw_p71 : lw_okq (⟨"ForgoneShopModel", "passes", "()V"⟩, 39) := ⟨⟨by decide +kernel, by decide +kernel⟩, List.mem_of_getElem? (i := 700) (by decide +kernel), List.mem_of_getElem? (i := 952) (by decide +kernel), List.mem_of_getElem? (i := 953) (by decide +kernel)⟩
theorem lw_p72 : lw_okq (⟨"ForgoneShopModel", "takes", "([II)V"⟩, 39) := ⟨⟨by decide +kernel, by decide +kernel⟩, List.mem_of_getElem? (i := 700) (by decide +kernel), List.mem_of_getElem? (i := 963) (by decide +kernel), List.mem_of_getElem? (i := 964) (by decide +kernel)⟩
theorem lw_p73 : lw_okq (⟨"ForgoneShopModel", "begin", "()V"⟩, 39) := ⟨⟨by decide +kernel, by decide +kernel⟩, List.mem_of_getElem? (i := 700) (by decide +kernel), List.mem_of_getElem? (i := 971) (by decide +kernel), List.mem_of_getElem? (i := 972) (by decide +kernel)⟩
theorem lw_p74 : lw_okq (⟨"ForgoneShopModel", "putBack", "()V"⟩, 39) := ⟨⟨by decide +kernel, by decide +kernel⟩, List.mem_of_getElem? (i := 700) (by decide +kernel), List.mem_of_getElem? (i := 975) (by decide +kernel), List.mem_of_getElem? (i := 976) (by decide +kernel)⟩
theorem lw_p75 : lw_okq (⟨"ForgoneShopModel", "nearIn", "()I"⟩, 39) := ⟨⟨by decide +kernel, by decide +kernel⟩, List.mem_of_getElem? (i := 700) (by decide +kernel), List.mem_of_getElem? (i := 983) (by decide +kernel), List.mem_of_getElem? (i := 984) (by decide +kernel)⟩
theorem lw_p76 : lw_okq (⟨"ForgoneShopModel", "takable", "()I"⟩, 39) := ⟨⟨by decide +kernel, by decide +kernel⟩, List.mem_of_getElem? (i := 700) (by decide +kernel), List.mem_of_getElem? (i := 991) (by decide +kernel), List.mem_of_getElem? (i := 992) (by decide +kernel)⟩
theorem lw_p77 : lw_okq (⟨"ForgoneShopModel", "sumOf", "(IZ)I"⟩, 39) := ⟨⟨by decide +kernel, by decide +kernel⟩, List.mem_of_getElem? (i := 700) (by decide +kernel), List.mem_of_getElem? (i := 996) (by decide +kernel), List.mem_of_getElem? (i := 997) (by decide +kernel)⟩
theorem lw_p78 : lw_okq (⟨"ForgoneShopModel", "setCosts", "()V"⟩, 39) := ⟨⟨by decide +kernel, by decide +kernel⟩, List.mem_of_getElem? (i := 700) (by decide +kernel), List.mem_of_getElem? (i := 1019) (by decide +kernel), List.mem_of_getElem? (i := 1020) (by decide +kernel)⟩
theorem lw_p79 : lw_okq (⟨"ForgoneShopModel", "costOf", "(II)I"⟩, 39) := ⟨⟨by decide +kernel, by decide +kernel⟩, List.mem_of_getElem? (i := 700) (by decide +kernel), List.mem_of_getElem? (i := 1026) (by decide +kernel), List.mem_of_getElem? (i := 1027) (by decide +kernel)⟩
def lw_privs_5 : List (MethodName × Nat) := [(⟨"ForgoneShopModel", "maySell", "(I)Z"⟩, 39), (⟨"ForgoneShopModel", "notes", "()V"⟩, 39), (⟨"ForgoneShopModel", "lays", "([II)V"⟩, 39), (⟨"ForgoneShopModel", "sells", "(I)V"⟩, 39), (⟨"ForgoneShopModel", "mayBuy", "(I)Z"⟩, 39), (⟨"ForgoneShopModel", "buys", "(I)V"⟩, 39), (⟨"ForgoneShopModel", "goesOn", "(I)V"⟩, 39), (⟨"ForgoneShopModel", "passes", "()V"⟩, 39), (⟨"ForgoneShopModel", "takes", "([II)V"⟩, 39), (⟨"ForgoneShopModel", "begin", "()V"⟩, 39), (⟨"ForgoneShopModel", "putBack", "()V"⟩, 39), (⟨"ForgoneShopModel", "nearIn", "()I"⟩, 39), (⟨"ForgoneShopModel", "takable", "()I"⟩, 39), (⟨"ForgoneShopModel", "sumOf", "(IZ)I"⟩, 39), (⟨"ForgoneShopModel", "setCosts", "()V"⟩, 39), (⟨"ForgoneShopModel", "costOf", "(II)I"⟩, 39)]
theorem lw_r5 : ∀ q ∈ lw_privs_5, lw_okq q := List.forall_mem_cons.mpr ⟨lw_p64, List.forall_mem_cons.mpr ⟨lw_p65, List.forall_mem_cons.mpr ⟨lw_p66, List.forall_mem_cons.mpr ⟨lw_p67, List.forall_mem_cons.mpr ⟨lw_p68, List.forall_mem_cons.mpr ⟨lw_p69, List.forall_mem_cons.mpr ⟨lw_p70, List.forall_mem_cons.mpr ⟨lw_p71, List.forall_mem_cons.mpr ⟨lw_p72, List.forall_mem_cons.mpr ⟨lw_p73, List.forall_mem_cons.mpr ⟨lw_p74, List.forall_mem_cons.mpr ⟨lw_p75, List.forall_mem_cons.mpr ⟨lw_p76, List.forall_mem_cons.mpr ⟨lw_p77, List.forall_mem_cons.mpr ⟨lw_p78, List.forall_mem_cons.mpr ⟨lw_p79, fun _ h => absurd h List.not_mem_nil⟩⟩⟩⟩⟩⟩⟩⟩⟩⟩⟩⟩⟩⟩⟩⟩
theorem lw_p80 : lw_okq (⟨"ForgoneShopModel", "nearBy", "(III)I"⟩, 39) := ⟨⟨by decide +kernel, by decide +kernel⟩, List.mem_of_getElem? (i := 700) (by decide +kernel), List.mem_of_getElem? (i := 1042) (by decide +kernel), List.mem_of_getElem? (i := 1043) (by decide +kernel)⟩
theorem lw_p81 : lw_okq (⟨"ForgoneShopModel", "thoseIn", "(I)I"⟩, 39) := ⟨⟨by decide +kernel, by decide +kernel⟩, List.mem_of_getElem? (i := 700) (by decide +kernel), List.mem_of_getElem? (i := 1084) (by decide +kernel), List.mem_of_getElem? (i := 1085) (by decide +kernel)⟩
def lw_privs_6 : List (MethodName × Nat) := [(⟨"ForgoneShopModel", "nearBy", "(III)I"⟩, 39), (⟨"ForgoneShopModel", "thoseIn", "(I)I"⟩, 39)]
theorem lw_r6 : ∀ q ∈ lw_privs_6, lw_okq q := List.forall_mem_cons.mpr ⟨lw_p80, List.forall_mem_cons.mpr ⟨lw_p81, fun _ h => absurd h List.not_mem_nil⟩⟩
def lw_privs : List (MethodName × Nat) := lw_privs_1 ++ (lw_privs_2 ++ (lw_privs_3 ++ (lw_privs_4 ++ (lw_privs_5 ++ (lw_privs_6)))))
def lw_tbl : List Cond := k2_sels lw_privs ++ tables_1
theorem lw_privs_ok : ∀ q ∈ lw_privs, lw_okq q := by
  show ∀ q ∈ lw_privs_1 ++ (lw_privs_2 ++ (lw_privs_3 ++ (lw_privs_4 ++ (lw_privs_5 ++ (lw_privs_6))))), lw_okq q
  exact List.forall_mem_append.mpr ⟨lw_r1, List.forall_mem_append.mpr ⟨lw_r2, List.forall_mem_append.mpr ⟨lw_r3, List.forall_mem_append.mpr ⟨lw_r4, List.forall_mem_append.mpr ⟨lw_r5, lw_r6⟩⟩⟩⟩⟩
/-- the words that ride along with a method's code: all of the tables' words that keep -/
def gw : List Cond := lw_tbl.filter goodWord
theorem gw_in {wd : Cond} (i : Nat) (h : lw_tbl[i]? = some wd) (hg : goodWord wd = true) : wd ∈ gw := List.mem_filter.mpr ⟨List.mem_of_getElem? h, hg⟩
theorem gw_good {wd : Cond} (h : wd ∈ gw) : (wd.onTables && wd.keeps) = true ∨ ∃ ty, wd = .arrayClass ty := good_of_word (List.mem_filter.mp h).2
/-- the links to nest mates -/
def isNest : Cond → Bool
  | .fieldLinkNest _ _ _ _ _ _ => true
  | .methodLinkNest _ _ _ _ => true
  | _ => false
def nw : List Cond := lw_tbl.filter isNest
theorem nw_in {wd : Cond} (i : Nat) (h : lw_tbl[i]? = some wd) (hg : isNest wd = true) : wd ∈ nw := List.mem_filter.mpr ⟨List.mem_of_getElem? h, hg⟩

def R_C : String := "ForgoneShop$Choice"
def T_C : u_T := fun k => match k with
  | 0 => ("ForgoneShop$Choice", "priceOfThing", "[I", true)
  | 1 => ("ForgoneShop$Choice", "worthOfThing", "[I", true)
  | 2 => ("ForgoneShop$Choice", "priceOfSet", "[I", true)
  | 3 => ("ForgoneShop$Choice", "worthOfSet", "[I", true)
  | 4 => ("ForgoneShop$Choice", "set", "I", false)
  | _ => ("ForgoneShop$Choice", "worth", "I", false)
def t_C : Nat → FieldType := fun k => match k with
  | 0 => .array .int
  | 1 => .array .int
  | 2 => .array .int
  | 3 => .array .int
  | 4 => .int
  | _ => .int
theorem n_C : ∀ a, a < 6 → ∀ b, b < 6 → a ≠ b → (T_C a).2.1 ≠ (T_C b).2.1 := by decide +kernel
theorem t_C_ok : ∀ k, k < 6 → parseFieldDescriptor (T_C k).2.2.1 = some (t_C k) := by decide +kernel
theorem in_C : ∀ wd ∈ u_ws R_C T_C 6, wd ∈ gw := by decide +kernel
def R_E : String := "ForgoneShop$Exchange"
def T_E : u_T := fun k => match k with
  | 0 => ("ForgoneShop$Exchange", "moved", "[I", true)
  | 1 => ("ForgoneShop$Exchange", "quota", "[I", true)
  | 2 => ("ForgoneShop$Exchange", "weight", "[I", true)
  | 3 => ("ForgoneShop$Exchange", "leastOfCode", "[I", true)
  | 4 => ("ForgoneShop$Exchange", "holder", "[I", true)
  | 5 => ("ForgoneShop$Exchange", "size", "I", false)
  | 6 => ("ForgoneShop$Exchange", "codes", "I", false)
  | _ => ("ForgoneShop$Exchange", "least", "I", false)
def t_E : Nat → FieldType := fun k => match k with
  | 0 => .array .int
  | 1 => .array .int
  | 2 => .array .int
  | 3 => .array .int
  | 4 => .array .int
  | 5 => .int
  | 6 => .int
  | _ => .int
theorem n_E : ∀ a, a < 8 → ∀ b, b < 8 → a ≠ b → (T_E a).2.1 ≠ (T_E b).2.1 := by decide +kernel
theorem t_E_ok : ∀ k, k < 8 → parseFieldDescriptor (T_E k).2.2.1 = some (t_E k) := by decide +kernel
theorem in_E : ∀ wd ∈ u_ws R_E T_E 8, wd ∈ gw := by decide +kernel
def R_L : String := "ForgoneShop$Letters"
def T_L : u_T := fun k => match k with
  | 0 => ("ForgoneShop$Letters", "signs", "[C", true)
  | _ => ("ForgoneShop$Letters", "size", "I", false)
def t_L : Nat → FieldType := fun k => match k with
  | 0 => .array .char
  | _ => .int
theorem n_L : ∀ a, a < 2 → ∀ b, b < 2 → a ≠ b → (T_L a).2.1 ≠ (T_L b).2.1 := by decide +kernel
theorem t_L_ok : ∀ k, k < 2 → parseFieldDescriptor (T_L k).2.2.1 = some (t_L k) := by decide +kernel
theorem in_L : ∀ wd ∈ u_ws R_L T_L 2, wd ∈ gw := by decide +kernel
def R_K : String := "ForgoneShop$Looks"
def T_K : u_T := fun k => match k with
  | 0 => ("ForgoneShop$Looks", "thing", "[I", true)
  | 1 => ("ForgoneShop$Looks", "days", "[I", true)
  | 2 => ("ForgoneShop$Looks", "near", "[I", true)
  | _ => ("ForgoneShop$Looks", "size", "I", false)
def t_K : Nat → FieldType := fun k => match k with
  | 0 => .array .int
  | 1 => .array .int
  | 2 => .array .int
  | _ => .int
theorem n_K : ∀ a, a < 4 → ∀ b, b < 4 → a ≠ b → (T_K a).2.1 ≠ (T_K b).2.1 := by decide +kernel
theorem t_K_ok : ∀ k, k < 4 → parseFieldDescriptor (T_K k).2.2.1 = some (t_K k) := by decide +kernel
theorem in_K : ∀ wd ∈ u_ws R_K T_K 4, wd ∈ gw := by decide +kernel
def R_M : String := "ForgoneShop$Memory"
def T_M : u_T := fun k => match k with
  | 0 => ("ForgoneShop$Memory", "ring", "[LForgoneShop$Stand;", true)
  | 1 => ("ForgoneShop$Memory", "next", "I", false)
  | _ => ("ForgoneShop$Memory", "held", "I", false)
def t_M : Nat → FieldType := fun k => match k with
  | 0 => .array (.object "ForgoneShop$Stand")
  | 1 => .int
  | _ => .int
theorem n_M : ∀ a, a < 3 → ∀ b, b < 3 → a ≠ b → (T_M a).2.1 ≠ (T_M b).2.1 := by decide +kernel
theorem t_M_ok : ∀ k, k < 3 → parseFieldDescriptor (T_M k).2.2.1 = some (t_M k) := by decide +kernel
theorem in_M : ∀ wd ∈ u_ws R_M T_M 3, wd ∈ gw := by decide +kernel
def R_P : String := "ForgoneShop$Plan"
def T_P : u_T := fun k => match k with
  | 0 => ("ForgoneShop$Plan", "persons", "I", false)
  | 1 => ("ForgoneShop$Plan", "money", "[I", true)
  | 2 => ("ForgoneShop$Plan", "things", "I", false)
  | 3 => ("ForgoneShop$Plan", "owner", "[I", true)
  | 4 => ("ForgoneShop$Plan", "kind", "[I", true)
  | 5 => ("ForgoneShop$Plan", "near", "[I", true)
  | 6 => ("ForgoneShop$Plan", "rued", "[I", true)
  | 7 => ("ForgoneShop$Plan", "rates", "I", false)
  | 8 => ("ForgoneShop$Plan", "rateRow", "[I", true)
  | 9 => ("ForgoneShop$Plan", "shopMoney", "I", false)
  | _ => ("ForgoneShop$Plan", "leastNear", "I", false)
def t_P : Nat → FieldType := fun k => match k with
  | 0 => .int
  | 1 => .array .int
  | 2 => .int
  | 3 => .array .int
  | 4 => .array .int
  | 5 => .array .int
  | 6 => .array .int
  | 7 => .int
  | 8 => .array .int
  | 9 => .int
  | _ => .int
theorem n_P : ∀ a, a < 11 → ∀ b, b < 11 → a ≠ b → (T_P a).2.1 ≠ (T_P b).2.1 := by decide +kernel
theorem t_P_ok : ∀ k, k < 11 → parseFieldDescriptor (T_P k).2.2.1 = some (t_P k) := by decide +kernel
theorem in_P : ∀ wd ∈ u_ws R_P T_P 11, wd ∈ gw := by decide +kernel
def R_R : String := "ForgoneShop$Reader"
def T_R : u_T := fun k => match k with
  | 0 => ("ForgoneShop$Reader", "numbers", "[I", true)
  | _ => ("ForgoneShop$Reader", "howMany", "I", false)
def t_R : Nat → FieldType := fun k => match k with
  | 0 => .array .int
  | _ => .int
theorem n_R : ∀ a, a < 2 → ∀ b, b < 2 → a ≠ b → (T_R a).2.1 ≠ (T_R b).2.1 := by decide +kernel
theorem t_R_ok : ∀ k, k < 2 → parseFieldDescriptor (T_R k).2.2.1 = some (t_R k) := by decide +kernel
theorem in_R : ∀ wd ∈ u_ws R_R T_R 2, wd ∈ gw := by decide +kernel
def R_S : String := "ForgoneShop$Stand"
def T_S : u_T := fun k => match k with
  | 0 => ("ForgoneShop$Stand", "day", "I", false)
  | 1 => ("ForgoneShop$Stand", "shopMoney", "I", false)
  | 2 => ("ForgoneShop$Stand", "money", "[I", true)
  | 3 => ("ForgoneShop$Stand", "rue", "[I", true)
  | 4 => ("ForgoneShop$Stand", "near", "[I", true)
  | _ => ("ForgoneShop$Stand", "place", "[I", true)
def t_S : Nat → FieldType := fun k => match k with
  | 0 => .int
  | 1 => .int
  | 2 => .array .int
  | 3 => .array .int
  | 4 => .array .int
  | _ => .array .int
theorem n_S : ∀ a, a < 6 → ∀ b, b < 6 → a ≠ b → (T_S a).2.1 ≠ (T_S b).2.1 := by decide +kernel
theorem t_S_ok : ∀ k, k < 6 → parseFieldDescriptor (T_S k).2.2.1 = some (t_S k) := by decide +kernel
theorem in_S : ∀ wd ∈ u_ws R_S T_S 6, wd ∈ gw := by decide +kernel
def R_F : String := "ForgoneShop"
def T_F : u_T := fun k => match k with
  | 0 => ("ForgoneShop", "text", "LForgoneShop$Letters;", true)
  | 1 => ("ForgoneShop", "reader", "LForgoneShop$Reader;", true)
  | 2 => ("ForgoneShop", "plan", "LForgoneShop$Plan;", false)
  | 3 => ("ForgoneShop", "spare", "LForgoneShop$Plan;", false)
  | 4 => ("ForgoneShop", "now", "LForgoneShop$Stand;", true)
  | 5 => ("ForgoneShop", "trial", "LForgoneShop$Stand;", true)
  | 6 => ("ForgoneShop", "done", "LForgoneShop$Memory;", true)
  | 7 => ("ForgoneShop", "kept", "LForgoneShop$Memory;", true)
  | 8 => ("ForgoneShop", "looks", "LForgoneShop$Looks;", true)
  | 9 => ("ForgoneShop", "choice", "LForgoneShop$Choice;", true)
  | _ => ("ForgoneShop", "exchange", "LForgoneShop$Exchange;", true)
def t_F : Nat → FieldType := fun k => match k with
  | 0 => .object "ForgoneShop$Letters"
  | 1 => .object "ForgoneShop$Reader"
  | 2 => .object "ForgoneShop$Plan"
  | 3 => .object "ForgoneShop$Plan"
  | 4 => .object "ForgoneShop$Stand"
  | 5 => .object "ForgoneShop$Stand"
  | 6 => .object "ForgoneShop$Memory"
  | 7 => .object "ForgoneShop$Memory"
  | 8 => .object "ForgoneShop$Looks"
  | 9 => .object "ForgoneShop$Choice"
  | _ => .object "ForgoneShop$Exchange"
theorem n_F : ∀ a, a < 11 → ∀ b, b < 11 → a ≠ b → (T_F a).2.1 ≠ (T_F b).2.1 := by decide +kernel
theorem t_F_ok : ∀ k, k < 11 → parseFieldDescriptor (T_F k).2.2.1 = some (t_F k) := by decide +kernel
theorem in_F : ∀ wd ∈ u_ws R_F T_F 11, wd ∈ gw := by decide +kernel
def R_Z : String := "ForgoneShopModel"
def T_Z : u_T := fun k => match k with
  | 0 => ("ForgoneShopModel", "persons", "I", false)
  | 1 => ("ForgoneShopModel", "things", "I", false)
  | 2 => ("ForgoneShopModel", "rateMany", "I", false)
  | 3 => ("ForgoneShopModel", "limit", "I", false)
  | 4 => ("ForgoneShopModel", "rates", "[I", true)
  | 5 => ("ForgoneShopModel", "whose", "[I", true)
  | 6 => ("ForgoneShopModel", "kindOf", "[I", true)
  | 7 => ("ForgoneShopModel", "rued", "[I", true)
  | 8 => ("ForgoneShopModel", "day", "I", false)
  | 9 => ("ForgoneShopModel", "shopMoney", "I", false)
  | 10 => ("ForgoneShopModel", "money", "[I", true)
  | 11 => ("ForgoneShopModel", "rues", "[I", true)
  | 12 => ("ForgoneShopModel", "near", "[I", true)
  | 13 => ("ForgoneShopModel", "where", "[I", true)
  | 14 => ("ForgoneShopModel", "seenMany", "I", false)
  | 15 => ("ForgoneShopModel", "seenOf", "[I", true)
  | 16 => ("ForgoneShopModel", "seenBehind", "[I", true)
  | 17 => ("ForgoneShopModel", "seenNear", "[I", true)
  | 18 => ("ForgoneShopModel", "text", "[I", true)
  | 19 => ("ForgoneShopModel", "size", "I", false)
  | 20 => ("ForgoneShopModel", "readAt", "I", false)
  | 21 => ("ForgoneShopModel", "readPersons", "I", false)
  | 22 => ("ForgoneShopModel", "readThings", "I", false)
  | 23 => ("ForgoneShopModel", "readRates", "I", false)
  | 24 => ("ForgoneShopModel", "readShop", "I", false)
  | 25 => ("ForgoneShopModel", "readLimit", "I", false)
  | 26 => ("ForgoneShopModel", "readMoney", "[I", true)
  | 27 => ("ForgoneShopModel", "readThing", "[I", true)
  | 28 => ("ForgoneShopModel", "readRate", "[I", true)
  | 29 => ("ForgoneShopModel", "readNumber", "I", false)
  | 30 => ("ForgoneShopModel", "ahead", "[I", true)
  | 31 => ("ForgoneShopModel", "undoMany", "I", false)
  | 32 => ("ForgoneShopModel", "aside", "[I", true)
  | 33 => ("ForgoneShopModel", "slots", "I", false)
  | 34 => ("ForgoneShopModel", "slotOf", "[I", true)
  | 35 => ("ForgoneShopModel", "inSlots", "[I", true)
  | 36 => ("ForgoneShopModel", "costs", "[I", true)
  | 37 => ("ForgoneShopModel", "kept", "[I", true)
  | _ => ("ForgoneShopModel", "keptMany", "I", false)
def t_Z : Nat → FieldType := fun k => match k with
  | 0 => .int
  | 1 => .int
  | 2 => .int
  | 3 => .int
  | 4 => .array .int
  | 5 => .array .int
  | 6 => .array .int
  | 7 => .array .int
  | 8 => .int
  | 9 => .int
  | 10 => .array .int
  | 11 => .array .int
  | 12 => .array .int
  | 13 => .array .int
  | 14 => .int
  | 15 => .array .int
  | 16 => .array .int
  | 17 => .array .int
  | 18 => .array .int
  | 19 => .int
  | 20 => .int
  | 21 => .int
  | 22 => .int
  | 23 => .int
  | 24 => .int
  | 25 => .int
  | 26 => .array .int
  | 27 => .array .int
  | 28 => .array .int
  | 29 => .int
  | 30 => .array .int
  | 31 => .int
  | 32 => .array .int
  | 33 => .int
  | 34 => .array .int
  | 35 => .array .int
  | 36 => .array .int
  | 37 => .array .int
  | _ => .int
theorem n_Z : ∀ a, a < 39 → ∀ b, b < 39 → a ≠ b → (T_Z a).2.1 ≠ (T_Z b).2.1 := by decide +kernel
theorem t_Z_ok : ∀ k, k < 39 → parseFieldDescriptor (T_Z k).2.2.1 = some (t_Z k) := by decide +kernel
theorem in_Z : ∀ wd ∈ u_ws R_Z T_Z 39, wd ∈ gw := by decide +kernel
abbrev CL : List vw_C := [(R_C, T_C, 6), (R_E, T_E, 8), (R_L, T_L, 2), (R_K, T_K, 4), (R_M, T_M, 3), (R_P, T_P, 11), (R_R, T_R, 2), (R_S, T_S, 6), (R_F, T_F, 11), (R_Z, T_Z, 39)]
end
section
/-- what a call of a method needs of the tables -/
def CMs (y : MethodName) (b : ByteArray) (nL : Nat) (ret : Option FieldType) (n : Nat) : Prop :=
  Cond.code y b nL ret ∈ gw ∧ Cond.initialized y.cls ∈ gw ∧ (y.cls ≠ "java/lang/invoke/MethodHandle" ∧ y.cls ≠ "java/lang/invoke/VarHandle" ∧ (parseMethodDescriptor y.desc).map (fun d => d.parameters.length) = some n) ∧ plainName y.cls = true
def LK (own : String) (index : Nat) (y : MethodName) : Prop := Cond.methodLink own index y ∈ gw ∨ ∃ host, Cond.methodLinkNest own index y host ∈ nw
def VM (y : MethodName) : Prop := Cond.instanceMethod y ∈ gw ∧ Cond.selects y.cls y y ∈ gw
def SM (y : MethodName) : Prop := Cond.static y ∈ gw
def FL (own : String) (index ci j : Nat) : Prop := ∃ (C : String) (T : u_T) (N : Nat) (ty : Nat → FieldType), CL[ci]? = some (C, T, N) ∧ (∀ wd ∈ u_ws C T N, wd ∈ gw) ∧ (∀ k, k < N → parseFieldDescriptor (T k).2.2.1 = some (ty k)) ∧ (∀ a, a < N → ∀ b, b < N → a ≠ b → (T a).2.1 ≠ (T b).2.1) ∧ j < N ∧ (Cond.fieldLink own index (T j).1 (T j).2.1 (T j).2.2.1 ∈ gw ∨ ∃ host, Cond.fieldLinkNest own index (T j).1 (T j).2.1 (T j).2.2.1 host ∈ nw)
/-- a field that is written: not final, of type int -/
def FW (ci j : Nat) (t0 : FieldType) : Prop := ∀ (C : String) (T : u_T) (N : Nat), CL[ci]? = some (C, T, N) → (T j).2.2.2 = false ∧ parseFieldDescriptor (T j).2.2.1 = some t0

abbrev b_F_init : ByteArray := prog_1_method_1_code
def y_F_init : MethodName := ⟨"ForgoneShop", "<init>", "()V"⟩
theorem cm_F_init : CMs y_F_init b_F_init 2 (none) 0 := ⟨gw_in 102 (by decide +kernel) rfl, gw_in 83 (by decide +kernel) rfl, by decide +kernel, by decide +kernel⟩
abbrev b_L_init : ByteArray := prog_4_method_1_code
def y_L_init : MethodName := ⟨"ForgoneShop$Letters", "<init>", "()V"⟩
theorem cm_L_init : CMs y_L_init b_L_init 1 (none) 0 := ⟨gw_in 110 (by decide +kernel) rfl, gw_in 84 (by decide +kernel) rfl, by decide +kernel, by decide +kernel⟩
abbrev b_R_init : ByteArray := prog_8_method_1_code
def y_R_init : MethodName := ⟨"ForgoneShop$Reader", "<init>", "()V"⟩
theorem cm_R_init : CMs y_R_init b_R_init 1 (none) 0 := ⟨gw_in 126 (by decide +kernel) rfl, gw_in 85 (by decide +kernel) rfl, by decide +kernel, by decide +kernel⟩
abbrev b_P_init : ByteArray := prog_7_method_1_code
def y_P_init : MethodName := ⟨"ForgoneShop$Plan", "<init>", "()V"⟩
theorem cm_P_init : CMs y_P_init b_P_init 1 (none) 0 := ⟨gw_in 140 (by decide +kernel) rfl, gw_in 86 (by decide +kernel) rfl, by decide +kernel, by decide +kernel⟩
abbrev b_S_init : ByteArray := prog_9_method_1_code
def y_S_init : MethodName := ⟨"ForgoneShop$Stand", "<init>", "()V"⟩
theorem cm_S_init : CMs y_S_init b_S_init 1 (none) 0 := ⟨gw_in 198 (by decide +kernel) rfl, gw_in 87 (by decide +kernel) rfl, by decide +kernel, by decide +kernel⟩
abbrev b_M_init : ByteArray := prog_6_method_1_code
def y_M_init : MethodName := ⟨"ForgoneShop$Memory", "<init>", "()V"⟩
theorem cm_M_init : CMs y_M_init b_M_init 2 (none) 0 := ⟨gw_in 230 (by decide +kernel) rfl, gw_in 88 (by decide +kernel) rfl, by decide +kernel, by decide +kernel⟩
abbrev b_K_init : ByteArray := prog_5_method_1_code
def y_K_init : MethodName := ⟨"ForgoneShop$Looks", "<init>", "()V"⟩
theorem cm_K_init : CMs y_K_init b_K_init 1 (none) 0 := ⟨gw_in 250 (by decide +kernel) rfl, gw_in 89 (by decide +kernel) rfl, by decide +kernel, by decide +kernel⟩
abbrev b_C_init : ByteArray := prog_2_method_1_code
def y_C_init : MethodName := ⟨"ForgoneShop$Choice", "<init>", "()V"⟩
theorem cm_C_init : CMs y_C_init b_C_init 1 (none) 0 := ⟨gw_in 273 (by decide +kernel) rfl, gw_in 90 (by decide +kernel) rfl, by decide +kernel, by decide +kernel⟩
abbrev b_E_init : ByteArray := prog_3_method_1_code
def y_E_init : MethodName := ⟨"ForgoneShop$Exchange", "<init>", "()V"⟩
theorem cm_E_init : CMs y_E_init b_E_init 1 (none) 0 := ⟨gw_in 300 (by decide +kernel) rfl, gw_in 91 (by decide +kernel) rfl, by decide +kernel, by decide +kernel⟩
abbrev b_L_add : ByteArray := prog_4_method_2_code
def y_L_add : MethodName := ⟨"ForgoneShop$Letters", "add", "(C)Z"⟩
theorem cm_L_add : CMs y_L_add b_L_add 2 (some (.boolean)) 1 := ⟨gw_in 381 (by decide +kernel) rfl, gw_in 84 (by decide +kernel) rfl, by decide +kernel, by decide +kernel⟩
theorem vm_L_add : VM y_L_add := ⟨gw_in 380 (by decide +kernel) rfl, gw_in 0 (by decide +kernel) rfl⟩
abbrev b_F_layText : ByteArray := prog_1_method_30_code
def y_F_layText : MethodName := ⟨"ForgoneShop", "layText", "()Z"⟩
theorem cm_F_layText : CMs y_F_layText b_F_layText 2 (some (.boolean)) 0 := ⟨gw_in 385 (by decide +kernel) rfl, gw_in 83 (by decide +kernel) rfl, by decide +kernel, by decide +kernel⟩
theorem vm_F_layText : VM y_F_layText := ⟨gw_in 384 (by decide +kernel) rfl, gw_in 1 (by decide +kernel) rfl⟩
abbrev b_R_readInto : ByteArray := prog_8_method_2_code
def y_R_readInto : MethodName := ⟨"ForgoneShop$Reader", "readInto", "(LForgoneShop$Plan;LForgoneShop$Letters;)I"⟩
theorem cm_R_readInto : CMs y_R_readInto b_R_readInto 6 (some (.int)) 2 := ⟨gw_in 389 (by decide +kernel) rfl, gw_in 85 (by decide +kernel) rfl, by decide +kernel, by decide +kernel⟩
theorem vm_R_readInto : VM y_R_readInto := ⟨gw_in 388 (by decide +kernel) rfl, gw_in 2 (by decide +kernel) rfl⟩
abbrev b_P_clear : ByteArray := prog_7_method_2_code
def y_P_clear : MethodName := ⟨"ForgoneShop$Plan", "clear", "()V"⟩
theorem cm_P_clear : CMs y_P_clear b_P_clear 1 (none) 0 := ⟨gw_in 393 (by decide +kernel) rfl, gw_in 86 (by decide +kernel) rfl, by decide +kernel, by decide +kernel⟩
theorem vm_P_clear : VM y_P_clear := ⟨gw_in 392 (by decide +kernel) rfl, gw_in 3 (by decide +kernel) rfl⟩
abbrev b_R_readNumbers : ByteArray := prog_8_method_3_code
def y_R_readNumbers : MethodName := ⟨"ForgoneShop$Reader", "readNumbers", "(LForgoneShop$Letters;I)I"⟩
theorem cm_R_readNumbers : CMs y_R_readNumbers b_R_readNumbers 7 (some (.int)) 2 := ⟨gw_in 397 (by decide +kernel) rfl, gw_in 85 (by decide +kernel) rfl, by decide +kernel, by decide +kernel⟩
theorem vm_R_readNumbers : VM y_R_readNumbers := ⟨gw_in 396 (by decide +kernel) rfl, gw_in 4 (by decide +kernel) rfl⟩
abbrev b_R_isFigure : ByteArray := prog_8_method_4_code
def y_R_isFigure : MethodName := ⟨"ForgoneShop$Reader", "isFigure", "(LForgoneShop$Letters;I)Z"⟩
theorem cm_R_isFigure : CMs y_R_isFigure b_R_isFigure 3 (some (.boolean)) 2 := ⟨gw_in 401 (by decide +kernel) rfl, gw_in 85 (by decide +kernel) rfl, by decide +kernel, by decide +kernel⟩
theorem vm_R_isFigure : VM y_R_isFigure := ⟨gw_in 400 (by decide +kernel) rfl, gw_in 5 (by decide +kernel) rfl⟩
abbrev b_L_letter : ByteArray := prog_4_method_3_code
def y_L_letter : MethodName := ⟨"ForgoneShop$Letters", "letter", "(I)C"⟩
theorem cm_L_letter : CMs y_L_letter b_L_letter 2 (some (.char)) 1 := ⟨gw_in 405 (by decide +kernel) rfl, gw_in 84 (by decide +kernel) rfl, by decide +kernel, by decide +kernel⟩
theorem vm_L_letter : VM y_L_letter := ⟨gw_in 404 (by decide +kernel) rfl, gw_in 6 (by decide +kernel) rfl⟩
abbrev b_F_within : ByteArray := prog_1_method_38_code
def y_F_within : MethodName := ⟨"ForgoneShop", "within", "(III)Z"⟩
theorem cm_F_within : CMs y_F_within b_F_within 3 (some (.boolean)) 3 := ⟨gw_in 408 (by decide +kernel) rfl, gw_in 83 (by decide +kernel) rfl, by decide +kernel, by decide +kernel⟩
theorem sm_F_within : SM y_F_within := gw_in 407 (by decide +kernel) rfl
abbrev b_F_put : ByteArray := prog_1_method_40_code
def y_F_put : MethodName := ⟨"ForgoneShop", "put", "([III)V"⟩
theorem cm_F_put : CMs y_F_put b_F_put 3 (none) 3 := ⟨gw_in 411 (by decide +kernel) rfl, gw_in 83 (by decide +kernel) rfl, by decide +kernel, by decide +kernel⟩
theorem sm_F_put : SM y_F_put := gw_in 410 (by decide +kernel) rfl
abbrev b_R_tell : ByteArray := prog_8_method_5_code
def y_R_tell : MethodName := ⟨"ForgoneShop$Reader", "tell", "(LForgoneShop$Plan;C)Z"⟩
theorem cm_R_tell : CMs y_R_tell b_R_tell 5 (some (.boolean)) 2 := ⟨gw_in 415 (by decide +kernel) rfl, gw_in 85 (by decide +kernel) rfl, by decide +kernel, by decide +kernel⟩
theorem vm_R_tell : VM y_R_tell := ⟨gw_in 414 (by decide +kernel) rfl, gw_in 7 (by decide +kernel) rfl⟩
abbrev b_F_at : ByteArray := prog_1_method_39_code
def y_F_at : MethodName := ⟨"ForgoneShop", "at", "([II)I"⟩
theorem cm_F_at : CMs y_F_at b_F_at 2 (some (.int)) 2 := ⟨gw_in 418 (by decide +kernel) rfl, gw_in 83 (by decide +kernel) rfl, by decide +kernel, by decide +kernel⟩
theorem sm_F_at : SM y_F_at := gw_in 417 (by decide +kernel) rfl
abbrev b_P_addPerson : ByteArray := prog_7_method_4_code
def y_P_addPerson : MethodName := ⟨"ForgoneShop$Plan", "addPerson", "(I)Z"⟩
theorem cm_P_addPerson : CMs y_P_addPerson b_P_addPerson 2 (some (.boolean)) 1 := ⟨gw_in 422 (by decide +kernel) rfl, gw_in 86 (by decide +kernel) rfl, by decide +kernel, by decide +kernel⟩
theorem vm_P_addPerson : VM y_P_addPerson := ⟨gw_in 421 (by decide +kernel) rfl, gw_in 8 (by decide +kernel) rfl⟩
abbrev b_P_addThing : ByteArray := prog_7_method_5_code
def y_P_addThing : MethodName := ⟨"ForgoneShop$Plan", "addThing", "(IIII)Z"⟩
theorem cm_P_addThing : CMs y_P_addThing b_P_addThing 6 (some (.boolean)) 4 := ⟨gw_in 427 (by decide +kernel) rfl, gw_in 86 (by decide +kernel) rfl, by decide +kernel, by decide +kernel⟩
theorem vm_P_addThing : VM y_P_addThing := ⟨gw_in 426 (by decide +kernel) rfl, gw_in 9 (by decide +kernel) rfl⟩
abbrev b_P_addRate : ByteArray := prog_7_method_6_code
def y_P_addRate : MethodName := ⟨"ForgoneShop$Plan", "addRate", "(I)Z"⟩
theorem cm_P_addRate : CMs y_P_addRate b_P_addRate 2 (some (.boolean)) 1 := ⟨gw_in 432 (by decide +kernel) rfl, gw_in 86 (by decide +kernel) rfl, by decide +kernel, by decide +kernel⟩
theorem vm_P_addRate : VM y_P_addRate := ⟨gw_in 431 (by decide +kernel) rfl, gw_in 10 (by decide +kernel) rfl⟩
abbrev b_P_setShop : ByteArray := prog_7_method_7_code
def y_P_setShop : MethodName := ⟨"ForgoneShop$Plan", "setShop", "(II)Z"⟩
theorem cm_P_setShop : CMs y_P_setShop b_P_setShop 3 (some (.boolean)) 2 := ⟨gw_in 436 (by decide +kernel) rfl, gw_in 86 (by decide +kernel) rfl, by decide +kernel, by decide +kernel⟩
theorem vm_P_setShop : VM y_P_setShop := ⟨gw_in 435 (by decide +kernel) rfl, gw_in 11 (by decide +kernel) rfl⟩
abbrev b_S_begin : ByteArray := prog_9_method_2_code
def y_S_begin : MethodName := ⟨"ForgoneShop$Stand", "begin", "(LForgoneShop$Plan;)V"⟩
theorem cm_S_begin : CMs y_S_begin b_S_begin 3 (none) 1 := ⟨gw_in 440 (by decide +kernel) rfl, gw_in 87 (by decide +kernel) rfl, by decide +kernel, by decide +kernel⟩
theorem vm_S_begin : VM y_S_begin := ⟨gw_in 439 (by decide +kernel) rfl, gw_in 12 (by decide +kernel) rfl⟩
abbrev b_F_copyRow : ByteArray := prog_1_method_41_code
def y_F_copyRow : MethodName := ⟨"ForgoneShop", "copyRow", "([I[I)V"⟩
theorem cm_F_copyRow : CMs y_F_copyRow b_F_copyRow 3 (none) 2 := ⟨gw_in 443 (by decide +kernel) rfl, gw_in 83 (by decide +kernel) rfl, by decide +kernel, by decide +kernel⟩
theorem sm_F_copyRow : SM y_F_copyRow := gw_in 442 (by decide +kernel) rfl
abbrev b_F_write : ByteArray := prog_1_method_2_code
def y_F_write : MethodName := ⟨"ForgoneShop", "write", "(I)I"⟩
theorem cm_F_write : CMs y_F_write b_F_write 2 (some (.int)) 1 := ⟨gw_in 485 (by decide +kernel) rfl, gw_in 83 (by decide +kernel) rfl, by decide +kernel, by decide +kernel⟩
theorem vm_F_write : VM y_F_write := ⟨gw_in 483 (by decide +kernel) rfl, gw_in 484 (by decide +kernel) rfl⟩
abbrev b_F_wipe : ByteArray := prog_1_method_3_code
def y_F_wipe : MethodName := ⟨"ForgoneShop", "wipe", "()I"⟩
theorem cm_F_wipe : CMs y_F_wipe b_F_wipe 2 (some (.int)) 0 := ⟨gw_in 490 (by decide +kernel) rfl, gw_in 83 (by decide +kernel) rfl, by decide +kernel, by decide +kernel⟩
theorem vm_F_wipe : VM y_F_wipe := ⟨gw_in 488 (by decide +kernel) rfl, gw_in 489 (by decide +kernel) rfl⟩
abbrev b_F_fault : ByteArray := prog_1_method_4_code
def y_F_fault : MethodName := ⟨"ForgoneShop", "fault", "()I"⟩
theorem cm_F_fault : CMs y_F_fault b_F_fault 1 (some (.int)) 0 := ⟨gw_in 494 (by decide +kernel) rfl, gw_in 83 (by decide +kernel) rfl, by decide +kernel, by decide +kernel⟩
theorem vm_F_fault : VM y_F_fault := ⟨gw_in 492 (by decide +kernel) rfl, gw_in 493 (by decide +kernel) rfl⟩
abbrev b_F_lay : ByteArray := prog_1_method_5_code
def y_F_lay : MethodName := ⟨"ForgoneShop", "lay", "()I"⟩
theorem cm_F_lay : CMs y_F_lay b_F_lay 1 (some (.int)) 0 := ⟨gw_in 498 (by decide +kernel) rfl, gw_in 83 (by decide +kernel) rfl, by decide +kernel, by decide +kernel⟩
theorem vm_F_lay : VM y_F_lay := ⟨gw_in 496 (by decide +kernel) rfl, gw_in 497 (by decide +kernel) rfl⟩
abbrev b_F_person : ByteArray := prog_1_method_6_code
def y_F_person : MethodName := ⟨"ForgoneShop", "person", "(II)I"⟩
theorem cm_F_person : CMs y_F_person b_F_person 3 (some (.int)) 2 := ⟨gw_in 502 (by decide +kernel) rfl, gw_in 83 (by decide +kernel) rfl, by decide +kernel, by decide +kernel⟩
theorem vm_F_person : VM y_F_person := ⟨gw_in 500 (by decide +kernel) rfl, gw_in 501 (by decide +kernel) rfl⟩
abbrev b_F_isPerson : ByteArray := prog_1_method_31_code
def y_F_isPerson : MethodName := ⟨"ForgoneShop", "isPerson", "(I)Z"⟩
theorem cm_F_isPerson : CMs y_F_isPerson b_F_isPerson 2 (some (.boolean)) 1 := ⟨gw_in 506 (by decide +kernel) rfl, gw_in 83 (by decide +kernel) rfl, by decide +kernel, by decide +kernel⟩
theorem vm_F_isPerson : VM y_F_isPerson := ⟨gw_in 505 (by decide +kernel) rfl, gw_in 13 (by decide +kernel) rfl⟩
abbrev b_S_thingsWith : ByteArray := prog_9_method_13_code
def y_S_thingsWith : MethodName := ⟨"ForgoneShop$Stand", "thingsWith", "(LForgoneShop$Plan;I)I"⟩
theorem cm_S_thingsWith : CMs y_S_thingsWith b_S_thingsWith 5 (some (.int)) 2 := ⟨gw_in 510 (by decide +kernel) rfl, gw_in 87 (by decide +kernel) rfl, by decide +kernel, by decide +kernel⟩
theorem vm_S_thingsWith : VM y_S_thingsWith := ⟨gw_in 509 (by decide +kernel) rfl, gw_in 14 (by decide +kernel) rfl⟩
abbrev b_F_thing : ByteArray := prog_1_method_7_code
def y_F_thing : MethodName := ⟨"ForgoneShop", "thing", "(II)I"⟩
theorem cm_F_thing : CMs y_F_thing b_F_thing 3 (some (.int)) 2 := ⟨gw_in 515 (by decide +kernel) rfl, gw_in 83 (by decide +kernel) rfl, by decide +kernel, by decide +kernel⟩
theorem vm_F_thing : VM y_F_thing := ⟨gw_in 513 (by decide +kernel) rfl, gw_in 514 (by decide +kernel) rfl⟩
abbrev b_F_isThing : ByteArray := prog_1_method_32_code
def y_F_isThing : MethodName := ⟨"ForgoneShop", "isThing", "(I)Z"⟩
theorem cm_F_isThing : CMs y_F_isThing b_F_isThing 2 (some (.boolean)) 1 := ⟨gw_in 519 (by decide +kernel) rfl, gw_in 83 (by decide +kernel) rfl, by decide +kernel, by decide +kernel⟩
theorem vm_F_isThing : VM y_F_isThing := ⟨gw_in 518 (by decide +kernel) rfl, gw_in 15 (by decide +kernel) rfl⟩
abbrev b_S_price : ByteArray := prog_9_method_4_code
def y_S_price : MethodName := ⟨"ForgoneShop$Stand", "price", "(LForgoneShop$Plan;I)I"⟩
theorem cm_S_price : CMs y_S_price b_S_price 3 (some (.int)) 2 := ⟨gw_in 523 (by decide +kernel) rfl, gw_in 87 (by decide +kernel) rfl, by decide +kernel, by decide +kernel⟩
theorem vm_S_price : VM y_S_price := ⟨gw_in 522 (by decide +kernel) rfl, gw_in 16 (by decide +kernel) rfl⟩
abbrev b_P_rate : ByteArray := prog_7_method_3_code
def y_P_rate : MethodName := ⟨"ForgoneShop$Plan", "rate", "(I)I"⟩
theorem cm_P_rate : CMs y_P_rate b_P_rate 2 (some (.int)) 1 := ⟨gw_in 527 (by decide +kernel) rfl, gw_in 86 (by decide +kernel) rfl, by decide +kernel, by decide +kernel⟩
theorem vm_P_rate : VM y_P_rate := ⟨gw_in 526 (by decide +kernel) rfl, gw_in 17 (by decide +kernel) rfl⟩
abbrev b_F_pays : ByteArray := prog_1_method_8_code
def y_F_pays : MethodName := ⟨"ForgoneShop", "pays", "(I)I"⟩
theorem cm_F_pays : CMs y_F_pays b_F_pays 2 (some (.int)) 1 := ⟨gw_in 532 (by decide +kernel) rfl, gw_in 83 (by decide +kernel) rfl, by decide +kernel, by decide +kernel⟩
theorem vm_F_pays : VM y_F_pays := ⟨gw_in 530 (by decide +kernel) rfl, gw_in 531 (by decide +kernel) rfl⟩
abbrev b_F_sell : ByteArray := prog_1_method_9_code
def y_F_sell : MethodName := ⟨"ForgoneShop", "sell", "(I)I"⟩
theorem cm_F_sell : CMs y_F_sell b_F_sell 3 (some (.int)) 1 := ⟨gw_in 537 (by decide +kernel) rfl, gw_in 83 (by decide +kernel) rfl, by decide +kernel, by decide +kernel⟩
theorem vm_F_sell : VM y_F_sell := ⟨gw_in 535 (by decide +kernel) rfl, gw_in 536 (by decide +kernel) rfl⟩
abbrev b_S_canSell : ByteArray := prog_9_method_6_code
def y_S_canSell : MethodName := ⟨"ForgoneShop$Stand", "canSell", "(LForgoneShop$Plan;I)Z"⟩
theorem cm_S_canSell : CMs y_S_canSell b_S_canSell 3 (some (.boolean)) 2 := ⟨gw_in 541 (by decide +kernel) rfl, gw_in 87 (by decide +kernel) rfl, by decide +kernel, by decide +kernel⟩
theorem vm_S_canSell : VM y_S_canSell := ⟨gw_in 540 (by decide +kernel) rfl, gw_in 18 (by decide +kernel) rfl⟩
abbrev b_S_isOffered : ByteArray := prog_9_method_5_code
def y_S_isOffered : MethodName := ⟨"ForgoneShop$Stand", "isOffered", "(LForgoneShop$Plan;I)Z"⟩
theorem cm_S_isOffered : CMs y_S_isOffered b_S_isOffered 3 (some (.boolean)) 2 := ⟨gw_in 545 (by decide +kernel) rfl, gw_in 87 (by decide +kernel) rfl, by decide +kernel, by decide +kernel⟩
theorem vm_S_isOffered : VM y_S_isOffered := ⟨gw_in 544 (by decide +kernel) rfl, gw_in 19 (by decide +kernel) rfl⟩
abbrev b_M_push : ByteArray := prog_6_method_2_code
def y_M_push : MethodName := ⟨"ForgoneShop$Memory", "push", "(LForgoneShop$Stand;)V"⟩
theorem cm_M_push : CMs y_M_push b_M_push 3 (none) 1 := ⟨gw_in 550 (by decide +kernel) rfl, gw_in 88 (by decide +kernel) rfl, by decide +kernel, by decide +kernel⟩
theorem vm_M_push : VM y_M_push := ⟨gw_in 549 (by decide +kernel) rfl, gw_in 20 (by decide +kernel) rfl⟩
abbrev b_M_slotAt : ByteArray := prog_6_method_4_code
def y_M_slotAt : MethodName := ⟨"ForgoneShop$Memory", "slotAt", "(I)LForgoneShop$Stand;"⟩
theorem cm_M_slotAt : CMs y_M_slotAt b_M_slotAt 2 (some (.object "ForgoneShop$Stand")) 1 := ⟨gw_in 554 (by decide +kernel) rfl, gw_in 88 (by decide +kernel) rfl, by decide +kernel, by decide +kernel⟩
theorem vm_M_slotAt : VM y_M_slotAt := ⟨gw_in 553 (by decide +kernel) rfl, gw_in 21 (by decide +kernel) rfl⟩
abbrev b_S_copyFrom : ByteArray := prog_9_method_3_code
def y_S_copyFrom : MethodName := ⟨"ForgoneShop$Stand", "copyFrom", "(LForgoneShop$Stand;)V"⟩
theorem cm_S_copyFrom : CMs y_S_copyFrom b_S_copyFrom 2 (none) 1 := ⟨gw_in 558 (by decide +kernel) rfl, gw_in 87 (by decide +kernel) rfl, by decide +kernel, by decide +kernel⟩
theorem vm_S_copyFrom : VM y_S_copyFrom := ⟨gw_in 557 (by decide +kernel) rfl, gw_in 22 (by decide +kernel) rfl⟩
abbrev b_S_moveToCellar : ByteArray := prog_9_method_8_code
def y_S_moveToCellar : MethodName := ⟨"ForgoneShop$Stand", "moveToCellar", "(LForgoneShop$Plan;I)V"⟩
theorem cm_S_moveToCellar : CMs y_S_moveToCellar b_S_moveToCellar 3 (none) 2 := ⟨gw_in 565 (by decide +kernel) rfl, gw_in 87 (by decide +kernel) rfl, by decide +kernel, by decide +kernel⟩
theorem vm_S_moveToCellar : VM y_S_moveToCellar := ⟨gw_in 564 (by decide +kernel) rfl, gw_in 23 (by decide +kernel) rfl⟩
abbrev b_S_payPerson : ByteArray := prog_9_method_10_code
def y_S_payPerson : MethodName := ⟨"ForgoneShop$Stand", "payPerson", "(II)V"⟩
theorem cm_S_payPerson : CMs y_S_payPerson b_S_payPerson 3 (none) 2 := ⟨gw_in 569 (by decide +kernel) rfl, gw_in 87 (by decide +kernel) rfl, by decide +kernel, by decide +kernel⟩
theorem vm_S_payPerson : VM y_S_payPerson := ⟨gw_in 568 (by decide +kernel) rfl, gw_in 24 (by decide +kernel) rfl⟩
abbrev b_F_buyBack : ByteArray := prog_1_method_10_code
def y_F_buyBack : MethodName := ⟨"ForgoneShop", "buyBack", "(I)I"⟩
theorem cm_F_buyBack : CMs y_F_buyBack b_F_buyBack 3 (some (.int)) 1 := ⟨gw_in 573 (by decide +kernel) rfl, gw_in 83 (by decide +kernel) rfl, by decide +kernel, by decide +kernel⟩
theorem vm_F_buyBack : VM y_F_buyBack := ⟨gw_in 571 (by decide +kernel) rfl, gw_in 572 (by decide +kernel) rfl⟩
abbrev b_S_canBuyBack : ByteArray := prog_9_method_7_code
def y_S_canBuyBack : MethodName := ⟨"ForgoneShop$Stand", "canBuyBack", "(LForgoneShop$Plan;I)Z"⟩
theorem cm_S_canBuyBack : CMs y_S_canBuyBack b_S_canBuyBack 3 (some (.boolean)) 2 := ⟨gw_in 577 (by decide +kernel) rfl, gw_in 87 (by decide +kernel) rfl, by decide +kernel, by decide +kernel⟩
theorem vm_S_canBuyBack : VM y_S_canBuyBack := ⟨gw_in 576 (by decide +kernel) rfl, gw_in 25 (by decide +kernel) rfl⟩
abbrev b_S_moveToPerson : ByteArray := prog_9_method_9_code
def y_S_moveToPerson : MethodName := ⟨"ForgoneShop$Stand", "moveToPerson", "(LForgoneShop$Plan;I)V"⟩
theorem cm_S_moveToPerson : CMs y_S_moveToPerson b_S_moveToPerson 3 (none) 2 := ⟨gw_in 581 (by decide +kernel) rfl, gw_in 87 (by decide +kernel) rfl, by decide +kernel, by decide +kernel⟩
theorem vm_S_moveToPerson : VM y_S_moveToPerson := ⟨gw_in 580 (by decide +kernel) rfl, gw_in 26 (by decide +kernel) rfl⟩
abbrev b_F_pass : ByteArray := prog_1_method_11_code
def y_F_pass : MethodName := ⟨"ForgoneShop", "pass", "(I)I"⟩
theorem cm_F_pass : CMs y_F_pass b_F_pass 3 (some (.int)) 1 := ⟨gw_in 585 (by decide +kernel) rfl, gw_in 83 (by decide +kernel) rfl, by decide +kernel, by decide +kernel⟩
theorem vm_F_pass : VM y_F_pass := ⟨gw_in 583 (by decide +kernel) rfl, gw_in 584 (by decide +kernel) rfl⟩
abbrev b_S_passDay : ByteArray := prog_9_method_11_code
def y_S_passDay : MethodName := ⟨"ForgoneShop$Stand", "passDay", "(LForgoneShop$Plan;)V"⟩
theorem cm_S_passDay : CMs y_S_passDay b_S_passDay 4 (none) 1 := ⟨gw_in 589 (by decide +kernel) rfl, gw_in 87 (by decide +kernel) rfl, by decide +kernel, by decide +kernel⟩
theorem vm_S_passDay : VM y_S_passDay := ⟨gw_in 588 (by decide +kernel) rfl, gw_in 27 (by decide +kernel) rfl⟩
abbrev b_S_goOn : ByteArray := prog_9_method_12_code
def y_S_goOn : MethodName := ⟨"ForgoneShop$Stand", "goOn", "(LForgoneShop$Plan;I)V"⟩
theorem cm_S_goOn : CMs y_S_goOn b_S_goOn 4 (none) 2 := ⟨gw_in 593 (by decide +kernel) rfl, gw_in 87 (by decide +kernel) rfl, by decide +kernel, by decide +kernel⟩
theorem vm_S_goOn : VM y_S_goOn := ⟨gw_in 592 (by decide +kernel) rfl, gw_in 28 (by decide +kernel) rfl⟩
abbrev b_F_nearNextDay : ByteArray := prog_1_method_37_code
def y_F_nearNextDay : MethodName := ⟨"ForgoneShop", "nearNextDay", "(III)I"⟩
theorem cm_F_nearNextDay : CMs y_F_nearNextDay b_F_nearNextDay 3 (some (.int)) 3 := ⟨gw_in 596 (by decide +kernel) rfl, gw_in 83 (by decide +kernel) rfl, by decide +kernel, by decide +kernel⟩
theorem sm_F_nearNextDay : SM y_F_nearNextDay := gw_in 595 (by decide +kernel) rfl
abbrev b_F_undo : ByteArray := prog_1_method_12_code
def y_F_undo : MethodName := ⟨"ForgoneShop", "undo", "()I"⟩
theorem cm_F_undo : CMs y_F_undo b_F_undo 1 (some (.int)) 0 := ⟨gw_in 604 (by decide +kernel) rfl, gw_in 83 (by decide +kernel) rfl, by decide +kernel, by decide +kernel⟩
theorem vm_F_undo : VM y_F_undo := ⟨gw_in 602 (by decide +kernel) rfl, gw_in 603 (by decide +kernel) rfl⟩
abbrev b_M_popInto : ByteArray := prog_6_method_3_code
def y_M_popInto : MethodName := ⟨"ForgoneShop$Memory", "popInto", "(LForgoneShop$Stand;)Z"⟩
theorem cm_M_popInto : CMs y_M_popInto b_M_popInto 4 (some (.boolean)) 1 := ⟨gw_in 608 (by decide +kernel) rfl, gw_in 88 (by decide +kernel) rfl, by decide +kernel, by decide +kernel⟩
theorem vm_M_popInto : VM y_M_popInto := ⟨gw_in 607 (by decide +kernel) rfl, gw_in 29 (by decide +kernel) rfl⟩
abbrev b_F_behind : ByteArray := prog_1_method_13_code
def y_F_behind : MethodName := ⟨"ForgoneShop", "behind", "(II)I"⟩
theorem cm_F_behind : CMs y_F_behind b_F_behind 3 (some (.int)) 2 := ⟨gw_in 612 (by decide +kernel) rfl, gw_in 83 (by decide +kernel) rfl, by decide +kernel, by decide +kernel⟩
theorem vm_F_behind : VM y_F_behind := ⟨gw_in 610 (by decide +kernel) rfl, gw_in 611 (by decide +kernel) rfl⟩
abbrev b_F_nearInCellar : ByteArray := prog_1_method_34_code
def y_F_nearInCellar : MethodName := ⟨"ForgoneShop", "nearInCellar", "(III)I"⟩
theorem cm_F_nearInCellar : CMs y_F_nearInCellar b_F_nearInCellar 6 (some (.int)) 3 := ⟨gw_in 616 (by decide +kernel) rfl, gw_in 83 (by decide +kernel) rfl, by decide +kernel, by decide +kernel⟩
theorem vm_F_nearInCellar : VM y_F_nearInCellar := ⟨gw_in 615 (by decide +kernel) rfl, gw_in 30 (by decide +kernel) rfl⟩
abbrev b_F_heard : ByteArray := prog_1_method_14_code
def y_F_heard : MethodName := ⟨"ForgoneShop", "heard", "(I)I"⟩
theorem cm_F_heard : CMs y_F_heard b_F_heard 3 (some (.int)) 1 := ⟨gw_in 621 (by decide +kernel) rfl, gw_in 83 (by decide +kernel) rfl, by decide +kernel, by decide +kernel⟩
theorem vm_F_heard : VM y_F_heard := ⟨gw_in 619 (by decide +kernel) rfl, gw_in 620 (by decide +kernel) rfl⟩
abbrev b_S_nearOfCellar : ByteArray := prog_9_method_15_code
def y_S_nearOfCellar : MethodName := ⟨"ForgoneShop$Stand", "nearOfCellar", "(LForgoneShop$Plan;)I"⟩
theorem cm_S_nearOfCellar : CMs y_S_nearOfCellar b_S_nearOfCellar 4 (some (.int)) 1 := ⟨gw_in 626 (by decide +kernel) rfl, gw_in 87 (by decide +kernel) rfl, by decide +kernel, by decide +kernel⟩
theorem vm_S_nearOfCellar : VM y_S_nearOfCellar := ⟨gw_in 625 (by decide +kernel) rfl, gw_in 31 (by decide +kernel) rfl⟩
abbrev b_F_sum : ByteArray := prog_1_method_15_code
def y_F_sum : MethodName := ⟨"ForgoneShop", "sum", "(III)I"⟩
theorem cm_F_sum : CMs y_F_sum b_F_sum 6 (some (.int)) 3 := ⟨gw_in 630 (by decide +kernel) rfl, gw_in 83 (by decide +kernel) rfl, by decide +kernel, by decide +kernel⟩
theorem vm_F_sum : VM y_F_sum := ⟨gw_in 628 (by decide +kernel) rfl, gw_in 629 (by decide +kernel) rfl⟩
abbrev b_C_offer : ByteArray := prog_2_method_2_code
def y_C_offer : MethodName := ⟨"ForgoneShop$Choice", "offer", "(III)V"⟩
theorem cm_C_offer : CMs y_C_offer b_C_offer 4 (none) 3 := ⟨gw_in 635 (by decide +kernel) rfl, gw_in 90 (by decide +kernel) rfl, by decide +kernel, by decide +kernel⟩
theorem vm_C_offer : VM y_C_offer := ⟨gw_in 634 (by decide +kernel) rfl, gw_in 32 (by decide +kernel) rfl⟩
abbrev b_C_find : ByteArray := prog_2_method_3_code
def y_C_find : MethodName := ⟨"ForgoneShop$Choice", "find", "(IIII)Z"⟩
theorem cm_C_find : CMs y_C_find b_C_find 8 (some (.boolean)) 4 := ⟨gw_in 640 (by decide +kernel) rfl, gw_in 90 (by decide +kernel) rfl, by decide +kernel, by decide +kernel⟩
theorem vm_C_find : VM y_C_find := ⟨gw_in 639 (by decide +kernel) rfl, gw_in 33 (by decide +kernel) rfl⟩
abbrev b_C_addUp : ByteArray := prog_2_method_4_code
def y_C_addUp : MethodName := ⟨"ForgoneShop$Choice", "addUp", "(I)V"⟩
theorem cm_C_addUp : CMs y_C_addUp b_C_addUp 5 (none) 1 := ⟨gw_in 644 (by decide +kernel) rfl, gw_in 90 (by decide +kernel) rfl, by decide +kernel, by decide +kernel⟩
theorem vm_C_addUp : VM y_C_addUp := ⟨gw_in 643 (by decide +kernel) rfl, gw_in 34 (by decide +kernel) rfl⟩
abbrev b_F_take : ByteArray := prog_1_method_16_code
def y_F_take : MethodName := ⟨"ForgoneShop", "take", "(II)I"⟩
theorem cm_F_take : CMs y_F_take b_F_take 7 (some (.int)) 2 := ⟨gw_in 651 (by decide +kernel) rfl, gw_in 83 (by decide +kernel) rfl, by decide +kernel, by decide +kernel⟩
theorem vm_F_take : VM y_F_take := ⟨gw_in 649 (by decide +kernel) rfl, gw_in 650 (by decide +kernel) rfl⟩
abbrev b_F_when : ByteArray := prog_1_method_17_code
def y_F_when : MethodName := ⟨"ForgoneShop", "when", "(II)I"⟩
theorem cm_F_when : CMs y_F_when b_F_when 5 (some (.int)) 2 := ⟨gw_in 655 (by decide +kernel) rfl, gw_in 83 (by decide +kernel) rfl, by decide +kernel, by decide +kernel⟩
theorem vm_F_when : VM y_F_when := ⟨gw_in 653 (by decide +kernel) rfl, gw_in 654 (by decide +kernel) rfl⟩
abbrev b_F_priceBehind : ByteArray := prog_1_method_33_code
def y_F_priceBehind : MethodName := ⟨"ForgoneShop", "priceBehind", "(II)I"⟩
theorem cm_F_priceBehind : CMs y_F_priceBehind b_F_priceBehind 3 (some (.int)) 2 := ⟨gw_in 659 (by decide +kernel) rfl, gw_in 83 (by decide +kernel) rfl, by decide +kernel, by decide +kernel⟩
theorem vm_F_priceBehind : VM y_F_priceBehind := ⟨gw_in 658 (by decide +kernel) rfl, gw_in 35 (by decide +kernel) rfl⟩
abbrev b_F_pair : ByteArray := prog_1_method_18_code
def y_F_pair : MethodName := ⟨"ForgoneShop", "pair", "(I)I"⟩
theorem cm_F_pair : CMs y_F_pair b_F_pair 5 (some (.int)) 1 := ⟨gw_in 663 (by decide +kernel) rfl, gw_in 83 (by decide +kernel) rfl, by decide +kernel, by decide +kernel⟩
theorem vm_F_pair : VM y_F_pair := ⟨gw_in 661 (by decide +kernel) rfl, gw_in 662 (by decide +kernel) rfl⟩
abbrev b_F_swap : ByteArray := prog_1_method_19_code
def y_F_swap : MethodName := ⟨"ForgoneShop", "swap", "(I)I"⟩
theorem cm_F_swap : CMs y_F_swap b_F_swap 2 (some (.int)) 1 := ⟨gw_in 667 (by decide +kernel) rfl, gw_in 83 (by decide +kernel) rfl, by decide +kernel, by decide +kernel⟩
theorem vm_F_swap : VM y_F_swap := ⟨gw_in 665 (by decide +kernel) rfl, gw_in 666 (by decide +kernel) rfl⟩
abbrev b_E_arrange : ByteArray := prog_3_method_2_code
def y_E_arrange : MethodName := ⟨"ForgoneShop$Exchange", "arrange", "(LForgoneShop$Plan;LForgoneShop$Stand;)V"⟩
theorem cm_E_arrange : CMs y_E_arrange b_E_arrange 4 (none) 2 := ⟨gw_in 671 (by decide +kernel) rfl, gw_in 91 (by decide +kernel) rfl, by decide +kernel, by decide +kernel⟩
theorem vm_E_arrange : VM y_E_arrange := ⟨gw_in 670 (by decide +kernel) rfl, gw_in 36 (by decide +kernel) rfl⟩
abbrev b_E_collect : ByteArray := prog_3_method_3_code
def y_E_collect : MethodName := ⟨"ForgoneShop$Exchange", "collect", "(LForgoneShop$Plan;LForgoneShop$Stand;)V"⟩
theorem cm_E_collect : CMs y_E_collect b_E_collect 5 (none) 2 := ⟨gw_in 675 (by decide +kernel) rfl, gw_in 91 (by decide +kernel) rfl, by decide +kernel, by decide +kernel⟩
theorem vm_E_collect : VM y_E_collect := ⟨gw_in 674 (by decide +kernel) rfl, gw_in 37 (by decide +kernel) rfl⟩
abbrev b_E_leastFrom : ByteArray := prog_3_method_8_code
def y_E_leastFrom : MethodName := ⟨"ForgoneShop$Exchange", "leastFrom", "(LForgoneShop$Plan;I)I"⟩
theorem cm_E_leastFrom : CMs y_E_leastFrom b_E_leastFrom 7 (some (.int)) 2 := ⟨gw_in 681 (by decide +kernel) rfl, gw_in 91 (by decide +kernel) rfl, by decide +kernel, by decide +kernel⟩
theorem vm_E_leastFrom : VM y_E_leastFrom := ⟨gw_in 680 (by decide +kernel) rfl, gw_in 38 (by decide +kernel) rfl⟩
abbrev b_E_nextThing : ByteArray := prog_3_method_5_code
def y_E_nextThing : MethodName := ⟨"ForgoneShop$Exchange", "nextThing", "(I)I"⟩
theorem cm_E_nextThing : CMs y_E_nextThing b_E_nextThing 4 (some (.int)) 1 := ⟨gw_in 685 (by decide +kernel) rfl, gw_in 91 (by decide +kernel) rfl, by decide +kernel, by decide +kernel⟩
theorem vm_E_nextThing : VM y_E_nextThing := ⟨gw_in 684 (by decide +kernel) rfl, gw_in 39 (by decide +kernel) rfl⟩
abbrev b_E_leftFor : ByteArray := prog_3_method_4_code
def y_E_leftFor : MethodName := ⟨"ForgoneShop$Exchange", "leftFor", "(II)I"⟩
theorem cm_E_leftFor : CMs y_E_leftFor b_E_leftFor 5 (some (.int)) 2 := ⟨gw_in 689 (by decide +kernel) rfl, gw_in 91 (by decide +kernel) rfl, by decide +kernel, by decide +kernel⟩
theorem vm_E_leftFor : VM y_E_leftFor := ⟨gw_in 688 (by decide +kernel) rfl, gw_in 40 (by decide +kernel) rfl⟩
abbrev b_E_rueFrom : ByteArray := prog_3_method_7_code
def y_E_rueFrom : MethodName := ⟨"ForgoneShop$Exchange", "rueFrom", "(LForgoneShop$Plan;III)I"⟩
theorem cm_E_rueFrom : CMs y_E_rueFrom b_E_rueFrom 5 (some (.int)) 4 := ⟨gw_in 693 (by decide +kernel) rfl, gw_in 91 (by decide +kernel) rfl, by decide +kernel, by decide +kernel⟩
theorem vm_E_rueFrom : VM y_E_rueFrom := ⟨gw_in 692 (by decide +kernel) rfl, gw_in 41 (by decide +kernel) rfl⟩
abbrev b_E_rueBy : ByteArray := prog_3_method_6_code
def y_E_rueBy : MethodName := ⟨"ForgoneShop$Exchange", "rueBy", "(LForgoneShop$Plan;II)I"⟩
theorem cm_E_rueBy : CMs y_E_rueBy b_E_rueBy 5 (some (.int)) 3 := ⟨gw_in 697 (by decide +kernel) rfl, gw_in 91 (by decide +kernel) rfl, by decide +kernel, by decide +kernel⟩
theorem vm_E_rueBy : VM y_E_rueBy := ⟨gw_in 696 (by decide +kernel) rfl, gw_in 42 (by decide +kernel) rfl⟩
abbrev b_E_giveOut : ByteArray := prog_3_method_9_code
def y_E_giveOut : MethodName := ⟨"ForgoneShop$Exchange", "giveOut", "(LForgoneShop$Plan;)V"⟩
theorem cm_E_giveOut : CMs y_E_giveOut b_E_giveOut 6 (none) 1 := ⟨gw_in 702 (by decide +kernel) rfl, gw_in 91 (by decide +kernel) rfl, by decide +kernel, by decide +kernel⟩
theorem vm_E_giveOut : VM y_E_giveOut := ⟨gw_in 701 (by decide +kernel) rfl, gw_in 43 (by decide +kernel) rfl⟩
abbrev b_E_firstBest : ByteArray := prog_3_method_10_code
def y_E_firstBest : MethodName := ⟨"ForgoneShop$Exchange", "firstBest", "(LForgoneShop$Plan;II)I"⟩
theorem cm_E_firstBest : CMs y_E_firstBest b_E_firstBest 5 (some (.int)) 3 := ⟨gw_in 706 (by decide +kernel) rfl, gw_in 91 (by decide +kernel) rfl, by decide +kernel, by decide +kernel⟩
theorem vm_E_firstBest : VM y_E_firstBest := ⟨gw_in 705 (by decide +kernel) rfl, gw_in 44 (by decide +kernel) rfl⟩
abbrev b_F_see : ByteArray := prog_1_method_20_code
def y_F_see : MethodName := ⟨"ForgoneShop", "see", "(III)I"⟩
theorem cm_F_see : CMs y_F_see b_F_see 4 (some (.int)) 3 := ⟨gw_in 710 (by decide +kernel) rfl, gw_in 83 (by decide +kernel) rfl, by decide +kernel, by decide +kernel⟩
theorem vm_F_see : VM y_F_see := ⟨gw_in 708 (by decide +kernel) rfl, gw_in 709 (by decide +kernel) rfl⟩
abbrev b_K_add : ByteArray := prog_5_method_2_code
def y_K_add : MethodName := ⟨"ForgoneShop$Looks", "add", "(III)Z"⟩
theorem cm_K_add : CMs y_K_add b_K_add 4 (some (.boolean)) 3 := ⟨gw_in 714 (by decide +kernel) rfl, gw_in 89 (by decide +kernel) rfl, by decide +kernel, by decide +kernel⟩
theorem vm_K_add : VM y_K_add := ⟨gw_in 713 (by decide +kernel) rfl, gw_in 45 (by decide +kernel) rfl⟩
abbrev b_F_forget : ByteArray := prog_1_method_21_code
def y_F_forget : MethodName := ⟨"ForgoneShop", "forget", "()I"⟩
theorem cm_F_forget : CMs y_F_forget b_F_forget 2 (some (.int)) 0 := ⟨gw_in 719 (by decide +kernel) rfl, gw_in 83 (by decide +kernel) rfl, by decide +kernel, by decide +kernel⟩
theorem vm_F_forget : VM y_F_forget := ⟨gw_in 717 (by decide +kernel) rfl, gw_in 718 (by decide +kernel) rfl⟩
abbrev b_F_kinds : ByteArray := prog_1_method_22_code
def y_F_kinds : MethodName := ⟨"ForgoneShop", "kinds", "(I)I"⟩
theorem cm_F_kinds : CMs y_F_kinds b_F_kinds 4 (some (.int)) 1 := ⟨gw_in 723 (by decide +kernel) rfl, gw_in 83 (by decide +kernel) rfl, by decide +kernel, by decide +kernel⟩
theorem vm_F_kinds : VM y_F_kinds := ⟨gw_in 721 (by decide +kernel) rfl, gw_in 722 (by decide +kernel) rfl⟩
abbrev b_F_fitsLooks : ByteArray := prog_1_method_35_code
def y_F_fitsLooks : MethodName := ⟨"ForgoneShop", "fitsLooks", "(II)Z"⟩
theorem cm_F_fitsLooks : CMs y_F_fitsLooks b_F_fitsLooks 4 (some (.boolean)) 2 := ⟨gw_in 727 (by decide +kernel) rfl, gw_in 83 (by decide +kernel) rfl, by decide +kernel, by decide +kernel⟩
theorem vm_F_fitsLooks : VM y_F_fitsLooks := ⟨gw_in 726 (by decide +kernel) rfl, gw_in 46 (by decide +kernel) rfl⟩
abbrev b_F_sure : ByteArray := prog_1_method_23_code
def y_F_sure : MethodName := ⟨"ForgoneShop", "sure", "(IIIII)I"⟩
theorem cm_F_sure : CMs y_F_sure b_F_sure 10 (some (.int)) 5 := ⟨gw_in 731 (by decide +kernel) rfl, gw_in 83 (by decide +kernel) rfl, by decide +kernel, by decide +kernel⟩
theorem vm_F_sure : VM y_F_sure := ⟨gw_in 729 (by decide +kernel) rfl, gw_in 730 (by decide +kernel) rfl⟩
abbrev b_F_power : ByteArray := prog_1_method_42_code
def y_F_power : MethodName := ⟨"ForgoneShop", "power", "(II)J"⟩
theorem cm_F_power : CMs y_F_power b_F_power 5 (some (.long)) 2 := ⟨gw_in 734 (by decide +kernel) rfl, gw_in 83 (by decide +kernel) rfl, by decide +kernel, by decide +kernel⟩
theorem sm_F_power : SM y_F_power := gw_in 733 (by decide +kernel) rfl
abbrev b_F_lowestPart : ByteArray := prog_1_method_44_code
def y_F_lowestPart : MethodName := ⟨"ForgoneShop", "lowestPart", "(JJI)I"⟩
theorem cm_F_lowestPart : CMs y_F_lowestPart b_F_lowestPart 7 (some (.int)) 3 := ⟨gw_in 737 (by decide +kernel) rfl, gw_in 83 (by decide +kernel) rfl, by decide +kernel, by decide +kernel⟩
theorem sm_F_lowestPart : SM y_F_lowestPart := gw_in 736 (by decide +kernel) rfl
abbrev b_F_commonDivisor : ByteArray := prog_1_method_43_code
def y_F_commonDivisor : MethodName := ⟨"ForgoneShop", "commonDivisor", "(JJ)J"⟩
theorem cm_F_commonDivisor : CMs y_F_commonDivisor b_F_commonDivisor 11 (some (.long)) 2 := ⟨gw_in 740 (by decide +kernel) rfl, gw_in 83 (by decide +kernel) rfl, by decide +kernel, by decide +kernel⟩
theorem sm_F_commonDivisor : SM y_F_commonDivisor := gw_in 739 (by decide +kernel) rfl
abbrev b_F_fine : ByteArray := prog_1_method_24_code
def y_F_fine : MethodName := ⟨"ForgoneShop", "fine", "(II)I"⟩
theorem cm_F_fine : CMs y_F_fine b_F_fine 9 (some (.int)) 2 := ⟨gw_in 744 (by decide +kernel) rfl, gw_in 83 (by decide +kernel) rfl, by decide +kernel, by decide +kernel⟩
theorem vm_F_fine : VM y_F_fine := ⟨gw_in 742 (by decide +kernel) rfl, gw_in 743 (by decide +kernel) rfl⟩
abbrev b_F_whims : ByteArray := prog_1_method_25_code
def y_F_whims : MethodName := ⟨"ForgoneShop", "whims", "(IIIII)I"⟩
theorem cm_F_whims : CMs y_F_whims b_F_whims 11 (some (.int)) 5 := ⟨gw_in 749 (by decide +kernel) rfl, gw_in 83 (by decide +kernel) rfl, by decide +kernel, by decide +kernel⟩
theorem vm_F_whims : VM y_F_whims := ⟨gw_in 747 (by decide +kernel) rfl, gw_in 748 (by decide +kernel) rfl⟩
abbrev b_F_year : ByteArray := prog_1_method_26_code
def y_F_year : MethodName := ⟨"ForgoneShop", "year", "(III)I"⟩
theorem cm_F_year : CMs y_F_year b_F_year 5 (some (.int)) 3 := ⟨gw_in 753 (by decide +kernel) rfl, gw_in 83 (by decide +kernel) rfl, by decide +kernel, by decide +kernel⟩
theorem vm_F_year : VM y_F_year := ⟨gw_in 751 (by decide +kernel) rfl, gw_in 752 (by decide +kernel) rfl⟩
abbrev b_F_actByDraw : ByteArray := prog_1_method_36_code
def y_F_actByDraw : MethodName := ⟨"ForgoneShop", "actByDraw", "(II)V"⟩
theorem cm_F_actByDraw : CMs y_F_actByDraw b_F_actByDraw 8 (none) 2 := ⟨gw_in 757 (by decide +kernel) rfl, gw_in 83 (by decide +kernel) rfl, by decide +kernel, by decide +kernel⟩
theorem vm_F_actByDraw : VM y_F_actByDraw := ⟨gw_in 756 (by decide +kernel) rfl, gw_in 47 (by decide +kernel) rfl⟩
abbrev b_S_rueOfAll : ByteArray := prog_9_method_16_code
def y_S_rueOfAll : MethodName := ⟨"ForgoneShop$Stand", "rueOfAll", "(LForgoneShop$Plan;)I"⟩
theorem cm_S_rueOfAll : CMs y_S_rueOfAll b_S_rueOfAll 4 (some (.int)) 1 := ⟨gw_in 764 (by decide +kernel) rfl, gw_in 87 (by decide +kernel) rfl, by decide +kernel, by decide +kernel⟩
theorem vm_S_rueOfAll : VM y_S_rueOfAll := ⟨gw_in 763 (by decide +kernel) rfl, gw_in 48 (by decide +kernel) rfl⟩
abbrev b_F_keep : ByteArray := prog_1_method_27_code
def y_F_keep : MethodName := ⟨"ForgoneShop", "keep", "()I"⟩
theorem cm_F_keep : CMs y_F_keep b_F_keep 1 (some (.int)) 0 := ⟨gw_in 768 (by decide +kernel) rfl, gw_in 83 (by decide +kernel) rfl, by decide +kernel, by decide +kernel⟩
theorem vm_F_keep : VM y_F_keep := ⟨gw_in 766 (by decide +kernel) rfl, gw_in 767 (by decide +kernel) rfl⟩
abbrev b_F_back : ByteArray := prog_1_method_28_code
def y_F_back : MethodName := ⟨"ForgoneShop", "back", "()I"⟩
theorem cm_F_back : CMs y_F_back b_F_back 1 (some (.int)) 0 := ⟨gw_in 772 (by decide +kernel) rfl, gw_in 83 (by decide +kernel) rfl, by decide +kernel, by decide +kernel⟩
theorem vm_F_back : VM y_F_back := ⟨gw_in 770 (by decide +kernel) rfl, gw_in 771 (by decide +kernel) rfl⟩
abbrev b_F_count : ByteArray := prog_1_method_29_code
def y_F_count : MethodName := ⟨"ForgoneShop", "count", "(I)I"⟩
theorem cm_F_count : CMs y_F_count b_F_count 2 (some (.int)) 1 := ⟨gw_in 776 (by decide +kernel) rfl, gw_in 83 (by decide +kernel) rfl, by decide +kernel, by decide +kernel⟩
theorem vm_F_count : VM y_F_count := ⟨gw_in 774 (by decide +kernel) rfl, gw_in 775 (by decide +kernel) rfl⟩
abbrev b_S_howMany : ByteArray := prog_9_method_14_code
def y_S_howMany : MethodName := ⟨"ForgoneShop$Stand", "howMany", "(LForgoneShop$Plan;I)I"⟩
theorem cm_S_howMany : CMs y_S_howMany b_S_howMany 5 (some (.int)) 2 := ⟨gw_in 780 (by decide +kernel) rfl, gw_in 87 (by decide +kernel) rfl, by decide +kernel, by decide +kernel⟩
theorem vm_S_howMany : VM y_S_howMany := ⟨gw_in 779 (by decide +kernel) rfl, gw_in 49 (by decide +kernel) rfl⟩
abbrev b_Z_init : ByteArray := prog_11_method_4_code
def y_Z_init : MethodName := ⟨"ForgoneShopModel", "<init>", "()V"⟩
theorem cm_Z_init : CMs y_Z_init b_Z_init 1 (none) 0 := ⟨gw_in 785 (by decide +kernel) rfl, gw_in 96 (by decide +kernel) rfl, by decide +kernel, by decide +kernel⟩
abbrev b_Z_sets : ByteArray := prog_11_method_5_code
def y_Z_sets : MethodName := ⟨"ForgoneShopModel", "sets", "(IIIII)V"⟩
theorem cm_Z_sets : CMs y_Z_sets b_Z_sets 6 (none) 5 := ⟨gw_in 790 (by decide +kernel) rfl, gw_in 96 (by decide +kernel) rfl, by decide +kernel, by decide +kernel⟩
theorem vm_Z_sets : VM y_Z_sets := ⟨gw_in 789 (by decide +kernel) rfl, gw_in 50 (by decide +kernel) rfl⟩
abbrev b_Z_write : ByteArray := prog_11_method_8_code
def y_Z_write : MethodName := ⟨"ForgoneShopModel", "write", "(I)I"⟩
theorem cm_Z_write : CMs y_Z_write b_Z_write 2 (some (.int)) 1 := ⟨gw_in 912 (by decide +kernel) rfl, gw_in 96 (by decide +kernel) rfl, by decide +kernel, by decide +kernel⟩
theorem vm_Z_write : VM y_Z_write := ⟨gw_in 910 (by decide +kernel) rfl, gw_in 911 (by decide +kernel) rfl⟩
abbrev b_Z_in : ByteArray := prog_11_method_1_code
def y_Z_in : MethodName := ⟨"ForgoneShopModel", "in", "(III)Z"⟩
theorem cm_Z_in : CMs y_Z_in b_Z_in 3 (some (.boolean)) 3 := ⟨gw_in 915 (by decide +kernel) rfl, gw_in 96 (by decide +kernel) rfl, by decide +kernel, by decide +kernel⟩
theorem sm_Z_in : SM y_Z_in := gw_in 914 (by decide +kernel) rfl
abbrev b_Z_wipe : ByteArray := prog_11_method_9_code
def y_Z_wipe : MethodName := ⟨"ForgoneShopModel", "wipe", "()I"⟩
theorem cm_Z_wipe : CMs y_Z_wipe b_Z_wipe 2 (some (.int)) 0 := ⟨gw_in 919 (by decide +kernel) rfl, gw_in 96 (by decide +kernel) rfl, by decide +kernel, by decide +kernel⟩
theorem vm_Z_wipe : VM y_Z_wipe := ⟨gw_in 917 (by decide +kernel) rfl, gw_in 918 (by decide +kernel) rfl⟩
abbrev b_Z_fault : ByteArray := prog_11_method_18_code
def y_Z_fault : MethodName := ⟨"ForgoneShopModel", "fault", "()I"⟩
theorem cm_Z_fault : CMs y_Z_fault b_Z_fault 2 (some (.int)) 0 := ⟨gw_in 923 (by decide +kernel) rfl, gw_in 96 (by decide +kernel) rfl, by decide +kernel, by decide +kernel⟩
theorem vm_Z_fault : VM y_Z_fault := ⟨gw_in 921 (by decide +kernel) rfl, gw_in 922 (by decide +kernel) rfl⟩
abbrev b_Z_readsItem : ByteArray := prog_11_method_17_code
def y_Z_readsItem : MethodName := ⟨"ForgoneShopModel", "readsItem", "()Z"⟩
theorem cm_Z_readsItem : CMs y_Z_readsItem b_Z_readsItem 2 (some (.boolean)) 0 := ⟨gw_in 927 (by decide +kernel) rfl, gw_in 96 (by decide +kernel) rfl, by decide +kernel, by decide +kernel⟩
theorem vm_Z_readsItem : VM y_Z_readsItem := ⟨gw_in 926 (by decide +kernel) rfl, gw_in 51 (by decide +kernel) rfl⟩
abbrev b_Z_here : ByteArray := prog_11_method_10_code
def y_Z_here : MethodName := ⟨"ForgoneShopModel", "here", "()I"⟩
theorem cm_Z_here : CMs y_Z_here b_Z_here 1 (some (.int)) 0 := ⟨gw_in 931 (by decide +kernel) rfl, gw_in 96 (by decide +kernel) rfl, by decide +kernel, by decide +kernel⟩
theorem vm_Z_here : VM y_Z_here := ⟨gw_in 930 (by decide +kernel) rfl, gw_in 52 (by decide +kernel) rfl⟩
abbrev b_Z_readsPerson : ByteArray := prog_11_method_13_code
def y_Z_readsPerson : MethodName := ⟨"ForgoneShopModel", "readsPerson", "()Z"⟩
theorem cm_Z_readsPerson : CMs y_Z_readsPerson b_Z_readsPerson 1 (some (.boolean)) 0 := ⟨gw_in 935 (by decide +kernel) rfl, gw_in 96 (by decide +kernel) rfl, by decide +kernel, by decide +kernel⟩
theorem vm_Z_readsPerson : VM y_Z_readsPerson := ⟨gw_in 934 (by decide +kernel) rfl, gw_in 53 (by decide +kernel) rfl⟩
abbrev b_Z_number : ByteArray := prog_11_method_12_code
def y_Z_number : MethodName := ⟨"ForgoneShopModel", "number", "(III)Z"⟩
theorem cm_Z_number : CMs y_Z_number b_Z_number 5 (some (.boolean)) 3 := ⟨gw_in 939 (by decide +kernel) rfl, gw_in 96 (by decide +kernel) rfl, by decide +kernel, by decide +kernel⟩
theorem vm_Z_number : VM y_Z_number := ⟨gw_in 938 (by decide +kernel) rfl, gw_in 54 (by decide +kernel) rfl⟩
abbrev b_Z_isFigure : ByteArray := prog_11_method_11_code
def y_Z_isFigure : MethodName := ⟨"ForgoneShopModel", "isFigure", "()Z"⟩
theorem cm_Z_isFigure : CMs y_Z_isFigure b_Z_isFigure 1 (some (.boolean)) 0 := ⟨gw_in 943 (by decide +kernel) rfl, gw_in 96 (by decide +kernel) rfl, by decide +kernel, by decide +kernel⟩
theorem vm_Z_isFigure : VM y_Z_isFigure := ⟨gw_in 942 (by decide +kernel) rfl, gw_in 55 (by decide +kernel) rfl⟩
abbrev b_Z_readsThing : ByteArray := prog_11_method_14_code
def y_Z_readsThing : MethodName := ⟨"ForgoneShopModel", "readsThing", "()Z"⟩
theorem cm_Z_readsThing : CMs y_Z_readsThing b_Z_readsThing 2 (some (.boolean)) 0 := ⟨gw_in 947 (by decide +kernel) rfl, gw_in 96 (by decide +kernel) rfl, by decide +kernel, by decide +kernel⟩
theorem vm_Z_readsThing : VM y_Z_readsThing := ⟨gw_in 946 (by decide +kernel) rfl, gw_in 56 (by decide +kernel) rfl⟩
abbrev b_Z_readsRate : ByteArray := prog_11_method_15_code
def y_Z_readsRate : MethodName := ⟨"ForgoneShopModel", "readsRate", "()Z"⟩
theorem cm_Z_readsRate : CMs y_Z_readsRate b_Z_readsRate 1 (some (.boolean)) 0 := ⟨gw_in 951 (by decide +kernel) rfl, gw_in 96 (by decide +kernel) rfl, by decide +kernel, by decide +kernel⟩
theorem vm_Z_readsRate : VM y_Z_readsRate := ⟨gw_in 950 (by decide +kernel) rfl, gw_in 57 (by decide +kernel) rfl⟩
abbrev b_Z_readsShop : ByteArray := prog_11_method_16_code
def y_Z_readsShop : MethodName := ⟨"ForgoneShopModel", "readsShop", "()Z"⟩
theorem cm_Z_readsShop : CMs y_Z_readsShop b_Z_readsShop 2 (some (.boolean)) 0 := ⟨gw_in 955 (by decide +kernel) rfl, gw_in 96 (by decide +kernel) rfl, by decide +kernel, by decide +kernel⟩
theorem vm_Z_readsShop : VM y_Z_readsShop := ⟨gw_in 954 (by decide +kernel) rfl, gw_in 58 (by decide +kernel) rfl⟩
abbrev b_Z_lay : ByteArray := prog_11_method_19_code
def y_Z_lay : MethodName := ⟨"ForgoneShopModel", "lay", "()I"⟩
theorem cm_Z_lay : CMs y_Z_lay b_Z_lay 2 (some (.int)) 0 := ⟨gw_in 959 (by decide +kernel) rfl, gw_in 96 (by decide +kernel) rfl, by decide +kernel, by decide +kernel⟩
theorem vm_Z_lay : VM y_Z_lay := ⟨gw_in 957 (by decide +kernel) rfl, gw_in 958 (by decide +kernel) rfl⟩
abbrev b_Z_person : ByteArray := prog_11_method_28_code
def y_Z_person : MethodName := ⟨"ForgoneShopModel", "person", "(II)I"⟩
theorem cm_Z_person : CMs y_Z_person b_Z_person 3 (some (.int)) 2 := ⟨gw_in 964 (by decide +kernel) rfl, gw_in 96 (by decide +kernel) rfl, by decide +kernel, by decide +kernel⟩
theorem vm_Z_person : VM y_Z_person := ⟨gw_in 962 (by decide +kernel) rfl, gw_in 963 (by decide +kernel) rfl⟩
abbrev b_Z_isPerson : ByteArray := prog_11_method_6_code
def y_Z_isPerson : MethodName := ⟨"ForgoneShopModel", "isPerson", "(I)Z"⟩
theorem cm_Z_isPerson : CMs y_Z_isPerson b_Z_isPerson 2 (some (.boolean)) 1 := ⟨gw_in 968 (by decide +kernel) rfl, gw_in 96 (by decide +kernel) rfl, by decide +kernel, by decide +kernel⟩
theorem vm_Z_isPerson : VM y_Z_isPerson := ⟨gw_in 967 (by decide +kernel) rfl, gw_in 59 (by decide +kernel) rfl⟩
abbrev b_Z_thoseWith : ByteArray := prog_11_method_26_code
def y_Z_thoseWith : MethodName := ⟨"ForgoneShopModel", "thoseWith", "(I)I"⟩
theorem cm_Z_thoseWith : CMs y_Z_thoseWith b_Z_thoseWith 4 (some (.int)) 1 := ⟨gw_in 972 (by decide +kernel) rfl, gw_in 96 (by decide +kernel) rfl, by decide +kernel, by decide +kernel⟩
theorem vm_Z_thoseWith : VM y_Z_thoseWith := ⟨gw_in 971 (by decide +kernel) rfl, gw_in 60 (by decide +kernel) rfl⟩
abbrev b_Z_thing : ByteArray := prog_11_method_29_code
def y_Z_thing : MethodName := ⟨"ForgoneShopModel", "thing", "(II)I"⟩
theorem cm_Z_thing : CMs y_Z_thing b_Z_thing 3 (some (.int)) 2 := ⟨gw_in 976 (by decide +kernel) rfl, gw_in 96 (by decide +kernel) rfl, by decide +kernel, by decide +kernel⟩
theorem vm_Z_thing : VM y_Z_thing := ⟨gw_in 974 (by decide +kernel) rfl, gw_in 975 (by decide +kernel) rfl⟩
abbrev b_Z_isThing : ByteArray := prog_11_method_7_code
def y_Z_isThing : MethodName := ⟨"ForgoneShopModel", "isThing", "(I)Z"⟩
theorem cm_Z_isThing : CMs y_Z_isThing b_Z_isThing 2 (some (.boolean)) 1 := ⟨gw_in 980 (by decide +kernel) rfl, gw_in 96 (by decide +kernel) rfl, by decide +kernel, by decide +kernel⟩
theorem vm_Z_isThing : VM y_Z_isThing := ⟨gw_in 979 (by decide +kernel) rfl, gw_in 61 (by decide +kernel) rfl⟩
abbrev b_Z_price : ByteArray := prog_11_method_21_code
def y_Z_price : MethodName := ⟨"ForgoneShopModel", "price", "(I)I"⟩
theorem cm_Z_price : CMs y_Z_price b_Z_price 2 (some (.int)) 1 := ⟨gw_in 984 (by decide +kernel) rfl, gw_in 96 (by decide +kernel) rfl, by decide +kernel, by decide +kernel⟩
theorem vm_Z_price : VM y_Z_price := ⟨gw_in 983 (by decide +kernel) rfl, gw_in 62 (by decide +kernel) rfl⟩
abbrev b_Z_rateOf : ByteArray := prog_11_method_20_code
def y_Z_rateOf : MethodName := ⟨"ForgoneShopModel", "rateOf", "(I)I"⟩
theorem cm_Z_rateOf : CMs y_Z_rateOf b_Z_rateOf 2 (some (.int)) 1 := ⟨gw_in 988 (by decide +kernel) rfl, gw_in 96 (by decide +kernel) rfl, by decide +kernel, by decide +kernel⟩
theorem vm_Z_rateOf : VM y_Z_rateOf := ⟨gw_in 987 (by decide +kernel) rfl, gw_in 63 (by decide +kernel) rfl⟩
abbrev b_Z_pays : ByteArray := prog_11_method_30_code
def y_Z_pays : MethodName := ⟨"ForgoneShopModel", "pays", "(I)I"⟩
theorem cm_Z_pays : CMs y_Z_pays b_Z_pays 2 (some (.int)) 1 := ⟨gw_in 992 (by decide +kernel) rfl, gw_in 96 (by decide +kernel) rfl, by decide +kernel, by decide +kernel⟩
theorem vm_Z_pays : VM y_Z_pays := ⟨gw_in 990 (by decide +kernel) rfl, gw_in 991 (by decide +kernel) rfl⟩
abbrev b_Z_sell : ByteArray := prog_11_method_38_code
def y_Z_sell : MethodName := ⟨"ForgoneShopModel", "sell", "(I)I"⟩
theorem cm_Z_sell : CMs y_Z_sell b_Z_sell 2 (some (.int)) 1 := ⟨gw_in 996 (by decide +kernel) rfl, gw_in 96 (by decide +kernel) rfl, by decide +kernel, by decide +kernel⟩
theorem vm_Z_sell : VM y_Z_sell := ⟨gw_in 994 (by decide +kernel) rfl, gw_in 995 (by decide +kernel) rfl⟩
abbrev b_Z_maySell : ByteArray := prog_11_method_34_code
def y_Z_maySell : MethodName := ⟨"ForgoneShopModel", "maySell", "(I)Z"⟩
theorem cm_Z_maySell : CMs y_Z_maySell b_Z_maySell 2 (some (.boolean)) 1 := ⟨gw_in 1000 (by decide +kernel) rfl, gw_in 96 (by decide +kernel) rfl, by decide +kernel, by decide +kernel⟩
theorem vm_Z_maySell : VM y_Z_maySell := ⟨gw_in 999 (by decide +kernel) rfl, gw_in 64 (by decide +kernel) rfl⟩
abbrev b_Z_notes : ByteArray := prog_11_method_33_code
def y_Z_notes : MethodName := ⟨"ForgoneShopModel", "notes", "()V"⟩
theorem cm_Z_notes : CMs y_Z_notes b_Z_notes 2 (none) 0 := ⟨gw_in 1004 (by decide +kernel) rfl, gw_in 96 (by decide +kernel) rfl, by decide +kernel, by decide +kernel⟩
theorem vm_Z_notes : VM y_Z_notes := ⟨gw_in 1003 (by decide +kernel) rfl, gw_in 65 (by decide +kernel) rfl⟩
abbrev b_Z_lays : ByteArray := prog_11_method_31_code
def y_Z_lays : MethodName := ⟨"ForgoneShopModel", "lays", "([II)V"⟩
theorem cm_Z_lays : CMs y_Z_lays b_Z_lays 4 (none) 2 := ⟨gw_in 1008 (by decide +kernel) rfl, gw_in 96 (by decide +kernel) rfl, by decide +kernel, by decide +kernel⟩
theorem vm_Z_lays : VM y_Z_lays := ⟨gw_in 1007 (by decide +kernel) rfl, gw_in 66 (by decide +kernel) rfl⟩
abbrev b_Z_sells : ByteArray := prog_11_method_36_code
def y_Z_sells : MethodName := ⟨"ForgoneShopModel", "sells", "(I)V"⟩
theorem cm_Z_sells : CMs y_Z_sells b_Z_sells 3 (none) 1 := ⟨gw_in 1012 (by decide +kernel) rfl, gw_in 96 (by decide +kernel) rfl, by decide +kernel, by decide +kernel⟩
theorem vm_Z_sells : VM y_Z_sells := ⟨gw_in 1011 (by decide +kernel) rfl, gw_in 67 (by decide +kernel) rfl⟩
abbrev b_Z_buyBack : ByteArray := prog_11_method_39_code
def y_Z_buyBack : MethodName := ⟨"ForgoneShopModel", "buyBack", "(I)I"⟩
theorem cm_Z_buyBack : CMs y_Z_buyBack b_Z_buyBack 2 (some (.int)) 1 := ⟨gw_in 1016 (by decide +kernel) rfl, gw_in 96 (by decide +kernel) rfl, by decide +kernel, by decide +kernel⟩
theorem vm_Z_buyBack : VM y_Z_buyBack := ⟨gw_in 1014 (by decide +kernel) rfl, gw_in 1015 (by decide +kernel) rfl⟩
abbrev b_Z_mayBuy : ByteArray := prog_11_method_35_code
def y_Z_mayBuy : MethodName := ⟨"ForgoneShopModel", "mayBuy", "(I)Z"⟩
theorem cm_Z_mayBuy : CMs y_Z_mayBuy b_Z_mayBuy 2 (some (.boolean)) 1 := ⟨gw_in 1020 (by decide +kernel) rfl, gw_in 96 (by decide +kernel) rfl, by decide +kernel, by decide +kernel⟩
theorem vm_Z_mayBuy : VM y_Z_mayBuy := ⟨gw_in 1019 (by decide +kernel) rfl, gw_in 68 (by decide +kernel) rfl⟩
abbrev b_Z_buys : ByteArray := prog_11_method_37_code
def y_Z_buys : MethodName := ⟨"ForgoneShopModel", "buys", "(I)V"⟩
theorem cm_Z_buys : CMs y_Z_buys b_Z_buys 3 (none) 1 := ⟨gw_in 1024 (by decide +kernel) rfl, gw_in 96 (by decide +kernel) rfl, by decide +kernel, by decide +kernel⟩
theorem vm_Z_buys : VM y_Z_buys := ⟨gw_in 1023 (by decide +kernel) rfl, gw_in 69 (by decide +kernel) rfl⟩
abbrev b_Z_pass : ByteArray := prog_11_method_40_code
def y_Z_pass : MethodName := ⟨"ForgoneShopModel", "pass", "(I)I"⟩
theorem cm_Z_pass : CMs y_Z_pass b_Z_pass 2 (some (.int)) 1 := ⟨gw_in 1028 (by decide +kernel) rfl, gw_in 96 (by decide +kernel) rfl, by decide +kernel, by decide +kernel⟩
theorem vm_Z_pass : VM y_Z_pass := ⟨gw_in 1026 (by decide +kernel) rfl, gw_in 1027 (by decide +kernel) rfl⟩
abbrev b_Z_goesOn : ByteArray := prog_11_method_24_code
def y_Z_goesOn : MethodName := ⟨"ForgoneShopModel", "goesOn", "(I)V"⟩
theorem cm_Z_goesOn : CMs y_Z_goesOn b_Z_goesOn 3 (none) 1 := ⟨gw_in 1032 (by decide +kernel) rfl, gw_in 96 (by decide +kernel) rfl, by decide +kernel, by decide +kernel⟩
theorem vm_Z_goesOn : VM y_Z_goesOn := ⟨gw_in 1031 (by decide +kernel) rfl, gw_in 70 (by decide +kernel) rfl⟩
abbrev b_Z_passes : ByteArray := prog_11_method_23_code
def y_Z_passes : MethodName := ⟨"ForgoneShopModel", "passes", "()V"⟩
theorem cm_Z_passes : CMs y_Z_passes b_Z_passes 2 (none) 0 := ⟨gw_in 1036 (by decide +kernel) rfl, gw_in 96 (by decide +kernel) rfl, by decide +kernel, by decide +kernel⟩
theorem vm_Z_passes : VM y_Z_passes := ⟨gw_in 1035 (by decide +kernel) rfl, gw_in 71 (by decide +kernel) rfl⟩
abbrev b_Z_nearThen : ByteArray := prog_11_method_22_code
def y_Z_nearThen : MethodName := ⟨"ForgoneShopModel", "nearThen", "(III)I"⟩
theorem cm_Z_nearThen : CMs y_Z_nearThen b_Z_nearThen 4 (some (.int)) 3 := ⟨gw_in 1039 (by decide +kernel) rfl, gw_in 96 (by decide +kernel) rfl, by decide +kernel, by decide +kernel⟩
theorem sm_Z_nearThen : SM y_Z_nearThen := gw_in 1038 (by decide +kernel) rfl
abbrev b_Z_undo : ByteArray := prog_11_method_41_code
def y_Z_undo : MethodName := ⟨"ForgoneShopModel", "undo", "()I"⟩
theorem cm_Z_undo : CMs y_Z_undo b_Z_undo 1 (some (.int)) 0 := ⟨gw_in 1043 (by decide +kernel) rfl, gw_in 96 (by decide +kernel) rfl, by decide +kernel, by decide +kernel⟩
theorem vm_Z_undo : VM y_Z_undo := ⟨gw_in 1041 (by decide +kernel) rfl, gw_in 1042 (by decide +kernel) rfl⟩
abbrev b_Z_takes : ByteArray := prog_11_method_32_code
def y_Z_takes : MethodName := ⟨"ForgoneShopModel", "takes", "([II)V"⟩
theorem cm_Z_takes : CMs y_Z_takes b_Z_takes 4 (none) 2 := ⟨gw_in 1047 (by decide +kernel) rfl, gw_in 96 (by decide +kernel) rfl, by decide +kernel, by decide +kernel⟩
theorem vm_Z_takes : VM y_Z_takes := ⟨gw_in 1046 (by decide +kernel) rfl, gw_in 72 (by decide +kernel) rfl⟩
abbrev b_Z_behind : ByteArray := prog_11_method_44_code
def y_Z_behind : MethodName := ⟨"ForgoneShopModel", "behind", "(II)I"⟩
theorem cm_Z_behind : CMs y_Z_behind b_Z_behind 4 (some (.int)) 2 := ⟨gw_in 1051 (by decide +kernel) rfl, gw_in 96 (by decide +kernel) rfl, by decide +kernel, by decide +kernel⟩
theorem vm_Z_behind : VM y_Z_behind := ⟨gw_in 1049 (by decide +kernel) rfl, gw_in 1050 (by decide +kernel) rfl⟩
abbrev b_Z_begin : ByteArray := prog_11_method_42_code
def y_Z_begin : MethodName := ⟨"ForgoneShopModel", "begin", "()V"⟩
theorem cm_Z_begin : CMs y_Z_begin b_Z_begin 1 (none) 0 := ⟨gw_in 1055 (by decide +kernel) rfl, gw_in 96 (by decide +kernel) rfl, by decide +kernel, by decide +kernel⟩
theorem vm_Z_begin : VM y_Z_begin := ⟨gw_in 1054 (by decide +kernel) rfl, gw_in 73 (by decide +kernel) rfl⟩
abbrev b_Z_putBack : ByteArray := prog_11_method_43_code
def y_Z_putBack : MethodName := ⟨"ForgoneShopModel", "putBack", "()V"⟩
theorem cm_Z_putBack : CMs y_Z_putBack b_Z_putBack 1 (none) 0 := ⟨gw_in 1059 (by decide +kernel) rfl, gw_in 96 (by decide +kernel) rfl, by decide +kernel, by decide +kernel⟩
theorem vm_Z_putBack : VM y_Z_putBack := ⟨gw_in 1058 (by decide +kernel) rfl, gw_in 74 (by decide +kernel) rfl⟩
abbrev b_Z_heard : ByteArray := prog_11_method_45_code
def y_Z_heard : MethodName := ⟨"ForgoneShopModel", "heard", "(I)I"⟩
theorem cm_Z_heard : CMs y_Z_heard b_Z_heard 4 (some (.int)) 1 := ⟨gw_in 1063 (by decide +kernel) rfl, gw_in 96 (by decide +kernel) rfl, by decide +kernel, by decide +kernel⟩
theorem vm_Z_heard : VM y_Z_heard := ⟨gw_in 1061 (by decide +kernel) rfl, gw_in 1062 (by decide +kernel) rfl⟩
abbrev b_Z_nearIn : ByteArray := prog_11_method_27_code
def y_Z_nearIn : MethodName := ⟨"ForgoneShopModel", "nearIn", "()I"⟩
theorem cm_Z_nearIn : CMs y_Z_nearIn b_Z_nearIn 3 (some (.int)) 0 := ⟨gw_in 1067 (by decide +kernel) rfl, gw_in 96 (by decide +kernel) rfl, by decide +kernel, by decide +kernel⟩
theorem vm_Z_nearIn : VM y_Z_nearIn := ⟨gw_in 1066 (by decide +kernel) rfl, gw_in 75 (by decide +kernel) rfl⟩
abbrev b_Z_sum : ByteArray := prog_11_method_48_code
def y_Z_sum : MethodName := ⟨"ForgoneShopModel", "sum", "(III)I"⟩
theorem cm_Z_sum : CMs y_Z_sum b_Z_sum 9 (some (.int)) 3 := ⟨gw_in 1071 (by decide +kernel) rfl, gw_in 96 (by decide +kernel) rfl, by decide +kernel, by decide +kernel⟩
theorem vm_Z_sum : VM y_Z_sum := ⟨gw_in 1069 (by decide +kernel) rfl, gw_in 1070 (by decide +kernel) rfl⟩
abbrev b_Z_takable : ByteArray := prog_11_method_47_code
def y_Z_takable : MethodName := ⟨"ForgoneShopModel", "takable", "()I"⟩
theorem cm_Z_takable : CMs y_Z_takable b_Z_takable 3 (some (.int)) 0 := ⟨gw_in 1075 (by decide +kernel) rfl, gw_in 96 (by decide +kernel) rfl, by decide +kernel, by decide +kernel⟩
theorem vm_Z_takable : VM y_Z_takable := ⟨gw_in 1074 (by decide +kernel) rfl, gw_in 76 (by decide +kernel) rfl⟩
abbrev b_Z_sumOf : ByteArray := prog_11_method_46_code
def y_Z_sumOf : MethodName := ⟨"ForgoneShopModel", "sumOf", "(IZ)I"⟩
theorem cm_Z_sumOf : CMs y_Z_sumOf b_Z_sumOf 5 (some (.int)) 2 := ⟨gw_in 1080 (by decide +kernel) rfl, gw_in 96 (by decide +kernel) rfl, by decide +kernel, by decide +kernel⟩
theorem vm_Z_sumOf : VM y_Z_sumOf := ⟨gw_in 1079 (by decide +kernel) rfl, gw_in 77 (by decide +kernel) rfl⟩
abbrev b_Z_has : ByteArray := prog_11_method_2_code
def y_Z_has : MethodName := ⟨"ForgoneShopModel", "has", "(II)Z"⟩
theorem cm_Z_has : CMs y_Z_has b_Z_has 2 (some (.boolean)) 2 := ⟨gw_in 1083 (by decide +kernel) rfl, gw_in 96 (by decide +kernel) rfl, by decide +kernel, by decide +kernel⟩
theorem sm_Z_has : SM y_Z_has := gw_in 1082 (by decide +kernel) rfl
abbrev b_Z_take : ByteArray := prog_11_method_49_code
def y_Z_take : MethodName := ⟨"ForgoneShopModel", "take", "(II)I"⟩
theorem cm_Z_take : CMs y_Z_take b_Z_take 8 (some (.int)) 2 := ⟨gw_in 1087 (by decide +kernel) rfl, gw_in 96 (by decide +kernel) rfl, by decide +kernel, by decide +kernel⟩
theorem vm_Z_take : VM y_Z_take := ⟨gw_in 1085 (by decide +kernel) rfl, gw_in 1086 (by decide +kernel) rfl⟩
abbrev b_Z_when : ByteArray := prog_11_method_50_code
def y_Z_when : MethodName := ⟨"ForgoneShopModel", "when", "(II)I"⟩
theorem cm_Z_when : CMs y_Z_when b_Z_when 5 (some (.int)) 2 := ⟨gw_in 1091 (by decide +kernel) rfl, gw_in 96 (by decide +kernel) rfl, by decide +kernel, by decide +kernel⟩
theorem vm_Z_when : VM y_Z_when := ⟨gw_in 1089 (by decide +kernel) rfl, gw_in 1090 (by decide +kernel) rfl⟩
abbrev b_Z_pair : ByteArray := prog_11_method_51_code
def y_Z_pair : MethodName := ⟨"ForgoneShopModel", "pair", "(I)I"⟩
theorem cm_Z_pair : CMs y_Z_pair b_Z_pair 6 (some (.int)) 1 := ⟨gw_in 1095 (by decide +kernel) rfl, gw_in 96 (by decide +kernel) rfl, by decide +kernel, by decide +kernel⟩
theorem vm_Z_pair : VM y_Z_pair := ⟨gw_in 1093 (by decide +kernel) rfl, gw_in 1094 (by decide +kernel) rfl⟩
abbrev b_Z_swap : ByteArray := prog_11_method_54_code
def y_Z_swap : MethodName := ⟨"ForgoneShopModel", "swap", "(I)I"⟩
theorem cm_Z_swap : CMs y_Z_swap b_Z_swap 6 (some (.int)) 1 := ⟨gw_in 1099 (by decide +kernel) rfl, gw_in 96 (by decide +kernel) rfl, by decide +kernel, by decide +kernel⟩
theorem vm_Z_swap : VM y_Z_swap := ⟨gw_in 1097 (by decide +kernel) rfl, gw_in 1098 (by decide +kernel) rfl⟩
abbrev b_Z_setCosts : ByteArray := prog_11_method_53_code
def y_Z_setCosts : MethodName := ⟨"ForgoneShopModel", "setCosts", "()V"⟩
theorem cm_Z_setCosts : CMs y_Z_setCosts b_Z_setCosts 8 (none) 0 := ⟨gw_in 1103 (by decide +kernel) rfl, gw_in 96 (by decide +kernel) rfl, by decide +kernel, by decide +kernel⟩
theorem vm_Z_setCosts : VM y_Z_setCosts := ⟨gw_in 1102 (by decide +kernel) rfl, gw_in 78 (by decide +kernel) rfl⟩
abbrev b_Z_bits : ByteArray := prog_11_method_3_code
def y_Z_bits : MethodName := ⟨"ForgoneShopModel", "bits", "(I)I"⟩
theorem cm_Z_bits : CMs y_Z_bits b_Z_bits 3 (some (.int)) 1 := ⟨gw_in 1106 (by decide +kernel) rfl, gw_in 96 (by decide +kernel) rfl, by decide +kernel, by decide +kernel⟩
theorem sm_Z_bits : SM y_Z_bits := gw_in 1105 (by decide +kernel) rfl
abbrev b_Z_costOf : ByteArray := prog_11_method_52_code
def y_Z_costOf : MethodName := ⟨"ForgoneShopModel", "costOf", "(II)I"⟩
theorem cm_Z_costOf : CMs y_Z_costOf b_Z_costOf 3 (some (.int)) 2 := ⟨gw_in 1110 (by decide +kernel) rfl, gw_in 96 (by decide +kernel) rfl, by decide +kernel, by decide +kernel⟩
theorem vm_Z_costOf : VM y_Z_costOf := ⟨gw_in 1109 (by decide +kernel) rfl, gw_in 79 (by decide +kernel) rfl⟩
abbrev b_Z_see : ByteArray := prog_11_method_55_code
def y_Z_see : MethodName := ⟨"ForgoneShopModel", "see", "(III)I"⟩
theorem cm_Z_see : CMs y_Z_see b_Z_see 4 (some (.int)) 3 := ⟨gw_in 1114 (by decide +kernel) rfl, gw_in 96 (by decide +kernel) rfl, by decide +kernel, by decide +kernel⟩
theorem vm_Z_see : VM y_Z_see := ⟨gw_in 1112 (by decide +kernel) rfl, gw_in 1113 (by decide +kernel) rfl⟩
abbrev b_Z_forget : ByteArray := prog_11_method_56_code
def y_Z_forget : MethodName := ⟨"ForgoneShopModel", "forget", "()I"⟩
theorem cm_Z_forget : CMs y_Z_forget b_Z_forget 2 (some (.int)) 0 := ⟨gw_in 1118 (by decide +kernel) rfl, gw_in 96 (by decide +kernel) rfl, by decide +kernel, by decide +kernel⟩
theorem vm_Z_forget : VM y_Z_forget := ⟨gw_in 1116 (by decide +kernel) rfl, gw_in 1117 (by decide +kernel) rfl⟩
abbrev b_Z_kinds : ByteArray := prog_11_method_58_code
def y_Z_kinds : MethodName := ⟨"ForgoneShopModel", "kinds", "(I)I"⟩
theorem cm_Z_kinds : CMs y_Z_kinds b_Z_kinds 6 (some (.int)) 1 := ⟨gw_in 1122 (by decide +kernel) rfl, gw_in 96 (by decide +kernel) rfl, by decide +kernel, by decide +kernel⟩
theorem vm_Z_kinds : VM y_Z_kinds := ⟨gw_in 1120 (by decide +kernel) rfl, gw_in 1121 (by decide +kernel) rfl⟩
abbrev b_Z_nearBy : ByteArray := prog_11_method_57_code
def y_Z_nearBy : MethodName := ⟨"ForgoneShopModel", "nearBy", "(III)I"⟩
theorem cm_Z_nearBy : CMs y_Z_nearBy b_Z_nearBy 6 (some (.int)) 3 := ⟨gw_in 1126 (by decide +kernel) rfl, gw_in 96 (by decide +kernel) rfl, by decide +kernel, by decide +kernel⟩
theorem vm_Z_nearBy : VM y_Z_nearBy := ⟨gw_in 1125 (by decide +kernel) rfl, gw_in 80 (by decide +kernel) rfl⟩
abbrev b_Z_sure : ByteArray := prog_11_method_61_code
def y_Z_sure : MethodName := ⟨"ForgoneShopModel", "sure", "(IIIII)I"⟩
theorem cm_Z_sure : CMs y_Z_sure b_Z_sure 12 (some (.int)) 5 := ⟨gw_in 1130 (by decide +kernel) rfl, gw_in 96 (by decide +kernel) rfl, by decide +kernel, by decide +kernel⟩
theorem vm_Z_sure : VM y_Z_sure := ⟨gw_in 1128 (by decide +kernel) rfl, gw_in 1129 (by decide +kernel) rfl⟩
abbrev b_Z_times : ByteArray := prog_11_method_60_code
def y_Z_times : MethodName := ⟨"ForgoneShopModel", "times", "(JII)J"⟩
theorem cm_Z_times : CMs y_Z_times b_Z_times 7 (some (.long)) 3 := ⟨gw_in 1133 (by decide +kernel) rfl, gw_in 96 (by decide +kernel) rfl, by decide +kernel, by decide +kernel⟩
theorem sm_Z_times : SM y_Z_times := gw_in 1132 (by decide +kernel) rfl
abbrev b_Z_common : ByteArray := prog_11_method_59_code
def y_Z_common : MethodName := ⟨"ForgoneShopModel", "common", "(JJ)J"⟩
theorem cm_Z_common : CMs y_Z_common b_Z_common 10 (some (.long)) 2 := ⟨gw_in 1137 (by decide +kernel) rfl, gw_in 96 (by decide +kernel) rfl, by decide +kernel, by decide +kernel⟩
theorem sm_Z_common : SM y_Z_common := gw_in 1136 (by decide +kernel) rfl
abbrev b_Z_fine : ByteArray := prog_11_method_62_code
def y_Z_fine : MethodName := ⟨"ForgoneShopModel", "fine", "(II)I"⟩
theorem cm_Z_fine : CMs y_Z_fine b_Z_fine 8 (some (.int)) 2 := ⟨gw_in 1141 (by decide +kernel) rfl, gw_in 96 (by decide +kernel) rfl, by decide +kernel, by decide +kernel⟩
theorem vm_Z_fine : VM y_Z_fine := ⟨gw_in 1139 (by decide +kernel) rfl, gw_in 1140 (by decide +kernel) rfl⟩
abbrev b_Z_whims : ByteArray := prog_11_method_63_code
def y_Z_whims : MethodName := ⟨"ForgoneShopModel", "whims", "(IIIII)I"⟩
theorem cm_Z_whims : CMs y_Z_whims b_Z_whims 16 (some (.int)) 5 := ⟨gw_in 1145 (by decide +kernel) rfl, gw_in 96 (by decide +kernel) rfl, by decide +kernel, by decide +kernel⟩
theorem vm_Z_whims : VM y_Z_whims := ⟨gw_in 1143 (by decide +kernel) rfl, gw_in 1144 (by decide +kernel) rfl⟩
abbrev b_Z_year : ByteArray := prog_11_method_64_code
def y_Z_year : MethodName := ⟨"ForgoneShopModel", "year", "(III)I"⟩
theorem cm_Z_year : CMs y_Z_year b_Z_year 9 (some (.int)) 3 := ⟨gw_in 1149 (by decide +kernel) rfl, gw_in 96 (by decide +kernel) rfl, by decide +kernel, by decide +kernel⟩
theorem vm_Z_year : VM y_Z_year := ⟨gw_in 1147 (by decide +kernel) rfl, gw_in 1148 (by decide +kernel) rfl⟩
abbrev b_Z_keep : ByteArray := prog_11_method_65_code
def y_Z_keep : MethodName := ⟨"ForgoneShopModel", "keep", "()I"⟩
theorem cm_Z_keep : CMs y_Z_keep b_Z_keep 1 (some (.int)) 0 := ⟨gw_in 1156 (by decide +kernel) rfl, gw_in 96 (by decide +kernel) rfl, by decide +kernel, by decide +kernel⟩
theorem vm_Z_keep : VM y_Z_keep := ⟨gw_in 1154 (by decide +kernel) rfl, gw_in 1155 (by decide +kernel) rfl⟩
abbrev b_Z_back : ByteArray := prog_11_method_66_code
def y_Z_back : MethodName := ⟨"ForgoneShopModel", "back", "()I"⟩
theorem cm_Z_back : CMs y_Z_back b_Z_back 1 (some (.int)) 0 := ⟨gw_in 1160 (by decide +kernel) rfl, gw_in 96 (by decide +kernel) rfl, by decide +kernel, by decide +kernel⟩
theorem vm_Z_back : VM y_Z_back := ⟨gw_in 1158 (by decide +kernel) rfl, gw_in 1159 (by decide +kernel) rfl⟩
abbrev b_Z_count : ByteArray := prog_11_method_67_code
def y_Z_count : MethodName := ⟨"ForgoneShopModel", "count", "(I)I"⟩
theorem cm_Z_count : CMs y_Z_count b_Z_count 2 (some (.int)) 1 := ⟨gw_in 1164 (by decide +kernel) rfl, gw_in 96 (by decide +kernel) rfl, by decide +kernel, by decide +kernel⟩
theorem vm_Z_count : VM y_Z_count := ⟨gw_in 1162 (by decide +kernel) rfl, gw_in 1163 (by decide +kernel) rfl⟩
abbrev b_Z_thoseIn : ByteArray := prog_11_method_25_code
def y_Z_thoseIn : MethodName := ⟨"ForgoneShopModel", "thoseIn", "(I)I"⟩
theorem cm_Z_thoseIn : CMs y_Z_thoseIn b_Z_thoseIn 4 (some (.int)) 1 := ⟨gw_in 1168 (by decide +kernel) rfl, gw_in 96 (by decide +kernel) rfl, by decide +kernel, by decide +kernel⟩
theorem vm_Z_thoseIn : VM y_Z_thoseIn := ⟨gw_in 1167 (by decide +kernel) rfl, gw_in 81 (by decide +kernel) rfl⟩
theorem fl_L_9 : FL "ForgoneShop$Letters" 9 2 0 := ⟨R_L, T_L, 2, t_L, rfl, in_L, t_L_ok, n_L, by decide, Or.inl (gw_in 112 (by decide +kernel) rfl)⟩
theorem fl_F_94 : FL "ForgoneShop" 94 2 1 := ⟨R_L, T_L, 2, t_L, rfl, in_L, t_L_ok, n_L, by decide, Or.inr ⟨"ForgoneShop", nw_in 113 (by decide +kernel) rfl⟩⟩
theorem fl_L_15 : FL "ForgoneShop$Letters" 15 2 1 := ⟨R_L, T_L, 2, t_L, rfl, in_L, t_L_ok, n_L, by decide, Or.inl (gw_in 114 (by decide +kernel) rfl)⟩
theorem fl_R_20 : FL "ForgoneShop$Reader" 20 2 1 := ⟨R_L, T_L, 2, t_L, rfl, in_L, t_L_ok, n_L, by decide, Or.inr ⟨"ForgoneShop", nw_in 115 (by decide +kernel) rfl⟩⟩
theorem fl_R_9 : FL "ForgoneShop$Reader" 9 6 0 := ⟨R_R, T_R, 2, t_R, rfl, in_R, t_R_ok, n_R, by decide, Or.inl (gw_in 128 (by decide +kernel) rfl)⟩
theorem fl_R_46 : FL "ForgoneShop$Reader" 46 6 1 := ⟨R_R, T_R, 2, t_R, rfl, in_R, t_R_ok, n_R, by decide, Or.inl (gw_in 129 (by decide +kernel) rfl)⟩
theorem fl_P_30 : FL "ForgoneShop$Plan" 30 5 0 := ⟨R_P, T_P, 11, t_P, rfl, in_P, t_P_ok, n_P, by decide, Or.inl (gw_in 142 (by decide +kernel) rfl)⟩
theorem fl_F_106 : FL "ForgoneShop" 106 5 0 := ⟨R_P, T_P, 11, t_P, rfl, in_P, t_P_ok, n_P, by decide, Or.inr ⟨"ForgoneShop", nw_in 143 (by decide +kernel) rfl⟩⟩
theorem fl_S_87 : FL "ForgoneShop$Stand" 87 5 0 := ⟨R_P, T_P, 11, t_P, rfl, in_P, t_P_ok, n_P, by decide, Or.inr ⟨"ForgoneShop", nw_in 144 (by decide +kernel) rfl⟩⟩
theorem fl_P_9 : FL "ForgoneShop$Plan" 9 5 1 := ⟨R_P, T_P, 11, t_P, rfl, in_P, t_P_ok, n_P, by decide, Or.inl (gw_in 145 (by decide +kernel) rfl)⟩
theorem fl_S_34 : FL "ForgoneShop$Stand" 34 5 1 := ⟨R_P, T_P, 11, t_P, rfl, in_P, t_P_ok, n_P, by decide, Or.inr ⟨"ForgoneShop", nw_in 146 (by decide +kernel) rfl⟩⟩
theorem fl_P_34 : FL "ForgoneShop$Plan" 34 5 2 := ⟨R_P, T_P, 11, t_P, rfl, in_P, t_P_ok, n_P, by decide, Or.inl (gw_in 147 (by decide +kernel) rfl)⟩
theorem fl_E_57 : FL "ForgoneShop$Exchange" 57 5 2 := ⟨R_P, T_P, 11, t_P, rfl, in_P, t_P_ok, n_P, by decide, Or.inr ⟨"ForgoneShop", nw_in 148 (by decide +kernel) rfl⟩⟩
theorem fl_S_70 : FL "ForgoneShop$Stand" 70 5 2 := ⟨R_P, T_P, 11, t_P, rfl, in_P, t_P_ok, n_P, by decide, Or.inr ⟨"ForgoneShop", nw_in 149 (by decide +kernel) rfl⟩⟩
theorem fl_F_196 : FL "ForgoneShop" 196 5 2 := ⟨R_P, T_P, 11, t_P, rfl, in_P, t_P_ok, n_P, by decide, Or.inr ⟨"ForgoneShop", nw_in 150 (by decide +kernel) rfl⟩⟩
theorem fl_P_15 : FL "ForgoneShop$Plan" 15 5 3 := ⟨R_P, T_P, 11, t_P, rfl, in_P, t_P_ok, n_P, by decide, Or.inl (gw_in 151 (by decide +kernel) rfl)⟩
theorem fl_E_67 : FL "ForgoneShop$Exchange" 67 5 3 := ⟨R_P, T_P, 11, t_P, rfl, in_P, t_P_ok, n_P, by decide, Or.inr ⟨"ForgoneShop", nw_in 152 (by decide +kernel) rfl⟩⟩
theorem fl_S_63 : FL "ForgoneShop$Stand" 63 5 3 := ⟨R_P, T_P, 11, t_P, rfl, in_P, t_P_ok, n_P, by decide, Or.inr ⟨"ForgoneShop", nw_in 153 (by decide +kernel) rfl⟩⟩
theorem fl_F_131 : FL "ForgoneShop" 131 5 3 := ⟨R_P, T_P, 11, t_P, rfl, in_P, t_P_ok, n_P, by decide, Or.inr ⟨"ForgoneShop", nw_in 154 (by decide +kernel) rfl⟩⟩
theorem fl_P_18 : FL "ForgoneShop$Plan" 18 5 4 := ⟨R_P, T_P, 11, t_P, rfl, in_P, t_P_ok, n_P, by decide, Or.inl (gw_in 155 (by decide +kernel) rfl)⟩
theorem fl_F_134 : FL "ForgoneShop" 134 5 4 := ⟨R_P, T_P, 11, t_P, rfl, in_P, t_P_ok, n_P, by decide, Or.inr ⟨"ForgoneShop", nw_in 156 (by decide +kernel) rfl⟩⟩
theorem fl_S_80 : FL "ForgoneShop$Stand" 80 5 4 := ⟨R_P, T_P, 11, t_P, rfl, in_P, t_P_ok, n_P, by decide, Or.inr ⟨"ForgoneShop", nw_in 157 (by decide +kernel) rfl⟩⟩
theorem fl_P_21 : FL "ForgoneShop$Plan" 21 5 5 := ⟨R_P, T_P, 11, t_P, rfl, in_P, t_P_ok, n_P, by decide, Or.inl (gw_in 158 (by decide +kernel) rfl)⟩
theorem fl_S_39 : FL "ForgoneShop$Stand" 39 5 5 := ⟨R_P, T_P, 11, t_P, rfl, in_P, t_P_ok, n_P, by decide, Or.inr ⟨"ForgoneShop", nw_in 159 (by decide +kernel) rfl⟩⟩
theorem fl_P_24 : FL "ForgoneShop$Plan" 24 5 6 := ⟨R_P, T_P, 11, t_P, rfl, in_P, t_P_ok, n_P, by decide, Or.inl (gw_in 160 (by decide +kernel) rfl)⟩
theorem fl_E_74 : FL "ForgoneShop$Exchange" 74 5 6 := ⟨R_P, T_P, 11, t_P, rfl, in_P, t_P_ok, n_P, by decide, Or.inr ⟨"ForgoneShop", nw_in 161 (by decide +kernel) rfl⟩⟩
theorem fl_F_140 : FL "ForgoneShop" 140 5 6 := ⟨R_P, T_P, 11, t_P, rfl, in_P, t_P_ok, n_P, by decide, Or.inr ⟨"ForgoneShop", nw_in 162 (by decide +kernel) rfl⟩⟩
theorem fl_S_77 : FL "ForgoneShop$Stand" 77 5 6 := ⟨R_P, T_P, 11, t_P, rfl, in_P, t_P_ok, n_P, by decide, Or.inr ⟨"ForgoneShop", nw_in 163 (by decide +kernel) rfl⟩⟩
theorem fl_P_37 : FL "ForgoneShop$Plan" 37 5 7 := ⟨R_P, T_P, 11, t_P, rfl, in_P, t_P_ok, n_P, by decide, Or.inl (gw_in 164 (by decide +kernel) rfl)⟩
theorem fl_P_27 : FL "ForgoneShop$Plan" 27 5 8 := ⟨R_P, T_P, 11, t_P, rfl, in_P, t_P_ok, n_P, by decide, Or.inl (gw_in 165 (by decide +kernel) rfl)⟩
theorem fl_S_28 : FL "ForgoneShop$Stand" 28 5 9 := ⟨R_P, T_P, 11, t_P, rfl, in_P, t_P_ok, n_P, by decide, Or.inr ⟨"ForgoneShop", nw_in 166 (by decide +kernel) rfl⟩⟩
theorem fl_P_40 : FL "ForgoneShop$Plan" 40 5 9 := ⟨R_P, T_P, 11, t_P, rfl, in_P, t_P_ok, n_P, by decide, Or.inl (gw_in 167 (by decide +kernel) rfl)⟩
theorem fl_P_43 : FL "ForgoneShop$Plan" 43 5 10 := ⟨R_P, T_P, 11, t_P, rfl, in_P, t_P_ok, n_P, by decide, Or.inl (gw_in 168 (by decide +kernel) rfl)⟩
theorem fl_S_52 : FL "ForgoneShop$Stand" 52 5 10 := ⟨R_P, T_P, 11, t_P, rfl, in_P, t_P_ok, n_P, by decide, Or.inr ⟨"ForgoneShop", nw_in 169 (by decide +kernel) rfl⟩⟩
theorem fl_F_257 : FL "ForgoneShop" 257 5 10 := ⟨R_P, T_P, 11, t_P, rfl, in_P, t_P_ok, n_P, by decide, Or.inr ⟨"ForgoneShop", nw_in 170 (by decide +kernel) rfl⟩⟩
theorem fl_S_24 : FL "ForgoneShop$Stand" 24 7 0 := ⟨R_S, T_S, 6, t_S, rfl, in_S, t_S_ok, n_S, by decide, Or.inl (gw_in 200 (by decide +kernel) rfl)⟩
theorem fl_F_149 : FL "ForgoneShop" 149 7 0 := ⟨R_S, T_S, 6, t_S, rfl, in_S, t_S_ok, n_S, by decide, Or.inr ⟨"ForgoneShop", nw_in 201 (by decide +kernel) rfl⟩⟩
theorem fl_S_33 : FL "ForgoneShop$Stand" 33 7 1 := ⟨R_S, T_S, 6, t_S, rfl, in_S, t_S_ok, n_S, by decide, Or.inl (gw_in 202 (by decide +kernel) rfl)⟩
theorem fl_F_206 : FL "ForgoneShop" 206 7 1 := ⟨R_S, T_S, 6, t_S, rfl, in_S, t_S_ok, n_S, by decide, Or.inr ⟨"ForgoneShop", nw_in 203 (by decide +kernel) rfl⟩⟩
theorem fl_S_9 : FL "ForgoneShop$Stand" 9 7 2 := ⟨R_S, T_S, 6, t_S, rfl, in_S, t_S_ok, n_S, by decide, Or.inl (gw_in 204 (by decide +kernel) rfl)⟩
theorem fl_F_113 : FL "ForgoneShop" 113 7 2 := ⟨R_S, T_S, 6, t_S, rfl, in_S, t_S_ok, n_S, by decide, Or.inr ⟨"ForgoneShop", nw_in 205 (by decide +kernel) rfl⟩⟩
theorem fl_S_15 : FL "ForgoneShop$Stand" 15 7 3 := ⟨R_S, T_S, 6, t_S, rfl, in_S, t_S_ok, n_S, by decide, Or.inl (gw_in 206 (by decide +kernel) rfl)⟩
theorem fl_F_121 : FL "ForgoneShop" 121 7 3 := ⟨R_S, T_S, 6, t_S, rfl, in_S, t_S_ok, n_S, by decide, Or.inr ⟨"ForgoneShop", nw_in 207 (by decide +kernel) rfl⟩⟩
theorem fl_S_18 : FL "ForgoneShop$Stand" 18 7 4 := ⟨R_S, T_S, 6, t_S, rfl, in_S, t_S_ok, n_S, by decide, Or.inl (gw_in 208 (by decide +kernel) rfl)⟩
theorem fl_F_137 : FL "ForgoneShop" 137 7 4 := ⟨R_S, T_S, 6, t_S, rfl, in_S, t_S_ok, n_S, by decide, Or.inr ⟨"ForgoneShop", nw_in 209 (by decide +kernel) rfl⟩⟩
theorem fl_S_21 : FL "ForgoneShop$Stand" 21 7 5 := ⟨R_S, T_S, 6, t_S, rfl, in_S, t_S_ok, n_S, by decide, Or.inl (gw_in 210 (by decide +kernel) rfl)⟩
theorem fl_E_62 : FL "ForgoneShop$Exchange" 62 7 5 := ⟨R_S, T_S, 6, t_S, rfl, in_S, t_S_ok, n_S, by decide, Or.inr ⟨"ForgoneShop", nw_in 211 (by decide +kernel) rfl⟩⟩
theorem fl_F_143 : FL "ForgoneShop" 143 7 5 := ⟨R_S, T_S, 6, t_S, rfl, in_S, t_S_ok, n_S, by decide, Or.inr ⟨"ForgoneShop", nw_in 212 (by decide +kernel) rfl⟩⟩
theorem fl_M_11 : FL "ForgoneShop$Memory" 11 4 0 := ⟨R_M, T_M, 3, t_M, rfl, in_M, t_M_ok, n_M, by decide, Or.inl (gw_in 235 (by decide +kernel) rfl)⟩
theorem fl_M_16 : FL "ForgoneShop$Memory" 16 4 1 := ⟨R_M, T_M, 3, t_M, rfl, in_M, t_M_ok, n_M, by decide, Or.inl (gw_in 236 (by decide +kernel) rfl)⟩
theorem fl_M_28 : FL "ForgoneShop$Memory" 28 4 2 := ⟨R_M, T_M, 3, t_M, rfl, in_M, t_M_ok, n_M, by decide, Or.inl (gw_in 237 (by decide +kernel) rfl)⟩
theorem fl_F_182 : FL "ForgoneShop" 182 4 2 := ⟨R_M, T_M, 3, t_M, rfl, in_M, t_M_ok, n_M, by decide, Or.inr ⟨"ForgoneShop", nw_in 238 (by decide +kernel) rfl⟩⟩
theorem fl_K_9 : FL "ForgoneShop$Looks" 9 3 0 := ⟨R_K, T_K, 4, t_K, rfl, in_K, t_K_ok, n_K, by decide, Or.inl (gw_in 252 (by decide +kernel) rfl)⟩
theorem fl_F_269 : FL "ForgoneShop" 269 3 0 := ⟨R_K, T_K, 4, t_K, rfl, in_K, t_K_ok, n_K, by decide, Or.inr ⟨"ForgoneShop", nw_in 253 (by decide +kernel) rfl⟩⟩
theorem fl_K_15 : FL "ForgoneShop$Looks" 15 3 1 := ⟨R_K, T_K, 4, t_K, rfl, in_K, t_K_ok, n_K, by decide, Or.inl (gw_in 254 (by decide +kernel) rfl)⟩
theorem fl_F_272 : FL "ForgoneShop" 272 3 1 := ⟨R_K, T_K, 4, t_K, rfl, in_K, t_K_ok, n_K, by decide, Or.inr ⟨"ForgoneShop", nw_in 255 (by decide +kernel) rfl⟩⟩
theorem fl_K_18 : FL "ForgoneShop$Looks" 18 3 2 := ⟨R_K, T_K, 4, t_K, rfl, in_K, t_K_ok, n_K, by decide, Or.inl (gw_in 256 (by decide +kernel) rfl)⟩
theorem fl_F_275 : FL "ForgoneShop" 275 3 2 := ⟨R_K, T_K, 4, t_K, rfl, in_K, t_K_ok, n_K, by decide, Or.inr ⟨"ForgoneShop", nw_in 257 (by decide +kernel) rfl⟩⟩
theorem fl_K_21 : FL "ForgoneShop$Looks" 21 3 3 := ⟨R_K, T_K, 4, t_K, rfl, in_K, t_K_ok, n_K, by decide, Or.inl (gw_in 258 (by decide +kernel) rfl)⟩
theorem fl_F_235 : FL "ForgoneShop" 235 3 3 := ⟨R_K, T_K, 4, t_K, rfl, in_K, t_K_ok, n_K, by decide, Or.inr ⟨"ForgoneShop", nw_in 259 (by decide +kernel) rfl⟩⟩
theorem fl_C_9 : FL "ForgoneShop$Choice" 9 0 0 := ⟨R_C, T_C, 6, t_C, rfl, in_C, t_C_ok, n_C, by decide, Or.inl (gw_in 275 (by decide +kernel) rfl)⟩
theorem fl_C_15 : FL "ForgoneShop$Choice" 15 0 1 := ⟨R_C, T_C, 6, t_C, rfl, in_C, t_C_ok, n_C, by decide, Or.inl (gw_in 276 (by decide +kernel) rfl)⟩
theorem fl_C_18 : FL "ForgoneShop$Choice" 18 0 2 := ⟨R_C, T_C, 6, t_C, rfl, in_C, t_C_ok, n_C, by decide, Or.inl (gw_in 277 (by decide +kernel) rfl)⟩
theorem fl_C_21 : FL "ForgoneShop$Choice" 21 0 3 := ⟨R_C, T_C, 6, t_C, rfl, in_C, t_C_ok, n_C, by decide, Or.inl (gw_in 278 (by decide +kernel) rfl)⟩
theorem fl_C_50 : FL "ForgoneShop$Choice" 50 0 4 := ⟨R_C, T_C, 6, t_C, rfl, in_C, t_C_ok, n_C, by decide, Or.inl (gw_in 279 (by decide +kernel) rfl)⟩
theorem fl_F_213 : FL "ForgoneShop" 213 0 4 := ⟨R_C, T_C, 6, t_C, rfl, in_C, t_C_ok, n_C, by decide, Or.inr ⟨"ForgoneShop", nw_in 280 (by decide +kernel) rfl⟩⟩
theorem fl_C_46 : FL "ForgoneShop$Choice" 46 0 5 := ⟨R_C, T_C, 6, t_C, rfl, in_C, t_C_ok, n_C, by decide, Or.inl (gw_in 281 (by decide +kernel) rfl)⟩
theorem fl_F_216 : FL "ForgoneShop" 216 0 5 := ⟨R_C, T_C, 6, t_C, rfl, in_C, t_C_ok, n_C, by decide, Or.inr ⟨"ForgoneShop", nw_in 282 (by decide +kernel) rfl⟩⟩
theorem fl_E_9 : FL "ForgoneShop$Exchange" 9 1 0 := ⟨R_E, T_E, 8, t_E, rfl, in_E, t_E_ok, n_E, by decide, Or.inl (gw_in 302 (by decide +kernel) rfl)⟩
theorem fl_E_15 : FL "ForgoneShop$Exchange" 15 1 1 := ⟨R_E, T_E, 8, t_E, rfl, in_E, t_E_ok, n_E, by decide, Or.inl (gw_in 303 (by decide +kernel) rfl)⟩
theorem fl_E_18 : FL "ForgoneShop$Exchange" 18 1 2 := ⟨R_E, T_E, 8, t_E, rfl, in_E, t_E_ok, n_E, by decide, Or.inl (gw_in 304 (by decide +kernel) rfl)⟩
theorem fl_E_21 : FL "ForgoneShop$Exchange" 21 1 3 := ⟨R_E, T_E, 8, t_E, rfl, in_E, t_E_ok, n_E, by decide, Or.inl (gw_in 305 (by decide +kernel) rfl)⟩
theorem fl_E_24 : FL "ForgoneShop$Exchange" 24 1 4 := ⟨R_E, T_E, 8, t_E, rfl, in_E, t_E_ok, n_E, by decide, Or.inl (gw_in 306 (by decide +kernel) rfl)⟩
theorem fl_F_230 : FL "ForgoneShop" 230 1 4 := ⟨R_E, T_E, 8, t_E, rfl, in_E, t_E_ok, n_E, by decide, Or.inr ⟨"ForgoneShop", nw_in 307 (by decide +kernel) rfl⟩⟩
theorem fl_E_54 : FL "ForgoneShop$Exchange" 54 1 5 := ⟨R_E, T_E, 8, t_E, rfl, in_E, t_E_ok, n_E, by decide, Or.inl (gw_in 308 (by decide +kernel) rfl)⟩
theorem fl_E_35 : FL "ForgoneShop$Exchange" 35 1 6 := ⟨R_E, T_E, 8, t_E, rfl, in_E, t_E_ok, n_E, by decide, Or.inl (gw_in 309 (by decide +kernel) rfl)⟩
theorem fl_E_47 : FL "ForgoneShop$Exchange" 47 1 7 := ⟨R_E, T_E, 8, t_E, rfl, in_E, t_E_ok, n_E, by decide, Or.inl (gw_in 310 (by decide +kernel) rfl)⟩
theorem fl_F_227 : FL "ForgoneShop" 227 1 7 := ⟨R_E, T_E, 8, t_E, rfl, in_E, t_E_ok, n_E, by decide, Or.inr ⟨"ForgoneShop", nw_in 311 (by decide +kernel) rfl⟩⟩
theorem lk_F_86 : LK "ForgoneShop" 86 y_L_add := Or.inr ⟨"ForgoneShop", nw_in 378 (by decide +kernel) rfl⟩
theorem lk_F_90 : LK "ForgoneShop" 90 y_F_layText := Or.inl (gw_in 382 (by decide +kernel) rfl)
theorem lk_F_102 : LK "ForgoneShop" 102 y_R_readInto := Or.inr ⟨"ForgoneShop", nw_in 386 (by decide +kernel) rfl⟩
theorem lk_R_15 : LK "ForgoneShop$Reader" 15 y_P_clear := Or.inr ⟨"ForgoneShop", nw_in 390 (by decide +kernel) rfl⟩
theorem lk_R_26 : LK "ForgoneShop$Reader" 26 y_R_readNumbers := Or.inl (gw_in 394 (by decide +kernel) rfl)
theorem lk_R_38 : LK "ForgoneShop$Reader" 38 y_R_isFigure := Or.inl (gw_in 398 (by decide +kernel) rfl)
theorem lk_R_30 : LK "ForgoneShop$Reader" 30 y_L_letter := Or.inr ⟨"ForgoneShop", nw_in 402 (by decide +kernel) rfl⟩
theorem lk_R_49 : LK "ForgoneShop$Reader" 49 y_F_within := Or.inr ⟨"ForgoneShop", nw_in 406 (by decide +kernel) rfl⟩
theorem lk_R_42 : LK "ForgoneShop$Reader" 42 y_F_put := Or.inr ⟨"ForgoneShop", nw_in 409 (by decide +kernel) rfl⟩
theorem lk_R_34 : LK "ForgoneShop$Reader" 34 y_R_tell := Or.inl (gw_in 412 (by decide +kernel) rfl)
theorem lk_R_53 : LK "ForgoneShop$Reader" 53 y_F_at := Or.inr ⟨"ForgoneShop", nw_in 416 (by decide +kernel) rfl⟩
theorem lk_R_57 : LK "ForgoneShop$Reader" 57 y_P_addPerson := Or.inr ⟨"ForgoneShop", nw_in 419 (by decide +kernel) rfl⟩
theorem lk_P_50 : LK "ForgoneShop$Plan" 50 y_F_put := Or.inr ⟨"ForgoneShop", nw_in 423 (by decide +kernel) rfl⟩
theorem lk_R_61 : LK "ForgoneShop$Reader" 61 y_P_addThing := Or.inr ⟨"ForgoneShop", nw_in 424 (by decide +kernel) rfl⟩
theorem lk_P_54 : LK "ForgoneShop$Plan" 54 y_F_within := Or.inr ⟨"ForgoneShop", nw_in 428 (by decide +kernel) rfl⟩
theorem lk_R_65 : LK "ForgoneShop$Reader" 65 y_P_addRate := Or.inr ⟨"ForgoneShop", nw_in 429 (by decide +kernel) rfl⟩
theorem lk_R_68 : LK "ForgoneShop$Reader" 68 y_P_setShop := Or.inr ⟨"ForgoneShop", nw_in 433 (by decide +kernel) rfl⟩
theorem lk_F_263 : LK "ForgoneShop" 263 y_S_begin := Or.inr ⟨"ForgoneShop", nw_in 437 (by decide +kernel) rfl⟩
theorem lk_S_35 : LK "ForgoneShop$Stand" 35 y_F_copyRow := Or.inr ⟨"ForgoneShop", nw_in 441 (by decide +kernel) rfl⟩
theorem lk_F_117 : LK "ForgoneShop" 117 y_F_at := Or.inl (gw_in 444 (by decide +kernel) rfl)
theorem lk_F_290 : LK "ForgoneShop" 290 y_F_put := Or.inl (gw_in 445 (by decide +kernel) rfl)
theorem lk_S_40 : LK "ForgoneShop$Stand" 40 y_F_put := Or.inr ⟨"ForgoneShop", nw_in 446 (by decide +kernel) rfl⟩
theorem fl_F_10 : FL "ForgoneShop" 10 8 0 := ⟨R_F, T_F, 11, t_F, rfl, in_F, t_F_ok, n_F, by decide, Or.inl (gw_in 447 (by decide +kernel) rfl)⟩
theorem fl_F_19 : FL "ForgoneShop" 19 8 1 := ⟨R_F, T_F, 11, t_F, rfl, in_F, t_F_ok, n_F, by decide, Or.inl (gw_in 448 (by decide +kernel) rfl)⟩
theorem fl_F_26 : FL "ForgoneShop" 26 8 2 := ⟨R_F, T_F, 11, t_F, rfl, in_F, t_F_ok, n_F, by decide, Or.inl (gw_in 449 (by decide +kernel) rfl)⟩
theorem fl_F_30 : FL "ForgoneShop" 30 8 3 := ⟨R_F, T_F, 11, t_F, rfl, in_F, t_F_ok, n_F, by decide, Or.inl (gw_in 450 (by decide +kernel) rfl)⟩
theorem fl_F_36 : FL "ForgoneShop" 36 8 4 := ⟨R_F, T_F, 11, t_F, rfl, in_F, t_F_ok, n_F, by decide, Or.inl (gw_in 451 (by decide +kernel) rfl)⟩
theorem fl_F_40 : FL "ForgoneShop" 40 8 5 := ⟨R_F, T_F, 11, t_F, rfl, in_F, t_F_ok, n_F, by decide, Or.inl (gw_in 452 (by decide +kernel) rfl)⟩
theorem fl_F_46 : FL "ForgoneShop" 46 8 6 := ⟨R_F, T_F, 11, t_F, rfl, in_F, t_F_ok, n_F, by decide, Or.inl (gw_in 453 (by decide +kernel) rfl)⟩
theorem fl_F_50 : FL "ForgoneShop" 50 8 7 := ⟨R_F, T_F, 11, t_F, rfl, in_F, t_F_ok, n_F, by decide, Or.inl (gw_in 454 (by decide +kernel) rfl)⟩
theorem fl_F_56 : FL "ForgoneShop" 56 8 8 := ⟨R_F, T_F, 11, t_F, rfl, in_F, t_F_ok, n_F, by decide, Or.inl (gw_in 455 (by decide +kernel) rfl)⟩
theorem fl_F_63 : FL "ForgoneShop" 63 8 9 := ⟨R_F, T_F, 11, t_F, rfl, in_F, t_F_ok, n_F, by decide, Or.inl (gw_in 456 (by decide +kernel) rfl)⟩
theorem fl_F_70 : FL "ForgoneShop" 70 8 10 := ⟨R_F, T_F, 11, t_F, rfl, in_F, t_F_ok, n_F, by decide, Or.inl (gw_in 457 (by decide +kernel) rfl)⟩
theorem lk_W_13 : LK "ForgoneShopLaw" 13 y_F_write := Or.inl (gw_in 482 (by decide +kernel) rfl)
theorem lk_F_98 : LK "ForgoneShop" 98 y_F_within := Or.inl (gw_in 486 (by decide +kernel) rfl)
theorem lk_W_18 : LK "ForgoneShopLaw" 18 y_F_wipe := Or.inl (gw_in 487 (by decide +kernel) rfl)
theorem lk_W_23 : LK "ForgoneShopLaw" 23 y_F_fault := Or.inl (gw_in 491 (by decide +kernel) rfl)
theorem lk_W_27 : LK "ForgoneShopLaw" 27 y_F_lay := Or.inl (gw_in 495 (by decide +kernel) rfl)
theorem lk_W_31 : LK "ForgoneShopLaw" 31 y_F_person := Or.inl (gw_in 499 (by decide +kernel) rfl)
theorem lk_F_109 : LK "ForgoneShop" 109 y_F_isPerson := Or.inl (gw_in 503 (by decide +kernel) rfl)
theorem lk_F_124 : LK "ForgoneShop" 124 y_S_thingsWith := Or.inr ⟨"ForgoneShop", nw_in 507 (by decide +kernel) rfl⟩
theorem lk_S_44 : LK "ForgoneShop$Stand" 44 y_F_at := Or.inr ⟨"ForgoneShop", nw_in 511 (by decide +kernel) rfl⟩
theorem lk_W_36 : LK "ForgoneShopLaw" 36 y_F_thing := Or.inl (gw_in 512 (by decide +kernel) rfl)
theorem lk_F_128 : LK "ForgoneShop" 128 y_F_isThing := Or.inl (gw_in 516 (by decide +kernel) rfl)
theorem lk_F_146 : LK "ForgoneShop" 146 y_S_price := Or.inr ⟨"ForgoneShop", nw_in 520 (by decide +kernel) rfl⟩
theorem lk_S_48 : LK "ForgoneShop$Stand" 48 y_P_rate := Or.inr ⟨"ForgoneShop", nw_in 524 (by decide +kernel) rfl⟩
theorem lk_P_46 : LK "ForgoneShop$Plan" 46 y_F_at := Or.inr ⟨"ForgoneShop", nw_in 528 (by decide +kernel) rfl⟩
theorem lk_W_40 : LK "ForgoneShopLaw" 40 y_F_pays := Or.inl (gw_in 529 (by decide +kernel) rfl)
theorem lk_F_152 : LK "ForgoneShop" 152 y_P_rate := Or.inr ⟨"ForgoneShop", nw_in 533 (by decide +kernel) rfl⟩
theorem lk_W_44 : LK "ForgoneShopLaw" 44 y_F_sell := Or.inl (gw_in 534 (by decide +kernel) rfl)
theorem lk_F_156 : LK "ForgoneShop" 156 y_S_canSell := Or.inr ⟨"ForgoneShop", nw_in 538 (by decide +kernel) rfl⟩
theorem lk_S_55 : LK "ForgoneShop$Stand" 55 y_S_isOffered := Or.inl (gw_in 542 (by decide +kernel) rfl)
theorem lk_S_59 : LK "ForgoneShop$Stand" 59 y_S_price := Or.inl (gw_in 546 (by decide +kernel) rfl)
theorem lk_F_160 : LK "ForgoneShop" 160 y_M_push := Or.inr ⟨"ForgoneShop", nw_in 547 (by decide +kernel) rfl⟩
theorem lk_M_20 : LK "ForgoneShop$Memory" 20 y_M_slotAt := Or.inl (gw_in 551 (by decide +kernel) rfl)
theorem lk_M_24 : LK "ForgoneShop$Memory" 24 y_S_copyFrom := Or.inr ⟨"ForgoneShop", nw_in 555 (by decide +kernel) rfl⟩
theorem lk_F_164 : LK "ForgoneShop" 164 y_S_moveToCellar := Or.inr ⟨"ForgoneShop", nw_in 562 (by decide +kernel) rfl⟩
theorem lk_S_66 : LK "ForgoneShop$Stand" 66 y_S_payPerson := Or.inl (gw_in 566 (by decide +kernel) rfl)
theorem lk_W_48 : LK "ForgoneShopLaw" 48 y_F_buyBack := Or.inl (gw_in 570 (by decide +kernel) rfl)
theorem lk_F_168 : LK "ForgoneShop" 168 y_S_canBuyBack := Or.inr ⟨"ForgoneShop", nw_in 574 (by decide +kernel) rfl⟩
theorem lk_F_171 : LK "ForgoneShop" 171 y_S_moveToPerson := Or.inr ⟨"ForgoneShop", nw_in 578 (by decide +kernel) rfl⟩
theorem lk_W_52 : LK "ForgoneShopLaw" 52 y_F_pass := Or.inl (gw_in 582 (by decide +kernel) rfl)
theorem lk_F_174 : LK "ForgoneShop" 174 y_S_passDay := Or.inr ⟨"ForgoneShop", nw_in 586 (by decide +kernel) rfl⟩
theorem lk_S_73 : LK "ForgoneShop$Stand" 73 y_S_goOn := Or.inl (gw_in 590 (by decide +kernel) rfl)
theorem lk_S_83 : LK "ForgoneShop$Stand" 83 y_F_nearNextDay := Or.inr ⟨"ForgoneShop", nw_in 594 (by decide +kernel) rfl⟩
theorem lk_W_56 : LK "ForgoneShopLaw" 56 y_F_undo := Or.inl (gw_in 601 (by decide +kernel) rfl)
theorem lk_F_178 : LK "ForgoneShop" 178 y_M_popInto := Or.inr ⟨"ForgoneShop", nw_in 605 (by decide +kernel) rfl⟩
theorem lk_W_60 : LK "ForgoneShopLaw" 60 y_F_behind := Or.inl (gw_in 609 (by decide +kernel) rfl)
theorem lk_F_185 : LK "ForgoneShop" 185 y_F_nearInCellar := Or.inl (gw_in 613 (by decide +kernel) rfl)
theorem lk_F_266 : LK "ForgoneShop" 266 y_F_nearNextDay := Or.inl (gw_in 617 (by decide +kernel) rfl)
theorem lk_W_64 : LK "ForgoneShopLaw" 64 y_F_heard := Or.inl (gw_in 618 (by decide +kernel) rfl)
theorem lk_F_189 : LK "ForgoneShop" 189 y_S_copyFrom := Or.inr ⟨"ForgoneShop", nw_in 622 (by decide +kernel) rfl⟩
theorem lk_F_192 : LK "ForgoneShop" 192 y_S_nearOfCellar := Or.inr ⟨"ForgoneShop", nw_in 623 (by decide +kernel) rfl⟩
theorem lk_W_68 : LK "ForgoneShopLaw" 68 y_F_sum := Or.inl (gw_in 627 (by decide +kernel) rfl)
theorem lk_F_199 : LK "ForgoneShop" 199 y_S_isOffered := Or.inr ⟨"ForgoneShop", nw_in 631 (by decide +kernel) rfl⟩
theorem lk_F_202 : LK "ForgoneShop" 202 y_C_offer := Or.inr ⟨"ForgoneShop", nw_in 632 (by decide +kernel) rfl⟩
theorem lk_C_24 : LK "ForgoneShop$Choice" 24 y_F_put := Or.inr ⟨"ForgoneShop", nw_in 636 (by decide +kernel) rfl⟩
theorem lk_F_209 : LK "ForgoneShop" 209 y_C_find := Or.inr ⟨"ForgoneShop", nw_in 637 (by decide +kernel) rfl⟩
theorem lk_C_28 : LK "ForgoneShop$Choice" 28 y_C_addUp := Or.inl (gw_in 641 (by decide +kernel) rfl)
theorem lk_C_38 : LK "ForgoneShop$Choice" 38 y_F_at := Or.inr ⟨"ForgoneShop", nw_in 645 (by decide +kernel) rfl⟩
theorem lk_C_42 : LK "ForgoneShop$Choice" 42 y_F_within := Or.inr ⟨"ForgoneShop", nw_in 647 (by decide +kernel) rfl⟩
theorem lk_W_73 : LK "ForgoneShopLaw" 73 y_F_take := Or.inl (gw_in 648 (by decide +kernel) rfl)
theorem lk_W_77 : LK "ForgoneShopLaw" 77 y_F_when := Or.inl (gw_in 652 (by decide +kernel) rfl)
theorem lk_F_219 : LK "ForgoneShop" 219 y_F_priceBehind := Or.inl (gw_in 656 (by decide +kernel) rfl)
theorem lk_W_81 : LK "ForgoneShopLaw" 81 y_F_pair := Or.inl (gw_in 660 (by decide +kernel) rfl)
theorem lk_W_85 : LK "ForgoneShopLaw" 85 y_F_swap := Or.inl (gw_in 664 (by decide +kernel) rfl)
theorem lk_F_223 : LK "ForgoneShop" 223 y_E_arrange := Or.inr ⟨"ForgoneShop", nw_in 668 (by decide +kernel) rfl⟩
theorem lk_E_27 : LK "ForgoneShop$Exchange" 27 y_E_collect := Or.inl (gw_in 672 (by decide +kernel) rfl)
theorem lk_E_31 : LK "ForgoneShop$Exchange" 31 y_F_put := Or.inr ⟨"ForgoneShop", nw_in 676 (by decide +kernel) rfl⟩
theorem lk_E_43 : LK "ForgoneShop$Exchange" 43 y_F_at := Or.inr ⟨"ForgoneShop", nw_in 677 (by decide +kernel) rfl⟩
theorem lk_E_39 : LK "ForgoneShop$Exchange" 39 y_E_leastFrom := Or.inl (gw_in 678 (by decide +kernel) rfl)
theorem lk_E_81 : LK "ForgoneShop$Exchange" 81 y_E_nextThing := Or.inl (gw_in 682 (by decide +kernel) rfl)
theorem lk_E_70 : LK "ForgoneShop$Exchange" 70 y_E_leftFor := Or.inl (gw_in 686 (by decide +kernel) rfl)
theorem lk_E_85 : LK "ForgoneShop$Exchange" 85 y_E_rueFrom := Or.inl (gw_in 690 (by decide +kernel) rfl)
theorem lk_E_77 : LK "ForgoneShop$Exchange" 77 y_E_rueBy := Or.inl (gw_in 694 (by decide +kernel) rfl)
theorem lk_E_50 : LK "ForgoneShop$Exchange" 50 y_E_giveOut := Or.inl (gw_in 699 (by decide +kernel) rfl)
theorem lk_E_94 : LK "ForgoneShop$Exchange" 94 y_E_firstBest := Or.inl (gw_in 703 (by decide +kernel) rfl)
theorem lk_W_89 : LK "ForgoneShopLaw" 89 y_F_see := Or.inl (gw_in 707 (by decide +kernel) rfl)
theorem lk_F_233 : LK "ForgoneShop" 233 y_K_add := Or.inr ⟨"ForgoneShop", nw_in 711 (by decide +kernel) rfl⟩
theorem lk_K_25 : LK "ForgoneShop$Looks" 25 y_F_put := Or.inr ⟨"ForgoneShop", nw_in 715 (by decide +kernel) rfl⟩
theorem lk_W_93 : LK "ForgoneShopLaw" 93 y_F_forget := Or.inl (gw_in 716 (by decide +kernel) rfl)
theorem lk_W_97 : LK "ForgoneShopLaw" 97 y_F_kinds := Or.inl (gw_in 720 (by decide +kernel) rfl)
theorem lk_F_236 : LK "ForgoneShop" 236 y_F_fitsLooks := Or.inl (gw_in 724 (by decide +kernel) rfl)
theorem lk_W_101 : LK "ForgoneShopLaw" 101 y_F_sure := Or.inl (gw_in 728 (by decide +kernel) rfl)
theorem lk_F_240 : LK "ForgoneShop" 240 y_F_power := Or.inl (gw_in 732 (by decide +kernel) rfl)
theorem lk_F_244 : LK "ForgoneShop" 244 y_F_lowestPart := Or.inl (gw_in 735 (by decide +kernel) rfl)
theorem lk_F_294 : LK "ForgoneShop" 294 y_F_commonDivisor := Or.inl (gw_in 738 (by decide +kernel) rfl)
theorem lk_W_106 : LK "ForgoneShopLaw" 106 y_F_fine := Or.inl (gw_in 741 (by decide +kernel) rfl)
theorem lk_W_110 : LK "ForgoneShopLaw" 110 y_F_whims := Or.inl (gw_in 746 (by decide +kernel) rfl)
theorem lk_W_114 : LK "ForgoneShopLaw" 114 y_F_year := Or.inl (gw_in 750 (by decide +kernel) rfl)
theorem lk_F_250 : LK "ForgoneShop" 250 y_F_actByDraw := Or.inl (gw_in 754 (by decide +kernel) rfl)
theorem lk_F_254 : LK "ForgoneShop" 254 y_S_rueOfAll := Or.inr ⟨"ForgoneShop", nw_in 761 (by decide +kernel) rfl⟩
theorem lk_W_118 : LK "ForgoneShopLaw" 118 y_F_keep := Or.inl (gw_in 765 (by decide +kernel) rfl)
theorem lk_W_122 : LK "ForgoneShopLaw" 122 y_F_back := Or.inl (gw_in 769 (by decide +kernel) rfl)
theorem lk_W_126 : LK "ForgoneShopLaw" 126 y_F_count := Or.inl (gw_in 773 (by decide +kernel) rfl)
theorem lk_F_260 : LK "ForgoneShop" 260 y_S_howMany := Or.inr ⟨"ForgoneShop", nw_in 777 (by decide +kernel) rfl⟩
theorem lk_Z_77 : LK "ForgoneShopModel" 77 y_Z_sets := Or.inl (gw_in 787 (by decide +kernel) rfl)
theorem fl_Z_73 : FL "ForgoneShopModel" 73 9 0 := ⟨R_Z, T_Z, 39, t_Z, rfl, in_Z, t_Z_ok, n_Z, by decide, Or.inl (gw_in 791 (by decide +kernel) rfl)⟩
theorem fl_Z_81 : FL "ForgoneShopModel" 81 9 1 := ⟨R_Z, T_Z, 39, t_Z, rfl, in_Z, t_Z_ok, n_Z, by decide, Or.inl (gw_in 792 (by decide +kernel) rfl)⟩
theorem fl_Z_84 : FL "ForgoneShopModel" 84 9 2 := ⟨R_Z, T_Z, 39, t_Z, rfl, in_Z, t_Z_ok, n_Z, by decide, Or.inl (gw_in 793 (by decide +kernel) rfl)⟩
theorem fl_Z_90 : FL "ForgoneShopModel" 90 9 3 := ⟨R_Z, T_Z, 39, t_Z, rfl, in_Z, t_Z_ok, n_Z, by decide, Or.inl (gw_in 794 (by decide +kernel) rfl)⟩
theorem fl_Z_9 : FL "ForgoneShopModel" 9 9 4 := ⟨R_Z, T_Z, 39, t_Z, rfl, in_Z, t_Z_ok, n_Z, by decide, Or.inl (gw_in 795 (by decide +kernel) rfl)⟩
theorem fl_Z_13 : FL "ForgoneShopModel" 13 9 5 := ⟨R_Z, T_Z, 39, t_Z, rfl, in_Z, t_Z_ok, n_Z, by decide, Or.inl (gw_in 796 (by decide +kernel) rfl)⟩
theorem fl_Z_16 : FL "ForgoneShopModel" 16 9 6 := ⟨R_Z, T_Z, 39, t_Z, rfl, in_Z, t_Z_ok, n_Z, by decide, Or.inl (gw_in 797 (by decide +kernel) rfl)⟩
theorem fl_Z_19 : FL "ForgoneShopModel" 19 9 7 := ⟨R_Z, T_Z, 39, t_Z, rfl, in_Z, t_Z_ok, n_Z, by decide, Or.inl (gw_in 798 (by decide +kernel) rfl)⟩
theorem fl_Z_150 : FL "ForgoneShopModel" 150 9 8 := ⟨R_Z, T_Z, 39, t_Z, rfl, in_Z, t_Z_ok, n_Z, by decide, Or.inl (gw_in 799 (by decide +kernel) rfl)⟩
theorem fl_Z_87 : FL "ForgoneShopModel" 87 9 9 := ⟨R_Z, T_Z, 39, t_Z, rfl, in_Z, t_Z_ok, n_Z, by decide, Or.inl (gw_in 800 (by decide +kernel) rfl)⟩
theorem fl_Z_22 : FL "ForgoneShopModel" 22 9 10 := ⟨R_Z, T_Z, 39, t_Z, rfl, in_Z, t_Z_ok, n_Z, by decide, Or.inl (gw_in 801 (by decide +kernel) rfl)⟩
theorem fl_Z_25 : FL "ForgoneShopModel" 25 9 11 := ⟨R_Z, T_Z, 39, t_Z, rfl, in_Z, t_Z_ok, n_Z, by decide, Or.inl (gw_in 802 (by decide +kernel) rfl)⟩
theorem fl_Z_28 : FL "ForgoneShopModel" 28 9 12 := ⟨R_Z, T_Z, 39, t_Z, rfl, in_Z, t_Z_ok, n_Z, by decide, Or.inl (gw_in 803 (by decide +kernel) rfl)⟩
theorem fl_Z_31 : FL "ForgoneShopModel" 31 9 13 := ⟨R_Z, T_Z, 39, t_Z, rfl, in_Z, t_Z_ok, n_Z, by decide, Or.inl (gw_in 804 (by decide +kernel) rfl)⟩
theorem fl_Z_153 : FL "ForgoneShopModel" 153 9 14 := ⟨R_Z, T_Z, 39, t_Z, rfl, in_Z, t_Z_ok, n_Z, by decide, Or.inl (gw_in 805 (by decide +kernel) rfl)⟩
theorem fl_Z_34 : FL "ForgoneShopModel" 34 9 15 := ⟨R_Z, T_Z, 39, t_Z, rfl, in_Z, t_Z_ok, n_Z, by decide, Or.inl (gw_in 806 (by decide +kernel) rfl)⟩
theorem fl_Z_37 : FL "ForgoneShopModel" 37 9 16 := ⟨R_Z, T_Z, 39, t_Z, rfl, in_Z, t_Z_ok, n_Z, by decide, Or.inl (gw_in 807 (by decide +kernel) rfl)⟩
theorem fl_Z_40 : FL "ForgoneShopModel" 40 9 17 := ⟨R_Z, T_Z, 39, t_Z, rfl, in_Z, t_Z_ok, n_Z, by decide, Or.inl (gw_in 808 (by decide +kernel) rfl)⟩
theorem fl_Z_43 : FL "ForgoneShopModel" 43 9 18 := ⟨R_Z, T_Z, 39, t_Z, rfl, in_Z, t_Z_ok, n_Z, by decide, Or.inl (gw_in 809 (by decide +kernel) rfl)⟩
theorem fl_Z_97 : FL "ForgoneShopModel" 97 9 19 := ⟨R_Z, T_Z, 39, t_Z, rfl, in_Z, t_Z_ok, n_Z, by decide, Or.inl (gw_in 810 (by decide +kernel) rfl)⟩
theorem fl_Z_100 : FL "ForgoneShopModel" 100 9 20 := ⟨R_Z, T_Z, 39, t_Z, rfl, in_Z, t_Z_ok, n_Z, by decide, Or.inl (gw_in 811 (by decide +kernel) rfl)⟩
theorem fl_Z_114 : FL "ForgoneShopModel" 114 9 21 := ⟨R_Z, T_Z, 39, t_Z, rfl, in_Z, t_Z_ok, n_Z, by decide, Or.inl (gw_in 812 (by decide +kernel) rfl)⟩
theorem fl_Z_120 : FL "ForgoneShopModel" 120 9 22 := ⟨R_Z, T_Z, 39, t_Z, rfl, in_Z, t_Z_ok, n_Z, by decide, Or.inl (gw_in 813 (by decide +kernel) rfl)⟩
theorem fl_Z_123 : FL "ForgoneShopModel" 123 9 23 := ⟨R_Z, T_Z, 39, t_Z, rfl, in_Z, t_Z_ok, n_Z, by decide, Or.inl (gw_in 814 (by decide +kernel) rfl)⟩
theorem fl_Z_126 : FL "ForgoneShopModel" 126 9 24 := ⟨R_Z, T_Z, 39, t_Z, rfl, in_Z, t_Z_ok, n_Z, by decide, Or.inl (gw_in 815 (by decide +kernel) rfl)⟩
theorem fl_Z_129 : FL "ForgoneShopModel" 129 9 25 := ⟨R_Z, T_Z, 39, t_Z, rfl, in_Z, t_Z_ok, n_Z, by decide, Or.inl (gw_in 816 (by decide +kernel) rfl)⟩
theorem fl_Z_46 : FL "ForgoneShopModel" 46 9 26 := ⟨R_Z, T_Z, 39, t_Z, rfl, in_Z, t_Z_ok, n_Z, by decide, Or.inl (gw_in 817 (by decide +kernel) rfl)⟩
theorem fl_Z_49 : FL "ForgoneShopModel" 49 9 27 := ⟨R_Z, T_Z, 39, t_Z, rfl, in_Z, t_Z_ok, n_Z, by decide, Or.inl (gw_in 818 (by decide +kernel) rfl)⟩
theorem fl_Z_52 : FL "ForgoneShopModel" 52 9 28 := ⟨R_Z, T_Z, 39, t_Z, rfl, in_Z, t_Z_ok, n_Z, by decide, Or.inl (gw_in 819 (by decide +kernel) rfl)⟩
theorem fl_Z_111 : FL "ForgoneShopModel" 111 9 29 := ⟨R_Z, T_Z, 39, t_Z, rfl, in_Z, t_Z_ok, n_Z, by decide, Or.inl (gw_in 820 (by decide +kernel) rfl)⟩
theorem fl_Z_55 : FL "ForgoneShopModel" 55 9 30 := ⟨R_Z, T_Z, 39, t_Z, rfl, in_Z, t_Z_ok, n_Z, by decide, Or.inl (gw_in 821 (by decide +kernel) rfl)⟩
theorem fl_Z_156 : FL "ForgoneShopModel" 156 9 31 := ⟨R_Z, T_Z, 39, t_Z, rfl, in_Z, t_Z_ok, n_Z, by decide, Or.inl (gw_in 822 (by decide +kernel) rfl)⟩
theorem fl_Z_58 : FL "ForgoneShopModel" 58 9 32 := ⟨R_Z, T_Z, 39, t_Z, rfl, in_Z, t_Z_ok, n_Z, by decide, Or.inl (gw_in 823 (by decide +kernel) rfl)⟩
theorem fl_Z_233 : FL "ForgoneShopModel" 233 9 33 := ⟨R_Z, T_Z, 39, t_Z, rfl, in_Z, t_Z_ok, n_Z, by decide, Or.inl (gw_in 824 (by decide +kernel) rfl)⟩
theorem fl_Z_61 : FL "ForgoneShopModel" 61 9 34 := ⟨R_Z, T_Z, 39, t_Z, rfl, in_Z, t_Z_ok, n_Z, by decide, Or.inl (gw_in 825 (by decide +kernel) rfl)⟩
theorem fl_Z_64 : FL "ForgoneShopModel" 64 9 35 := ⟨R_Z, T_Z, 39, t_Z, rfl, in_Z, t_Z_ok, n_Z, by decide, Or.inl (gw_in 826 (by decide +kernel) rfl)⟩
theorem fl_Z_67 : FL "ForgoneShopModel" 67 9 36 := ⟨R_Z, T_Z, 39, t_Z, rfl, in_Z, t_Z_ok, n_Z, by decide, Or.inl (gw_in 827 (by decide +kernel) rfl)⟩
theorem fl_Z_70 : FL "ForgoneShopModel" 70 9 37 := ⟨R_Z, T_Z, 39, t_Z, rfl, in_Z, t_Z_ok, n_Z, by decide, Or.inl (gw_in 828 (by decide +kernel) rfl)⟩
theorem fl_Z_159 : FL "ForgoneShopModel" 159 9 38 := ⟨R_Z, T_Z, 39, t_Z, rfl, in_Z, t_Z_ok, n_Z, by decide, Or.inl (gw_in 829 (by decide +kernel) rfl)⟩
theorem lk_W_17 : LK "ForgoneShopLaw" 17 y_Z_write := Or.inl (gw_in 909 (by decide +kernel) rfl)
theorem lk_Z_93 : LK "ForgoneShopModel" 93 y_Z_in := Or.inl (gw_in 913 (by decide +kernel) rfl)
theorem lk_W_22 : LK "ForgoneShopLaw" 22 y_Z_wipe := Or.inl (gw_in 916 (by decide +kernel) rfl)
theorem lk_W_26 : LK "ForgoneShopLaw" 26 y_Z_fault := Or.inl (gw_in 920 (by decide +kernel) rfl)
theorem lk_Z_144 : LK "ForgoneShopModel" 144 y_Z_readsItem := Or.inl (gw_in 924 (by decide +kernel) rfl)
theorem lk_Z_103 : LK "ForgoneShopModel" 103 y_Z_here := Or.inl (gw_in 928 (by decide +kernel) rfl)
theorem lk_Z_132 : LK "ForgoneShopModel" 132 y_Z_readsPerson := Or.inl (gw_in 932 (by decide +kernel) rfl)
theorem lk_Z_117 : LK "ForgoneShopModel" 117 y_Z_number := Or.inl (gw_in 936 (by decide +kernel) rfl)
theorem lk_Z_107 : LK "ForgoneShopModel" 107 y_Z_isFigure := Or.inl (gw_in 940 (by decide +kernel) rfl)
theorem lk_Z_135 : LK "ForgoneShopModel" 135 y_Z_readsThing := Or.inl (gw_in 944 (by decide +kernel) rfl)
theorem lk_Z_138 : LK "ForgoneShopModel" 138 y_Z_readsRate := Or.inl (gw_in 948 (by decide +kernel) rfl)
theorem lk_Z_141 : LK "ForgoneShopModel" 141 y_Z_readsShop := Or.inl (gw_in 952 (by decide +kernel) rfl)
theorem lk_W_30 : LK "ForgoneShopLaw" 30 y_Z_lay := Or.inl (gw_in 956 (by decide +kernel) rfl)
theorem lk_Z_147 : LK "ForgoneShopModel" 147 y_Z_fault := Or.inl (gw_in 960 (by decide +kernel) rfl)
theorem lk_W_35 : LK "ForgoneShopLaw" 35 y_Z_person := Or.inl (gw_in 961 (by decide +kernel) rfl)
theorem lk_Z_173 : LK "ForgoneShopModel" 173 y_Z_isPerson := Or.inl (gw_in 965 (by decide +kernel) rfl)
theorem lk_Z_177 : LK "ForgoneShopModel" 177 y_Z_thoseWith := Or.inl (gw_in 969 (by decide +kernel) rfl)
theorem lk_W_39 : LK "ForgoneShopLaw" 39 y_Z_thing := Or.inl (gw_in 973 (by decide +kernel) rfl)
theorem lk_Z_180 : LK "ForgoneShopModel" 180 y_Z_isThing := Or.inl (gw_in 977 (by decide +kernel) rfl)
theorem lk_Z_183 : LK "ForgoneShopModel" 183 y_Z_price := Or.inl (gw_in 981 (by decide +kernel) rfl)
theorem lk_Z_162 : LK "ForgoneShopModel" 162 y_Z_rateOf := Or.inl (gw_in 985 (by decide +kernel) rfl)
theorem lk_W_43 : LK "ForgoneShopLaw" 43 y_Z_pays := Or.inl (gw_in 989 (by decide +kernel) rfl)
theorem lk_W_47 : LK "ForgoneShopLaw" 47 y_Z_sell := Or.inl (gw_in 993 (by decide +kernel) rfl)
theorem lk_Z_190 : LK "ForgoneShopModel" 190 y_Z_maySell := Or.inl (gw_in 997 (by decide +kernel) rfl)
theorem lk_Z_193 : LK "ForgoneShopModel" 193 y_Z_notes := Or.inl (gw_in 1001 (by decide +kernel) rfl)
theorem lk_Z_186 : LK "ForgoneShopModel" 186 y_Z_lays := Or.inl (gw_in 1005 (by decide +kernel) rfl)
theorem lk_Z_196 : LK "ForgoneShopModel" 196 y_Z_sells := Or.inl (gw_in 1009 (by decide +kernel) rfl)
theorem lk_W_51 : LK "ForgoneShopLaw" 51 y_Z_buyBack := Or.inl (gw_in 1013 (by decide +kernel) rfl)
theorem lk_Z_200 : LK "ForgoneShopModel" 200 y_Z_mayBuy := Or.inl (gw_in 1017 (by decide +kernel) rfl)
theorem lk_Z_203 : LK "ForgoneShopModel" 203 y_Z_buys := Or.inl (gw_in 1021 (by decide +kernel) rfl)
theorem lk_W_55 : LK "ForgoneShopLaw" 55 y_Z_pass := Or.inl (gw_in 1025 (by decide +kernel) rfl)
theorem lk_Z_206 : LK "ForgoneShopModel" 206 y_Z_goesOn := Or.inl (gw_in 1029 (by decide +kernel) rfl)
theorem lk_Z_170 : LK "ForgoneShopModel" 170 y_Z_passes := Or.inl (gw_in 1033 (by decide +kernel) rfl)
theorem lk_Z_166 : LK "ForgoneShopModel" 166 y_Z_nearThen := Or.inl (gw_in 1037 (by decide +kernel) rfl)
theorem lk_W_59 : LK "ForgoneShopLaw" 59 y_Z_undo := Or.inl (gw_in 1040 (by decide +kernel) rfl)
theorem lk_Z_209 : LK "ForgoneShopModel" 209 y_Z_takes := Or.inl (gw_in 1044 (by decide +kernel) rfl)
theorem lk_W_63 : LK "ForgoneShopLaw" 63 y_Z_behind := Or.inl (gw_in 1048 (by decide +kernel) rfl)
theorem lk_Z_212 : LK "ForgoneShopModel" 212 y_Z_begin := Or.inl (gw_in 1052 (by decide +kernel) rfl)
theorem lk_Z_215 : LK "ForgoneShopModel" 215 y_Z_putBack := Or.inl (gw_in 1056 (by decide +kernel) rfl)
theorem lk_W_67 : LK "ForgoneShopLaw" 67 y_Z_heard := Or.inl (gw_in 1060 (by decide +kernel) rfl)
theorem lk_Z_218 : LK "ForgoneShopModel" 218 y_Z_nearIn := Or.inl (gw_in 1064 (by decide +kernel) rfl)
theorem lk_W_72 : LK "ForgoneShopLaw" 72 y_Z_sum := Or.inl (gw_in 1068 (by decide +kernel) rfl)
theorem lk_Z_225 : LK "ForgoneShopModel" 225 y_Z_takable := Or.inl (gw_in 1072 (by decide +kernel) rfl)
theorem lk_Z_229 : LK "ForgoneShopModel" 229 y_Z_sumOf := Or.inl (gw_in 1077 (by decide +kernel) rfl)
theorem lk_Z_221 : LK "ForgoneShopModel" 221 y_Z_has := Or.inl (gw_in 1081 (by decide +kernel) rfl)
theorem lk_W_76 : LK "ForgoneShopLaw" 76 y_Z_take := Or.inl (gw_in 1084 (by decide +kernel) rfl)
theorem lk_W_80 : LK "ForgoneShopLaw" 80 y_Z_when := Or.inl (gw_in 1088 (by decide +kernel) rfl)
theorem lk_W_84 : LK "ForgoneShopLaw" 84 y_Z_pair := Or.inl (gw_in 1092 (by decide +kernel) rfl)
theorem lk_W_88 : LK "ForgoneShopLaw" 88 y_Z_swap := Or.inl (gw_in 1096 (by decide +kernel) rfl)
theorem lk_Z_243 : LK "ForgoneShopModel" 243 y_Z_setCosts := Or.inl (gw_in 1100 (by decide +kernel) rfl)
theorem lk_Z_236 : LK "ForgoneShopModel" 236 y_Z_bits := Or.inl (gw_in 1104 (by decide +kernel) rfl)
theorem lk_Z_239 : LK "ForgoneShopModel" 239 y_Z_costOf := Or.inl (gw_in 1107 (by decide +kernel) rfl)
theorem lk_W_92 : LK "ForgoneShopLaw" 92 y_Z_see := Or.inl (gw_in 1111 (by decide +kernel) rfl)
theorem lk_W_96 : LK "ForgoneShopLaw" 96 y_Z_forget := Or.inl (gw_in 1115 (by decide +kernel) rfl)
theorem lk_W_100 : LK "ForgoneShopLaw" 100 y_Z_kinds := Or.inl (gw_in 1119 (by decide +kernel) rfl)
theorem lk_Z_246 : LK "ForgoneShopModel" 246 y_Z_nearBy := Or.inl (gw_in 1123 (by decide +kernel) rfl)
theorem lk_W_105 : LK "ForgoneShopLaw" 105 y_Z_sure := Or.inl (gw_in 1127 (by decide +kernel) rfl)
theorem lk_Z_249 : LK "ForgoneShopModel" 249 y_Z_times := Or.inl (gw_in 1131 (by decide +kernel) rfl)
theorem lk_Z_255 : LK "ForgoneShopModel" 255 y_Z_common := Or.inl (gw_in 1135 (by decide +kernel) rfl)
theorem lk_W_109 : LK "ForgoneShopLaw" 109 y_Z_fine := Or.inl (gw_in 1138 (by decide +kernel) rfl)
theorem lk_W_113 : LK "ForgoneShopLaw" 113 y_Z_whims := Or.inl (gw_in 1142 (by decide +kernel) rfl)
theorem lk_W_117 : LK "ForgoneShopLaw" 117 y_Z_year := Or.inl (gw_in 1146 (by decide +kernel) rfl)
theorem lk_W_121 : LK "ForgoneShopLaw" 121 y_Z_keep := Or.inl (gw_in 1153 (by decide +kernel) rfl)
theorem lk_W_125 : LK "ForgoneShopLaw" 125 y_Z_back := Or.inl (gw_in 1157 (by decide +kernel) rfl)
theorem lk_W_129 : LK "ForgoneShopLaw" 129 y_Z_count := Or.inl (gw_in 1161 (by decide +kernel) rfl)
theorem lk_Z_265 : LK "ForgoneShopModel" 265 y_Z_thoseIn := Or.inl (gw_in 1165 (by decide +kernel) rfl)
theorem fw_0_4 : FW 0 4 (.int) := by intro C T N h; cases h; exact ⟨rfl, by decide +kernel⟩
theorem fw_0_5 : FW 0 5 (.int) := by intro C T N h; cases h; exact ⟨rfl, by decide +kernel⟩
theorem fw_1_5 : FW 1 5 (.int) := by intro C T N h; cases h; exact ⟨rfl, by decide +kernel⟩
theorem fw_1_6 : FW 1 6 (.int) := by intro C T N h; cases h; exact ⟨rfl, by decide +kernel⟩
theorem fw_1_7 : FW 1 7 (.int) := by intro C T N h; cases h; exact ⟨rfl, by decide +kernel⟩
theorem fw_2_1 : FW 2 1 (.int) := by intro C T N h; cases h; exact ⟨rfl, by decide +kernel⟩
theorem fw_3_3 : FW 3 3 (.int) := by intro C T N h; cases h; exact ⟨rfl, by decide +kernel⟩
theorem fw_4_1 : FW 4 1 (.int) := by intro C T N h; cases h; exact ⟨rfl, by decide +kernel⟩
theorem fw_4_2 : FW 4 2 (.int) := by intro C T N h; cases h; exact ⟨rfl, by decide +kernel⟩
theorem fw_5_0 : FW 5 0 (.int) := by intro C T N h; cases h; exact ⟨rfl, by decide +kernel⟩
theorem fw_5_2 : FW 5 2 (.int) := by intro C T N h; cases h; exact ⟨rfl, by decide +kernel⟩
theorem fw_5_7 : FW 5 7 (.int) := by intro C T N h; cases h; exact ⟨rfl, by decide +kernel⟩
theorem fw_5_9 : FW 5 9 (.int) := by intro C T N h; cases h; exact ⟨rfl, by decide +kernel⟩
theorem fw_5_10 : FW 5 10 (.int) := by intro C T N h; cases h; exact ⟨rfl, by decide +kernel⟩
theorem fw_6_1 : FW 6 1 (.int) := by intro C T N h; cases h; exact ⟨rfl, by decide +kernel⟩
theorem fw_7_0 : FW 7 0 (.int) := by intro C T N h; cases h; exact ⟨rfl, by decide +kernel⟩
theorem fw_7_1 : FW 7 1 (.int) := by intro C T N h; cases h; exact ⟨rfl, by decide +kernel⟩
theorem fw_8_2 : FW 8 2 (.object "ForgoneShop$Plan") := by intro C T N h; cases h; exact ⟨rfl, by decide +kernel⟩
theorem fw_8_3 : FW 8 3 (.object "ForgoneShop$Plan") := by intro C T N h; cases h; exact ⟨rfl, by decide +kernel⟩
theorem fw_9_0 : FW 9 0 (.int) := by intro C T N h; cases h; exact ⟨rfl, by decide +kernel⟩
theorem fw_9_1 : FW 9 1 (.int) := by intro C T N h; cases h; exact ⟨rfl, by decide +kernel⟩
theorem fw_9_2 : FW 9 2 (.int) := by intro C T N h; cases h; exact ⟨rfl, by decide +kernel⟩
theorem fw_9_3 : FW 9 3 (.int) := by intro C T N h; cases h; exact ⟨rfl, by decide +kernel⟩
theorem fw_9_8 : FW 9 8 (.int) := by intro C T N h; cases h; exact ⟨rfl, by decide +kernel⟩
theorem fw_9_9 : FW 9 9 (.int) := by intro C T N h; cases h; exact ⟨rfl, by decide +kernel⟩
theorem fw_9_14 : FW 9 14 (.int) := by intro C T N h; cases h; exact ⟨rfl, by decide +kernel⟩
theorem fw_9_19 : FW 9 19 (.int) := by intro C T N h; cases h; exact ⟨rfl, by decide +kernel⟩
theorem fw_9_20 : FW 9 20 (.int) := by intro C T N h; cases h; exact ⟨rfl, by decide +kernel⟩
theorem fw_9_21 : FW 9 21 (.int) := by intro C T N h; cases h; exact ⟨rfl, by decide +kernel⟩
theorem fw_9_22 : FW 9 22 (.int) := by intro C T N h; cases h; exact ⟨rfl, by decide +kernel⟩
theorem fw_9_23 : FW 9 23 (.int) := by intro C T N h; cases h; exact ⟨rfl, by decide +kernel⟩
theorem fw_9_24 : FW 9 24 (.int) := by intro C T N h; cases h; exact ⟨rfl, by decide +kernel⟩
theorem fw_9_25 : FW 9 25 (.int) := by intro C T N h; cases h; exact ⟨rfl, by decide +kernel⟩
theorem fw_9_29 : FW 9 29 (.int) := by intro C T N h; cases h; exact ⟨rfl, by decide +kernel⟩
theorem fw_9_31 : FW 9 31 (.int) := by intro C T N h; cases h; exact ⟨rfl, by decide +kernel⟩
theorem fw_9_33 : FW 9 33 (.int) := by intro C T N h; cases h; exact ⟨rfl, by decide +kernel⟩
theorem fw_9_38 : FW 9 38 (.int) := by intro C T N h; cases h; exact ⟨rfl, by decide +kernel⟩
theorem kc_F_248 : (Jvm.Cond.constantLong "ForgoneShop" (248 : Nat) (999 : Int64)) ∈ gw := gw_in 745 (by decide +kernel) rfl
theorem kc_F_276 : (Jvm.Cond.constantLong "ForgoneShop" (276 : Nat) (7919 : Int64)) ∈ gw := gw_in 758 (by decide +kernel) rfl
theorem kc_F_278 : (Jvm.Cond.constantLong "ForgoneShop" (278 : Nat) (6151 : Int64)) ∈ gw := gw_in 759 (by decide +kernel) rfl
theorem kc_F_280 : (Jvm.Cond.constantLong "ForgoneShop" (280 : Nat) (65521 : Int64)) ∈ gw := gw_in 760 (by decide +kernel) rfl
theorem kc_Z_228 : (Jvm.Cond.constant "ForgoneShopModel" (228 : Nat) (1048576 : Int32)) ∈ gw := gw_in 1076 (by decide +kernel) rfl
theorem kc_Z_253 : (Jvm.Cond.constantLong "ForgoneShopModel" (253 : Nat) (10 : Int64)) ∈ gw := gw_in 1134 (by decide +kernel) rfl
theorem kc_Z_259 : (Jvm.Cond.constantLong "ForgoneShopModel" (259 : Nat) (7919 : Int64)) ∈ gw := gw_in 1150 (by decide +kernel) rfl
theorem kc_Z_261 : (Jvm.Cond.constantLong "ForgoneShopModel" (261 : Nat) (6151 : Int64)) ∈ gw := gw_in 1151 (by decide +kernel) rfl
theorem kc_Z_263 : (Jvm.Cond.constantLong "ForgoneShopModel" (263 : Nat) (65521 : Int64)) ∈ gw := gw_in 1152 (by decide +kernel) rfl
end
section
/-! an abstract world: every object and array that the system ever holds, by a fixed number; what stands in it as whole numbers -/
abbrev AV : Type := Int ⊕ (Int ⊕ (Nat ⊕ Option Nat))
abbrev vI (z : Int) : AV := Sum.inl z
abbrev vL (z : Int) : AV := Sum.inr (Sum.inl z)
abbrev vR (k : Nat) : AV := Sum.inr (Sum.inr (Sum.inl k))
/-- null, or a cell outside the world -/
abbrev vX (v : Option Nat) : AV := Sum.inr (Sum.inr (Sum.inr v))
abbrev Wd : Type := Nat → Int → Int
def up (σ : Wd) (k : Nat) (i x : Int) : Wd := fun a b => if a = k ∧ b = i then x else σ a b
def inR (z : Int) : Prop := -2147483648 ≤ z ∧ z < 2147483648
def inL (z : Int) : Prop := -9223372036854775808 ≤ z ∧ z < 9223372036854775808
def R32 (σ : Wd) : Prop := ∀ k i, inR (σ k i)
abbrev GE : Type := va_G × (ClassId × (ClassId × (ClassId × (Nat → Nat))))
def gD (G : GE) : va_G := G.1
def gI (G : GE) : ClassId := G.2.1
def gC (G : GE) : ClassId := G.2.2.1
def gS (G : GE) : ClassId := G.2.2.2.1
def gA (G : GE) : Nat → Nat := G.2.2.2.2
def cv (G : GE) : AV → Value
  | .inl z => .int (Int32.ofInt z)
  | .inr (.inl z) => .long (Int64.ofInt z)
  | .inr (.inr (.inl k)) => .ref (gA G k)
  | .inr (.inr (.inr none)) => .null
  | .inr (.inr (.inr (some b))) => .ref b
def avc : AV → Nat
  | .inl _ => 1
  | .inr (.inl _) => 2
  | .inr (.inr (.inl _)) => 1
  | .inr (.inr (.inr _)) => 1
theorem cv_cat (G : GE) (a : AV) : (cv G a).category = avc a := by
  rcases a with z | z | k | (_ | b) <;> rfl
theorem cv_cats (G : GE) (st : List AV) : ((st.map (cv G)).map fun v => v.category) = st.map avc := by
  rw [List.map_map]; exact List.map_congr_left (fun a _ => cv_cat G a)
def kdL : List Nat := [8, 2, 2200, 6, 1004, 5, 1005, 1008, 1008, 1008, 1008, 1012, 5, 1005, 1008, 1008, 1008, 1008, 1012, 7, 1005, 1005, 1008, 1008, 7, 1005, 1005, 1008, 1008, 4, 3000, 7, 1005, 1005, 1008, 1008, 7, 1005, 1005, 1008, 1008, 7, 1005, 1005, 1008, 1008, 7, 1005, 1005, 1008, 1008, 7, 1005, 1005, 1008, 1008, 7, 1005, 1005, 1008, 1008, 7, 1005, 1005, 1008, 1008, 7, 1005, 1005, 1008, 1008, 4, 3000, 7, 1005, 1005, 1008, 1008, 7, 1005, 1005, 1008, 1008, 7, 1005, 1005, 1008, 1008, 7, 1005, 1005, 1008, 1008, 7, 1005, 1005, 1008, 1008, 7, 1005, 1005, 1008, 1008, 7, 1005, 1005, 1008, 1008, 7, 1005, 1005, 1008, 1008, 3, 1006, 1006, 1006, 0, 1008, 1008, 1256, 1256, 1, 1008, 1005, 1005, 1108, 1008, 9, 1012, 1008, 1008, 1008, 1005, 1005, 1008, 1008, 1006, 1006, 1006, 1200, 1005, 1032, 1012, 1224, 1028, 1008, 1008, 1256, 1056]
def kd (k : Nat) : Nat := kdL.getD k 9998
def NO : Nat := 150
def flL : List (List Nat) := [[1, 2, 3, 4, 0, 0], [1, 2, 3, 4, 5, 0, 0, 0], [1, 0], [1, 2, 3, 0], [1, 0, 0], [0, 1, 0, 2, 3, 4, 5, 0, 6, 0, 0], [1, 0], [0, 0, 1, 2, 3, 4], [1, 3, 9999, 9999, 19, 24, 29, 71, 113, 117, 122], [0, 0, 0, 0, 1, 2, 3, 4, 0, 0, 5, 6, 7, 8, 0, 9, 10, 11, 12, 0, 0, 0, 0, 0, 0, 0, 13, 14, 15, 0, 16, 0, 17, 0, 18, 19, 20, 21, 0]]
def flds (ci : Nat) : List Nat := flL.getD ci []
def fvl (G : GE) (σ : Wd) (k j d : Nat) : Value := if d = 0 then .int (Int32.ofInt (σ k (j : Int))) else if d = 9999 then .ref (gA G (σ k (j : Int)).toNat) else .ref (gA G (k + d))
def fsl (G : GE) (σ : Wd) (k : Nat) : Nat → List Nat → List Value
  | _, [] => []
  | j, d :: r => fvl G σ k j d :: fsl G σ k (j + 1) r
def ent (G : GE) (σ : Wd) (k : Nat) : va_E :=
  if kd k < 1000 then .inr (kd k, fsl G σ k 0 (flds (kd k)))
  else if kd k < 2000 then .inl (gI G, kd k - 1000, .inl (fun j => Int32.ofInt (σ k (j : Int))))
  else if kd k < 3000 then .inl (gC G, kd k - 2000, .inl (fun j => Int32.ofInt (σ k (j : Int))))
  else .inl (gS G, 8, .inr (.inr (.inr (.inr (fun j => some (gA G (k + 1 + 5 * j)))))))
def wsO (G : GE) (σ : Wd) : va_W := (List.range NO).map (fun k => (gA G k, ent G σ k))
def tysO (G : GE) : List (ClassId × FieldType) := [(gI G, .int), (gC G, .char), (gS G, .object "ForgoneShop$Stand")]
def apart (G : GE) : Prop := ∀ i j, i < NO → j < NO → gA G i = gA G j → i = j
def AG (G : GE) : Nat → Prop := fun q => ∃ k, k < NO ∧ q = gA G k
def PK (G : GE) (U : State) : Prop := va_K (gD G) CL (tysO G) U ∧ ∀ wd ∈ nw, va_Nw wd U
theorem wsO_at (G : GE) (σ : Wd) {k : Nat} (hk : k < NO) : (wsO G σ)[k]? = some (gA G k, ent G σ k) := by
  simp [wsO, hk]
theorem wsO_set (G : GE) (σ σ' : Wd) {k : Nat} {e : va_E} (hk : k < NO) (h0 : ent G σ' k = e) (he : ∀ j, j ≠ k → ent G σ' j = ent G σ j) : (wsO G σ).set k (gA G k, e) = wsO G σ' := by
  subst h0
  apply List.ext_getElem?
  intro j
  rw [List.getElem?_set]
  by_cases hj : k = j
  · subst hj
    rw [if_pos rfl, wsO_at G σ' hk]
    simp [wsO, hk]
  · rw [if_neg hj]
    by_cases hn : j < NO
    · rw [wsO_at G σ hn, wsO_at G σ' hn, he j (fun h => hj h.symm)]
    · simp [wsO, hn]
theorem apart_D {G : GE} (h : apart G) (σ : Wd) : va_D (AG G) (wsO G σ) := by
  constructor
  · intro i j p q hp hq hpq
    have hi : i < NO := by
      have := (List.getElem?_eq_some_iff.mp hp).1
      simpa [wsO] using this
    have hj : j < NO := by
      have := (List.getElem?_eq_some_iff.mp hq).1
      simpa [wsO] using this
    rw [wsO_at G σ hi] at hp
    rw [wsO_at G σ hj] at hq
    cases hp; cases hq
    exact h i j hi hj hpq
  · intro k q hq
    have hk : k < NO := by
      have := (List.getElem?_eq_some_iff.mp hq).1
      simpa [wsO] using this
    rw [wsO_at G σ hk] at hq
    cases hq
    exact ⟨k, hk, rfl⟩
theorem kd_lt {k n : Nat} (h : kd k = n) (hn : n < 9998) : k < NO := by
  by_cases hk : k < NO
  · exact hk
  · have : kd k = 9998 := by
      unfold kd
      rw [List.getD_eq_getElem?_getD, List.getElem?_eq_none (show kdL.length ≤ k from Nat.le_trans (show kdL.length ≤ NO by decide +kernel) (Nat.not_lt.mp hk))]
      rfl
    omega
theorem fsl_at (G : GE) (σ : Wd) (k : Nat) : ∀ (l : List Nat) (j0 j d : Nat), l[j]? = some d → (fsl G σ k j0 l)[j]? = some (fvl G σ k (j0 + j) d)
  | [], _, _, _, h => by simp at h
  | a :: r, j0, 0, d, h => by
    simp at h; subst h; rfl
  | a :: r, j0, j + 1, d, h => by
    have h1 : r[j]? = some d := by simpa using h
    have h2 := fsl_at G σ k r (j0 + 1) j d h1
    show (fsl G σ k (j0 + 1) r)[j]? = _
    rw [h2]; congr 2; omega
theorem fsl_len (G : GE) (σ : Wd) (k : Nat) : ∀ (l : List Nat) (j0 : Nat), (fsl G σ k j0 l).length = l.length
  | [], _ => rfl
  | _ :: r, j0 => by show (fsl G σ k (j0 + 1) r).length + 1 = _; rw [fsl_len G σ k r]; rfl
theorem fvl_up (G : GE) (σ : Wd) (k : Nat) (i x : Int) (k2 j d : Nat) (h : k2 ≠ k ∨ (j : Int) ≠ i) : fvl G (up σ k i x) k2 j d = fvl G σ k2 j d := by
  have e : up σ k i x k2 (j : Int) = σ k2 (j : Int) := by
    unfold up
    rw [if_neg]
    rintro ⟨h1, h2⟩
    rcases h with h | h
    · exact h h1
    · exact h h2
  unfold fvl
  rw [e]
theorem fsl_up_ne (G : GE) (σ : Wd) (k : Nat) (i x : Int) (k2 : Nat) (h : k2 ≠ k) : ∀ (l : List Nat) (j0 : Nat), fsl G (up σ k i x) k2 j0 l = fsl G σ k2 j0 l
  | [], _ => rfl
  | d :: r, j0 => by
    show fvl _ _ _ _ _ :: _ = fvl _ _ _ _ _ :: _
    rw [fvl_up G σ k i x k2 j0 d (Or.inl h), fsl_up_ne G σ k i x k2 h r (j0 + 1)]
theorem fsl_up_lt (G : GE) (σ : Wd) (k : Nat) (i x : Int) : ∀ (l : List Nat) (j0 : Nat), i < (j0 : Int) → fsl G (up σ k i x) k j0 l = fsl G σ k j0 l
  | [], _, _ => rfl
  | d :: r, j0, h => by
    show fvl _ _ _ _ _ :: _ = fvl _ _ _ _ _ :: _
    rw [fvl_up G σ k i x k j0 d (Or.inr (by omega)), fsl_up_lt G σ k i x r (j0 + 1) (by omega)]
theorem fsl_up (G : GE) (σ : Wd) (k : Nat) (x : Int) : ∀ (l : List Nat) (j0 j d : Nat), l[j]? = some d → fsl G (up σ k ((j0 + j : Nat) : Int) x) k j0 l = (fsl G σ k j0 l).set j (fvl G (up σ k ((j0 + j : Nat) : Int) x) k (j0 + j) d)
  | [], _, _, _, h => by simp at h
  | a :: r, j0, 0, d, h => by
    simp at h; subst h
    show fvl _ _ _ _ _ :: _ = fvl _ _ _ _ _ :: _
    rw [fsl_up_lt G σ k _ x r (j0 + 1) (by omega)]
    try rfl
  | a :: r, j0, j + 1, d, h => by
    have h1 : r[j]? = some d := by simpa using h
    have h2 := fsl_up G σ k x r (j0 + 1) j d h1
    have e : j0 + 1 + j = j0 + (j + 1) := by omega
    rw [e] at h2
    show fvl _ _ _ _ _ :: _ = fvl _ _ _ _ _ :: _
    rw [fvl_up G σ k _ x k j0 a (Or.inr (by omega)), h2]
    try rfl
theorem ent_up_ne (G : GE) (σ : Wd) (k : Nat) (i x : Int) (j : Nat) (h : j ≠ k) : ent G (up σ k i x) j = ent G σ j := by
  have e : ∀ b, up σ k i x j b = σ j b := fun b => by
    unfold up; rw [if_neg]; exact fun q => h q.1
  unfold ent
  rw [fsl_up_ne G σ k i x j h]
  simp only [e]
theorem up_R {σ : Wd} {k : Nat} {i x : Int} (h : R32 σ) (hx : inR x) : R32 (up σ k i x) := by
  intro a b
  unfold up
  split
  · exact hx
  · exact h a b
/-! whole numbers and the machine's -/
theorem oi_toInt {z : Int} (h : inR z) : (Int32.ofInt z).toInt = z := Int32.toInt_ofInt_of_le (by have := h.1; omega) (by have := h.2; omega)
theorem oi_toIntL {z : Int} (h : inL z) : (Int64.ofInt z).toInt = z := Int64.toInt_ofInt_of_le (by have := h.1; omega) (by have := h.2; omega)
theorem oi_lt {a b : Int} (ha : inR a) (hb : inR b) : Int32.ofInt a < Int32.ofInt b ↔ a < b := by rw [Int32.lt_iff_toInt_lt, oi_toInt ha, oi_toInt hb]
theorem oi_le {a b : Int} (ha : inR a) (hb : inR b) : Int32.ofInt a ≤ Int32.ofInt b ↔ a ≤ b := by rw [Int32.le_iff_toInt_le, oi_toInt ha, oi_toInt hb]
theorem oi_eq {a b : Int} (ha : inR a) (hb : inR b) : Int32.ofInt a = Int32.ofInt b ↔ a = b := by rw [← Int32.toInt_inj, oi_toInt ha, oi_toInt hb]
theorem oi_0 : Int32.ofInt 0 = 0 := rfl
theorem oi_ltL {a b : Int} (ha : inL a) (hb : inL b) : Int64.ofInt a < Int64.ofInt b ↔ a < b := by rw [Int64.lt_iff_toInt_lt, oi_toIntL ha, oi_toIntL hb]
theorem oi_eqL {a b : Int} (ha : inL a) (hb : inL b) : Int64.ofInt a = Int64.ofInt b ↔ a = b := by rw [← Int64.toInt_inj, oi_toIntL ha, oi_toIntL hb]
theorem oi_nat {i : Int} (h0 : 0 ≤ i) (h : inR i) : (Int32.ofInt i).toNatClampNeg = i.toNat := by
  unfold Int32.toNatClampNeg
  first | (show (Int32.ofInt i).toInt.toNat = _; rw [oi_toInt h]) | (rw [oi_toInt h])
theorem oi_in {i : Int} {n : Nat} (h0 : 0 ≤ i) (hn : i < n) (hb : n < 2147483648) : vp_in (Int32.ofInt i) n := by
  have hR : inR i := ⟨by omega, by omega⟩
  rw [vp_in_iff, oi_toInt hR]; exact ⟨h0, hn⟩
theorem R0 : inR 0 := ⟨by decide, by decide⟩
theorem oi_of (x : Int32) : Int32.ofInt x.toInt = x := Int32.ofInt_toInt x
theorem oi_R (x : Int32) : inR x.toInt := ⟨Int32.le_toInt x, Int32.toInt_lt x⟩
theorem oi_nI (n : Nat) : Int32.ofInt (n : Int) = nI n := Int32.ofInt_eq_ofNat
theorem oi_lN (n : Nat) : Int64.ofInt (n : Int) = lN n := Int64.ofInt_eq_ofNat
theorem oi_ne {b : Int} (h : inR b) (h0 : b ≠ 0) : ¬ Int32.ofInt b = 0 := fun q => h0 ((oi_eq h R0).mp q)
theorem oi_neL {b : Int} (h : inL b) (h0 : b ≠ 0) : ¬ Int64.ofInt b = 0 := fun q => h0 ((oi_eqL h ⟨by decide, by decide⟩).mp q)
theorem oi_div {a b : Int} (ha : inR a) (hb : inR b) (h0 : 0 ≤ a) (h1 : 0 < b) : Int32.ofInt a / Int32.ofInt b = Int32.ofInt (a / b) := by
  obtain ⟨x, rfl⟩ := Int.eq_ofNat_of_zero_le h0
  obtain ⟨y, rfl⟩ := Int.eq_ofNat_of_zero_le (Int.le_of_lt h1)
  obtain ⟨-, ha⟩ := ha; obtain ⟨-, hb⟩ := hb
  rw [oi_nI, oi_nI, pk_div (by omega) (by omega) (by omega), ← oi_nI]; rfl
theorem oi_rem {a b : Int} (ha : inR a) (hb : inR b) (h0 : 0 ≤ a) (h1 : 0 < b) : Int32.ofInt a - Int32.ofInt a / Int32.ofInt b * Int32.ofInt b = Int32.ofInt (a % b) := by
  obtain ⟨x, rfl⟩ := Int.eq_ofNat_of_zero_le h0
  obtain ⟨y, rfl⟩ := Int.eq_ofNat_of_zero_le (Int.le_of_lt h1)
  obtain ⟨-, ha⟩ := ha; obtain ⟨-, hb⟩ := hb
  rw [oi_nI, oi_nI, pk_rem (by omega) (by omega) (by omega), ← oi_nI]; rfl
theorem oi_divL {a b : Int} (ha : inL a) (hb : inL b) (h0 : 0 ≤ a) (h1 : 0 < b) : Int64.ofInt a / Int64.ofInt b = Int64.ofInt (a / b) := by
  obtain ⟨x, rfl⟩ := Int.eq_ofNat_of_zero_le h0
  obtain ⟨y, rfl⟩ := Int.eq_ofNat_of_zero_le (Int.le_of_lt h1)
  obtain ⟨-, ha⟩ := ha; obtain ⟨-, hb⟩ := hb
  rw [oi_lN, oi_lN, pk_lDiv (by omega) (by omega) (by omega), ← oi_lN]; rfl
theorem oi_remL {a b : Int} (ha : inL a) (hb : inL b) (h0 : 0 ≤ a) (h1 : 0 < b) : Int64.ofInt a - Int64.ofInt a / Int64.ofInt b * Int64.ofInt b = Int64.ofInt (a % b) := by
  obtain ⟨x, rfl⟩ := Int.eq_ofNat_of_zero_le h0
  obtain ⟨y, rfl⟩ := Int.eq_ofNat_of_zero_le (Int.le_of_lt h1)
  obtain ⟨-, ha⟩ := ha; obtain ⟨-, hb⟩ := hb
  rw [oi_lN, oi_lN, pk_lRem (by omega) (by omega) (by omega), ← oi_lN]; rfl
theorem oi_bv {a : Int} (h0 : 0 ≤ a) (h : inR a) : (Int32.ofInt a).toBitVec = BitVec.ofNat 32 a.toNat := by
  obtain ⟨x, rfl⟩ := Int.eq_ofNat_of_zero_le h0
  rw [oi_nI]; rfl
theorem oi_and {a b : Int} (ha : inR a) (hb : inR b) (ha0 : 0 ≤ a) (hb0 : 0 ≤ b) : Int32.ofInt a &&& Int32.ofInt b = Int32.ofInt ((a.toNat &&& b.toNat : Nat) : Int) := by
  apply Int32.toBitVec_inj.mp
  rw [Int32.toBitVec_and, oi_bv ha0 ha, oi_bv hb0 hb, oi_nI]
  show _ = BitVec.ofNat 32 _
  apply BitVec.eq_of_toNat_eq
  simp only [BitVec.toNat_and, BitVec.toNat_ofNat]
  rw [Nat.and_mod_two_pow]
theorem oi_or {a b : Int} (ha : inR a) (hb : inR b) (ha0 : 0 ≤ a) (hb0 : 0 ≤ b) : Int32.ofInt a ||| Int32.ofInt b = Int32.ofInt ((a.toNat ||| b.toNat : Nat) : Int) := by
  apply Int32.toBitVec_inj.mp
  rw [Int32.toBitVec_or, oi_bv ha0 ha, oi_bv hb0 hb, oi_nI]
  show _ = BitVec.ofNat 32 _
  apply BitVec.eq_of_toNat_eq
  simp only [BitVec.toNat_or, BitVec.toNat_ofNat]
  rw [Nat.or_mod_two_pow]
theorem oi_not (a : Int) : Int32.ofInt a ^^^ Int32.ofInt (-1) = Int32.ofInt (-1 - a) := by
  apply Int32.toBitVec_inj.mp
  rw [Int32.toBitVec_xor]
  show BitVec.ofInt 32 a ^^^ BitVec.ofInt 32 (-1) = BitVec.ofInt 32 (-1 - a)
  have e : BitVec.ofInt 32 (-1) = BitVec.allOnes 32 := by decide
  rw [e, BitVec.xor_allOnes]
  apply BitVec.eq_of_toInt_eq
  rw [BitVec.not_eq_neg_add, BitVec.toInt_sub, BitVec.toInt_neg, BitVec.toInt_ofInt, BitVec.toInt_ofInt]
  simp
  rw [show -1 - a = -a - 1 by omega]
theorem oi_andn {a b : Int} (ha : inR a) (hb : inR b) (ha0 : 0 ≤ a) (hb0 : 0 ≤ b) : Int32.ofInt a &&& Int32.ofInt (-1 - b) = Int32.ofInt ((a.toNat - (a.toNat &&& b.toNat) : Nat) : Int) := by
  rw [← oi_not]
  apply Int32.toBitVec_inj.mp
  rw [Int32.toBitVec_and, Int32.toBitVec_xor, oi_bv ha0 ha, oi_bv hb0 hb, oi_nI]
  have e : (Int32.ofInt (-1)).toBitVec = BitVec.allOnes 32 := by decide
  rw [e, BitVec.xor_allOnes]
  show _ = BitVec.ofNat 32 _
  obtain ⟨-, ha⟩ := ha; obtain ⟨-, hb⟩ := hb
  generalize hx : a.toNat = x
  generalize hy : b.toNat = y
  have hx2 : x < 2147483648 := by omega
  have hy2 : y < 2147483648 := by omega
  have eX : (BitVec.ofNat 32 x).toNat = x := by rw [BitVec.toNat_ofNat]; omega
  have eY : (BitVec.ofNat 32 y).toNat = y := by rw [BitVec.toNat_ofNat]; omega
  generalize BitVec.ofNat 32 x = X at eX ⊢
  generalize BitVec.ofNat 32 y = Y at eY ⊢
  have hz : (X &&& Y) &&& (X &&& ~~~Y) = 0#32 := by
    apply BitVec.eq_of_getLsbD_eq
    intro i hi
    simp only [BitVec.getLsbD_and, BitVec.getLsbD_not, BitVec.getLsbD_zero, hi, decide_true, Bool.true_and]
    cases X.getLsbD i <;> cases Y.getLsbD i <;> rfl
  have ho : (X &&& Y) ||| (X &&& ~~~Y) = X := by
    apply BitVec.eq_of_getLsbD_eq
    intro i hi
    simp only [BitVec.getLsbD_and, BitVec.getLsbD_or, BitVec.getLsbD_not, hi, decide_true, Bool.true_and]
    cases X.getLsbD i <;> cases Y.getLsbD i <;> rfl
  have hs := BitVec.add_eq_or_of_and_eq_zero _ _ hz
  rw [ho] at hs
  have h1 := congrArg BitVec.toNat hs
  rw [BitVec.toNat_add] at h1
  have hA : (X &&& Y).toNat = x &&& y := by rw [BitVec.toNat_and, eX, eY]
  have hA2 : (x &&& y) ≤ x := Nat.and_le_left
  have hB2 : (X &&& ~~~Y).toNat ≤ x := by rw [BitVec.toNat_and, eX]; exact Nat.and_le_left
  rw [hA, eX] at h1
  apply BitVec.eq_of_toNat_eq
  rw [BitVec.toNat_ofNat]
  omega
theorem oi_am : ∀ n : Fin 31, (((nI n.val) &&& 31).toBitVec.smod 32).toNat = n.val := by decide +kernel
theorem oi_shl {a t : Int} (ha0 : 0 ≤ a) (h0 : 0 ≤ t) (h1 : t < 31) (h2 : a * 2 ^ t.toNat < 2147483648) : Int32.ofInt a <<< (Int32.ofInt t &&& 31) = Int32.ofInt (a * 2 ^ t.toNat) := by
  obtain ⟨x, rfl⟩ := Int.eq_ofNat_of_zero_le ha0
  obtain ⟨y, rfl⟩ := Int.eq_ofNat_of_zero_le h0
  have h3 : x * 2 ^ y < 2147483648 := by
    have e : ((x : Int) * 2 ^ ((y : Int).toNat)) = ((x * 2 ^ y : Nat) : Int) := by rw [Int.toNat_natCast]; push_cast; rfl
    rw [e] at h2
    omega
  rw [oi_nI, oi_nI, pk_shlN _ y (oi_am ⟨y, by omega⟩) (by omega), ← oi_nI, Int.toNat_natCast]
  push_cast; rfl
theorem oi_shr {a t : Int} (ha : inR a) (ha0 : 0 ≤ a) (h0 : 0 ≤ t) (h1 : t < 31) : Int32.ofInt a >>> (Int32.ofInt t &&& 31) = Int32.ofInt (a / 2 ^ t.toNat) := by
  obtain ⟨x, rfl⟩ := Int.eq_ofNat_of_zero_le ha0
  obtain ⟨y, rfl⟩ := Int.eq_ofNat_of_zero_le h0
  obtain ⟨-, ha⟩ := ha
  rw [oi_nI, oi_nI, pk_shrN (by omega) _ y (oi_am ⟨y, by omega⟩), ← oi_nI, Int.toNat_natCast]
  push_cast; rfl
theorem oi_i2l {a : Int} (ha : inR a) : (Int32.ofInt a).toInt64 = Int64.ofInt a := by
  apply Int64.toInt_inj.mp
  obtain ⟨h1, h2⟩ := id ha
  rw [Int32.toInt_toInt64, oi_toInt ha, oi_toIntL ⟨by omega, by omega⟩]
theorem oi_l2i (a : Int) : (Int64.ofInt a).toInt32 = Int32.ofInt a := by
  first | exact Int64.toInt32_ofInt a | simp
theorem oi_i2c {a : Int} (h0 : 0 ≤ a) (h1 : a < 65536) : ((Int32.ofInt a).toUInt32 % 65536).toInt32 = Int32.ofInt a := by
  obtain ⟨x, rfl⟩ := Int.eq_ofNat_of_zero_le h0
  rw [pk_char, oi_nI, pk_tn (by omega), Nat.mod_eq_of_lt (by omega)]
theorem oi_nar {x : Int} (h0 : 0 ≤ x) (h1 : x < 65536) : vp_nar .char (Int32.ofInt x) = Int32.ofInt x := by
  rw [vp_nar_char]
  have := oi_i2c h0 h1
  obtain ⟨y, rfl⟩ := Int.eq_ofNat_of_zero_le h0
  have e := (pk_charN (q := y) (by omega)).1
  rw [oi_nI]
  have e2 := vp_nar_char (nI y)
  rw [← e2]
  unfold vp_nar
  rw [e]
theorem oi_narV {x : Int} (h0 : 0 ≤ x) (h1 : x < 65536) : narrow .char (.int (Int32.ofInt x)) = .int (Int32.ofInt x) := by
  obtain ⟨y, rfl⟩ := Int.eq_ofNat_of_zero_le h0
  rw [oi_nI]
  exact (pk_charN (by omega)).1
theorem oi_lcmp {a b : Int} (ha : inL a) (hb : inL b) : lg_cmp (Int64.ofInt a) (Int64.ofInt b) = Int32.ofInt (if b < a then 1 else if a = b then 0 else -1) := by
  unfold lg_cmp
  by_cases h : b < a
  · rw [if_pos h, if_pos (show Int64.ofInt a > Int64.ofInt b from (oi_ltL hb ha).mpr h)]; rfl
  · rw [if_neg h, if_neg (fun q => h ((oi_ltL hb ha).mp q))]
    by_cases h2 : a = b
    · rw [if_pos h2, if_pos (by rw [h2])]; rfl
    · rw [if_neg h2, if_neg (fun q => h2 ((oi_eqL ha hb).mp q))]; rfl
end
section
/-! the judgement V: a frame over the abstract world -/
def kill : Option AV → Option AV
  | some (.inr (.inl _)) => none
  | o => o
def lst : List (Option AV) → Nat → AV → List (Option AV)
  | [], _, _ => []
  | _ :: r, 0, v => some v :: r
  | a :: r, 1, v => kill a :: lst r 0 v
  | a :: r, i + 2, v => a :: lst r (i + 1) v
def lz : List (Option AV) → List (Option AV)
  | [] => []
  | _ :: r => none :: r
def lstL : List (Option AV) → Nat → AV → List (Option AV)
  | [], _, _ => []
  | _ :: r, 0, v => some v :: lz r
  | a :: r, 1, v => kill a :: lstL r 0 v
  | a :: r, i + 2, v => a :: lstL r (i + 1) v
def Lh (G : GE) (sl : Array Slot) (nL : Nat) (ls : List (Option AV)) : Prop := sl.size = nL ∧ lv_wf sl ∧ ∀ (i : Nat) (a : AV), ls[i]? = some (some a) → sl[i]? = some (.val (cv G a))
theorem lst_get : ∀ (ls : List (Option AV)) (i : Nat) (v : AV) (j : Nat) (a : AV), (lst ls i v)[j]? = some (some a) → (j = i ∧ a = v) ∨ (j ≠ i ∧ ls[j]? = some (some a) ∧ ¬ (j + 1 = i ∧ ∃ z, a = vL z))
  | [], _, _, j, a, h => by simp [lst] at h
  | b :: r, 0, v, 0, a, h => by simp [lst] at h; exact Or.inl ⟨rfl, h.symm⟩
  | b :: r, 0, v, j + 1, a, h => by
    simp [lst] at h
    exact Or.inr ⟨by omega, by simpa using h, by omega⟩
  | b :: r, 1, v, 0, a, h => by
    simp [lst] at h
    rcases b with _ | (z | z | k | u) <;> simp [kill] at h
    all_goals subst h; exact Or.inr ⟨by omega, rfl, by rintro ⟨-, z, hz⟩; cases hz⟩
  | b :: r, 1, v, j + 1, a, h => by
    have h1 : (lst r 0 v)[j]? = some (some a) := by simpa [lst] using h
    rcases lst_get r 0 v j a h1 with ⟨e, q⟩ | ⟨e, q, n⟩
    · exact Or.inl ⟨by omega, q⟩
    · exact Or.inr ⟨by omega, by simpa using q, by omega⟩
  | b :: r, i + 2, v, 0, a, h => by
    simp [lst] at h; subst h; exact Or.inr ⟨by omega, rfl, by omega⟩
  | b :: r, i + 2, v, j + 1, a, h => by
    have h1 : (lst r (i + 1) v)[j]? = some (some a) := by simpa [lst] using h
    rcases lst_get r (i + 1) v j a h1 with ⟨e, q⟩ | ⟨e, q, n⟩
    · exact Or.inl ⟨by omega, q⟩
    · exact Or.inr ⟨by omega, by simpa using q, fun ⟨x, y⟩ => n ⟨by omega, y⟩⟩
theorem lstL_get : ∀ (ls : List (Option AV)) (i : Nat) (v : AV) (j : Nat) (a : AV), (lstL ls i v)[j]? = some (some a) → (j = i ∧ a = v) ∨ (j ≠ i ∧ j ≠ i + 1 ∧ ls[j]? = some (some a) ∧ ¬ (j + 1 = i ∧ ∃ z, a = vL z))
  | [], _, _, j, a, h => by simp [lstL] at h
  | b :: r, 0, v, 0, a, h => by simp [lstL] at h; exact Or.inl ⟨rfl, h.symm⟩
  | b :: r, 0, v, j + 1, a, h => by
    have h1 : (lz r)[j]? = some (some a) := by simpa [lstL] using h
    rcases r with _ | ⟨c, r⟩
    · simp [lz] at h1
    · rcases j with _ | j
      · simp [lz] at h1
      · have h2 : r[j]? = some (some a) := by simpa [lz] using h1
        exact Or.inr ⟨by omega, by omega, by simpa using h2, by omega⟩
  | b :: r, 1, v, 0, a, h => by
    simp [lstL] at h
    rcases b with _ | (z | z | k | u) <;> simp [kill] at h
    all_goals subst h; exact Or.inr ⟨by omega, by omega, rfl, by rintro ⟨-, z, hz⟩; cases hz⟩
  | b :: r, 1, v, j + 1, a, h => by
    have h1 : (lstL r 0 v)[j]? = some (some a) := by simpa [lstL] using h
    rcases lstL_get r 0 v j a h1 with ⟨e, q⟩ | ⟨e, e2, q, n⟩
    · exact Or.inl ⟨by omega, q⟩
    · exact Or.inr ⟨by omega, by omega, by simpa using q, by omega⟩
  | b :: r, i + 2, v, 0, a, h => by
    simp [lstL] at h; subst h; exact Or.inr ⟨by omega, by omega, rfl, by omega⟩
  | b :: r, i + 2, v, j + 1, a, h => by
    have h1 : (lstL r (i + 1) v)[j]? = some (some a) := by simpa [lstL] using h
    rcases lstL_get r (i + 1) v j a h1 with ⟨e, q⟩ | ⟨e, e2, q, n⟩
    · exact Or.inl ⟨by omega, q⟩
    · exact Or.inr ⟨by omega, by omega, by simpa using q, fun ⟨x, y⟩ => n ⟨by omega, y⟩⟩
/-- the list of pairs that the kit's stores speak of -/
def prs (G : GE) (ls : List (Option AV)) : List (Nat × Value) := (List.range ls.length).filterMap (fun i => match ls[i]? with | some (some a) => some (i, cv G a) | _ => none)
theorem prs_mem {G : GE} {ls : List (Option AV)} {i : Nat} {a : AV} (h : ls[i]? = some (some a)) : (i, cv G a) ∈ prs G ls := by
  refine List.mem_filterMap.mpr ⟨i, List.mem_range.mpr (List.getElem?_eq_some_iff.mp h).1, ?_⟩
  simp [h]
theorem Lh.has {G : GE} {sl : Array Slot} {nL : Nat} {ls : List (Option AV)} (h : Lh G sl nL ls) : lv_has sl nL (prs G ls) := by
  refine ⟨h.1, h.2.1, fun q hq => ?_⟩
  obtain ⟨i, -, hi⟩ := List.mem_filterMap.mp hq
  split at hi
  · rename_i a ha
    cases hi
    exact h.2.2 i a ha
  · cases hi
theorem cat_ne {G : GE} {a : AV} (h : ¬ ∃ z, a = vL z) : ((cv G a).category == 2) = false := by
  rcases a with z | z | k | (_ | b)
  · rfl
  · exact absurd ⟨z, rfl⟩ h
  · rfl
  · rfl
  · rfl
theorem Lh.store1 {G : GE} {sl' : Array Slot} {nL : Nat} {ls : List (Option AV)} {i : Nat} {a : AV} (h : lv_has sl' nL ((i, cv G a) :: (prs G ls).filter (fun q => !(q.1 == i) && !(q.1 + 1 == i && q.2.category == 2)))) : Lh G sl' nL (lst ls i a) := by
  refine ⟨h.1, h.2.1, fun j b hj => ?_⟩
  rcases lst_get ls i a j b hj with ⟨rfl, rfl⟩ | ⟨hne, hb, hn⟩
  · exact h.2.2 _ List.mem_cons_self
  · refine h.2.2 (j, cv G b) (List.mem_cons_of_mem _ (List.mem_filter.mpr ⟨prs_mem hb, ?_⟩))
    have h1 : (j == i) = false := by simpa using hne
    by_cases hj1 : j + 1 = i
    · have h2 : ((cv G b).category == 2) = false := cat_ne (fun hz => hn ⟨hj1, hz⟩)
      simp [h1, h2]
    · have h2 : (j + 1 == i) = false := by simpa using hj1
      simp [h1, h2]
theorem Lh.store2 {G : GE} {sl' : Array Slot} {nL : Nat} {ls : List (Option AV)} {i : Nat} {a : AV} (h : lv_has sl' nL ((i, cv G a) :: (prs G ls).filter (fun q => !(q.1 == i) && (!(q.1 == i + 1) && !(q.1 + 1 == i && q.2.category == 2))))) : Lh G sl' nL (lstL ls i a) := by
  refine ⟨h.1, h.2.1, fun j b hj => ?_⟩
  rcases lstL_get ls i a j b hj with ⟨rfl, rfl⟩ | ⟨hne, hne2, hb, hn⟩
  · exact h.2.2 _ List.mem_cons_self
  · refine h.2.2 (j, cv G b) (List.mem_cons_of_mem _ (List.mem_filter.mpr ⟨prs_mem hb, ?_⟩))
    have h1 : (j == i) = false := by simpa using hne
    have h3 : (j == i + 1) = false := by simpa using hne2
    by_cases hj1 : j + 1 = i
    · have h2 : ((cv G b).category == 2) = false := cat_ne (fun hz => hn ⟨hj1, hz⟩)
      simp [h1, h2, h3]
    · have h2 : (j + 1 == i) = false := by simpa using hj1
      simp [h1, h2, h3]
abbrev KX : Type := Program × (Launch × (Env × (Room × (State × (MethodId × (Array Value × (List Frame × (Method × (Code × (GE × (Nat × (Nat × (Nat × (State → Prop))))))))))))))
def V (X : KX) (pc : Nat) (ls : List (Option AV)) (st : List AV) (σ : Wd) : Prop := match X with
  | (p, l, e, R, s, m, args, below, meth, c, G, nL, ck, sk, Q) => R32 σ → ∀ (H : Heap) (locs : List Loc) (sl : Array Slot), va_P (gD G) CL (wsO G σ) H → va_S (AG G) s.heap H locs → Lh G sl nL ls → W p l e R s m args below meth c H locs ck sk Q (F0 m pc sl (st.map (cv G)))
def Cx (X : KX) (cc : ByteArray) (own : String) : Prop := match X with
  | (p, _, _, R, s, m, args, _, meth, c, G, nL, ck, sk, _) => p.tables.exec = Jvm.exec ∧ c.code = cc ∧ c.maxLocals = nL ∧ s.vm.findClass own = some m.cls ∧ meth.locks = false ∧ (∀ wd ∈ gw, wd.before args s = true) ∧ PK G s ∧ apart G ∧ ck ≤ R.cells ∧ sk ≤ R.slots
/-- room for a call: frames and words of locals left -/
def Rm (X : KX) (rF rL : Nat) : Prop := match X with
  | (_, _, _, R, _, _, _, _, _, _, _, _, _, _, _) => rF ≤ R.frames ∧ rL ≤ R.locals
def xN (X : KX) : Nat := match X with
  | (_, _, _, _, _, _, _, _, _, _, _, nL, _, _, _) => nL
def xG (X : KX) : GE := match X with
  | (_, _, _, _, _, _, _, _, _, _, G, _, _, _, _) => G
def xL (X : KX) : Launch := match X with
  | (_, l, _, _, _, _, _, _, _, _, _, _, _, _, _) => l
def QcO (G : GE) (fin : Option AV → Wd → Prop) : Array Value → State → Outcome → State → Prop := fun _ st oc t => (∃ r σ, oc = .returned (r.map (cv G)) ∧ fin r σ ∧ R32 σ ∧ va_P (gD G) CL (wsO G σ) t.heap) ∧ va_F (AG G) st t
def Ex (X : KX) (ret : Option FieldType) (fin : Option AV → Wd → Prop) : Prop := match X with
  | (_, _, _, _, s, _, args, below, meth, _, G, _, ck, sk, Q) => meth.sig.returnType = ret ∧ Q = MQ below (QcO G fin) args s ck sk (AG G)
/-- a method's contract: from the world σ, with these arguments, it ends, with fin of the answer and the world behind it; nothing is made -/
def Ct (l : Launch) (G : GE) (y : MethodName) (b : ByteArray) (nL : Nat) (ret : Option FieldType) (rF rL : Nat) (avs : List AV) (σ : Wd) (fin : Option AV → Wd → Prop) : Prop :=
  apart G → R32 σ → Met l y (Cond.code y b nL ret :: gw) { frames := rF, cells := 0, slots := 0, locals := rL } (va_Pc (avs.map (cv G)) (fun U => va_P (gD G) CL (wsO G σ) U.heap ∧ PK G U)) (QcO G fin) 0 0 (AG G)
theorem dk {b : ByteArray} {T : List (Nat × (Instr × Nat))} (h : T.all (fun q => decide (decode b q.1 = .ok q.2)) = true) (i : Nat) {pc n : Nat} {ins : Instr} (hi : T[i]? = some (pc, (ins, n))) : decode b pc = .ok (ins, n) := by
  have := List.all_eq_true.mp h _ (List.mem_of_getElem? hi)
  simpa using this
theorem lv1 {ls : List (Option AV)} {sl : Array Slot} {nL : Nat} {G : GE} (h : Lh G sl nL ls) {i : Nat} {a : AV} (hi : ls[i]? = some (some a)) : sl[i]? = some (.val (cv G a)) := h.2.2 i a hi

section VR
variable {X : KX} {cc : ByteArray} {own : String} {pc : Nat} {ls : List (Option AV)} {st : List AV} {σ : Wd}
/-- the world's numbers are the machine's -/
theorem V_R (k : R32 σ → V X pc ls st σ) : V X pc ls st σ := by
  obtain ⟨p, l, e, R, s, m, args, below, meth, c, G, nL, ck, sk, Q⟩ := X
  intro hR H locs sl hP hS hL
  exact k hR hR H locs sl hP hS hL
theorem V_eq {ls' : List (Option AV)} {st' : List AV} {σ' : Wd} (k : V X pc ls' st' σ') (h1 : ls = ls') (h2 : st = st') (h3 : σ = σ') : V X pc ls st σ := by
  subst h1; subst h2; subst h3; exact k
theorem V_pc {pc' : Nat} (h : pc = pc') (k : V X pc' ls st σ) : V X pc ls st σ := h ▸ k

theorem V_iconst {n : Int} {n' : Int} (C : Cx X cc own) (d : decode cc pc = .ok (.iconst n, 1))   (hn : n = n') (k : V X (pc + 1) ls (vI n' :: st) σ) : V X pc ls st σ := by
  obtain ⟨p, l, e, R, s, m, args, below, meth, c, G, nL, ck, sk, Q⟩ := X
  obtain ⟨hx, hb, hml, hown, hlk, hts, hPK, hap, hck, hsk⟩ := C
  intro hR H locs sl hP hS hL
  subst hn
  exact lv_iconst hx hb d rfl (k hR H locs sl hP hS hL)

theorem V_bipush {n : Int} {n' : Int} (C : Cx X cc own) (d : decode cc pc = .ok (.bipush n, 2))   (hn : (Int8.ofInt n).toInt32 = Int32.ofInt n') (k : V X (pc + 2) ls (vI n' :: st) σ) : V X pc ls st σ := by
  obtain ⟨p, l, e, R, s, m, args, below, meth, c, G, nL, ck, sk, Q⟩ := X
  obtain ⟨hx, hb, hml, hown, hlk, hts, hPK, hap, hck, hsk⟩ := C
  intro hR H locs sl hP hS hL
  exact lv_bipush hx hb d hn (k hR H locs sl hP hS hL)

theorem V_sipush {n : Int} {n' : Int} (C : Cx X cc own) (d : decode cc pc = .ok (.sipush n, 3))   (hn : (Int16.ofInt n).toInt32 = Int32.ofInt n') (k : V X (pc + 3) ls (vI n' :: st) σ) : V X pc ls st σ := by
  obtain ⟨p, l, e, R, s, m, args, below, meth, c, G, nL, ck, sk, Q⟩ := X
  obtain ⟨hx, hb, hml, hown, hlk, hts, hPK, hap, hck, hsk⟩ := C
  intro hR H locs sl hP hS hL
  exact lv_sipush hx hb d hn (k hR H locs sl hP hS hL)

theorem V_lconst {n : Fin 2} {n' : Int} (C : Cx X cc own) (d : decode cc pc = .ok (.lconst n, 1))   (hn : Int64.ofNat (n : Nat) = Int64.ofInt n') (k : V X (pc + 1) ls (vL n' :: st) σ) : V X pc ls st σ := by
  obtain ⟨p, l, e, R, s, m, args, below, meth, c, G, nL, ck, sk, Q⟩ := X
  obtain ⟨hx, hb, hml, hown, hlk, hts, hPK, hap, hck, hsk⟩ := C
  intro hR H locs sl hP hS hL
  exact lv_lconst hx hb d hn (k hR H locs sl hP hS hL)

theorem V_null  (C : Cx X cc own) (d : decode cc pc = .ok (.aconst_null, 1))  (k : V X (pc + 1) ls (vX none :: st) σ) : V X pc ls st σ := by
  obtain ⟨p, l, e, R, s, m, args, below, meth, c, G, nL, ck, sk, Q⟩ := X
  obtain ⟨hx, hb, hml, hown, hlk, hts, hPK, hap, hck, hsk⟩ := C
  intro hR H locs sl hP hS hL
  exact lv_null hx hb d (k hR H locs sl hP hS hL)

theorem V_ldc {index : Nat} {v : Int32} {n' : Int} (C : Cx X cc own) (d : decode cc pc = .ok (.ldc index, 2))    (hc : Cond.constant own index v ∈ gw) (hn : v = Int32.ofInt n') (k : V X (pc + 2) ls (vI n' :: st) σ) : V X pc ls st σ := by
  obtain ⟨p, l, e, R, s, m, args, below, meth, c, G, nL, ck, sk, Q⟩ := X
  obtain ⟨hx, hb, hml, hown, hlk, hts, hPK, hap, hck, hsk⟩ := C
  intro hR H locs sl hP hS hL
  subst hn
  exact lv_ldc hx hb hown (hts _ hc) d (k hR H locs sl hP hS hL)

theorem V_ldc2 {index : Nat} {v : Int64} {n' : Int} (C : Cx X cc own) (d : decode cc pc = .ok (.ldc2_w index, 3))    (hc : Cond.constantLong own index v ∈ gw) (hn : v = Int64.ofInt n') (k : V X (pc + 3) ls (vL n' :: st) σ) : V X pc ls st σ := by
  obtain ⟨p, l, e, R, s, m, args, below, meth, c, G, nL, ck, sk, Q⟩ := X
  obtain ⟨hx, hb, hml, hown, hlk, hts, hPK, hap, hck, hsk⟩ := C
  intro hR H locs sl hP hS hL
  subst hn
  exact lv_ldc2 hx hb hown (hts _ hc) d (k hR H locs sl hP hS hL)

theorem V_iload_n {i : Fin 4} {z : Int} (C : Cx X cc own) (d : decode cc pc = .ok (.iload_n i, 1))   (h : ls[(i : Nat)]? = some (some (vI z))) (k : V X (pc + 1) ls (vI z :: st) σ) : V X pc ls st σ := by
  obtain ⟨p, l, e, R, s, m, args, below, meth, c, G, nL, ck, sk, Q⟩ := X
  obtain ⟨hx, hb, hml, hown, hlk, hts, hPK, hap, hck, hsk⟩ := C
  intro hR H locs sl hP hS hL
  exact lv_iload_n hx hb d rfl (lv1 hL h) (k hR H locs sl hP hS hL)

theorem V_iload {i : Nat} {z : Int} (C : Cx X cc own) (d : decode cc pc = .ok (.iload i, 2))   (h : ls[i]? = some (some (vI z))) (k : V X (pc + 2) ls (vI z :: st) σ) : V X pc ls st σ := by
  obtain ⟨p, l, e, R, s, m, args, below, meth, c, G, nL, ck, sk, Q⟩ := X
  obtain ⟨hx, hb, hml, hown, hlk, hts, hPK, hap, hck, hsk⟩ := C
  intro hR H locs sl hP hS hL
  exact lv_iload hx hb d (lv1 hL h) (k hR H locs sl hP hS hL)

theorem V_lload_n {i : Fin 4} {z : Int} (C : Cx X cc own) (d : decode cc pc = .ok (.lload_n i, 1))   (h : ls[(i : Nat)]? = some (some (vL z))) (k : V X (pc + 1) ls (vL z :: st) σ) : V X pc ls st σ := by
  obtain ⟨p, l, e, R, s, m, args, below, meth, c, G, nL, ck, sk, Q⟩ := X
  obtain ⟨hx, hb, hml, hown, hlk, hts, hPK, hap, hck, hsk⟩ := C
  intro hR H locs sl hP hS hL
  exact lv_lload_n hx hb d rfl (lv1 hL h) (k hR H locs sl hP hS hL)

theorem V_lload {i : Nat} {z : Int} (C : Cx X cc own) (d : decode cc pc = .ok (.lload i, 2))   (h : ls[i]? = some (some (vL z))) (k : V X (pc + 2) ls (vL z :: st) σ) : V X pc ls st σ := by
  obtain ⟨p, l, e, R, s, m, args, below, meth, c, G, nL, ck, sk, Q⟩ := X
  obtain ⟨hx, hb, hml, hown, hlk, hts, hPK, hap, hck, hsk⟩ := C
  intro hR H locs sl hP hS hL
  exact lv_lload hx hb d (lv1 hL h) (k hR H locs sl hP hS hL)

theorem V_aload_n {i : Fin 4} {z : Nat} (C : Cx X cc own) (d : decode cc pc = .ok (.aload_n i, 1))   (h : ls[(i : Nat)]? = some (some (vR z))) (k : V X (pc + 1) ls (vR z :: st) σ) : V X pc ls st σ := by
  obtain ⟨p, l, e, R, s, m, args, below, meth, c, G, nL, ck, sk, Q⟩ := X
  obtain ⟨hx, hb, hml, hown, hlk, hts, hPK, hap, hck, hsk⟩ := C
  intro hR H locs sl hP hS hL
  exact lv_aload_n hx hb d rfl (lv1 hL h) (k hR H locs sl hP hS hL)

theorem V_aload {i : Nat} {z : Nat} (C : Cx X cc own) (d : decode cc pc = .ok (.aload i, 2))   (h : ls[i]? = some (some (vR z))) (k : V X (pc + 2) ls (vR z :: st) σ) : V X pc ls st σ := by
  obtain ⟨p, l, e, R, s, m, args, below, meth, c, G, nL, ck, sk, Q⟩ := X
  obtain ⟨hx, hb, hml, hown, hlk, hts, hPK, hap, hck, hsk⟩ := C
  intro hR H locs sl hP hS hL
  exact lv_aload hx hb d (lv1 hL h) (k hR H locs sl hP hS hL)

theorem V_aloadX_n {i : Fin 4} {b : Nat} (C : Cx X cc own) (d : decode cc pc = .ok (.aload_n i, 1))   (h : ls[(i : Nat)]? = some (some (vX (some b)))) (k : V X (pc + 1) ls (vX (some b) :: st) σ) : V X pc ls st σ := by
  obtain ⟨p, l, e, R, s, m, args, below, meth, c, G, nL, ck, sk, Q⟩ := X
  obtain ⟨hx, hb, hml, hown, hlk, hts, hPK, hap, hck, hsk⟩ := C
  intro hR H locs sl hP hS hL
  exact lv_aload_n hx hb d rfl (lv1 hL h) (k hR H locs sl hP hS hL)

theorem V_aloadN_n {i : Fin 4} (C : Cx X cc own) (d : decode cc pc = .ok (.aload_n i, 1))  (h : ls[(i : Nat)]? = some (some (vX none))) (k : V X (pc + 1) ls (vX none :: st) σ) : V X pc ls st σ := by
  obtain ⟨p, l, e, R, s, m, args, below, meth, c, G, nL, ck, sk, Q⟩ := X
  obtain ⟨hx, hb, hml, hown, hlk, hts, hPK, hap, hck, hsk⟩ := C
  intro hR H locs sl hP hS hL
  exact lv_aload_nN hx hb d rfl (lv1 hL h) (k hR H locs sl hP hS hL)

theorem V_istore_n {i : Fin 4} {z : Int} (C : Cx X cc own) (d : decode cc pc = .ok (.istore_n i, 1))   (h : (i : Nat) < xN X) (k : V X (pc + 1) (lst ls (i : Nat) (vI z)) st σ) : V X pc ls (vI z :: st) σ := by
  obtain ⟨p, l, e, R, s, m, args, below, meth, c, G, nL, ck, sk, Q⟩ := X
  obtain ⟨hx, hb, hml, hown, hlk, hts, hPK, hap, hck, hsk⟩ := C
  intro hR H locs sl hP hS hL
  exact lv_istore_n hx hb d rfl hL.has h rfl (fun sl' h' => k hR H locs sl' hP hS (Lh.store1 (a := vI z) h'))

theorem V_istore {i : Nat} {z : Int} (C : Cx X cc own) (d : decode cc pc = .ok (.istore i, 2))   (h : i < xN X) (k : V X (pc + 2) (lst ls i (vI z)) st σ) : V X pc ls (vI z :: st) σ := by
  obtain ⟨p, l, e, R, s, m, args, below, meth, c, G, nL, ck, sk, Q⟩ := X
  obtain ⟨hx, hb, hml, hown, hlk, hts, hPK, hap, hck, hsk⟩ := C
  intro hR H locs sl hP hS hL
  exact lv_istore hx hb d hL.has h rfl (fun sl' h' => k hR H locs sl' hP hS (Lh.store1 (a := vI z) h'))

theorem V_astore_n {i : Fin 4} {z : Nat} (C : Cx X cc own) (d : decode cc pc = .ok (.astore_n i, 1))   (h : (i : Nat) < xN X) (k : V X (pc + 1) (lst ls (i : Nat) (vR z)) st σ) : V X pc ls (vR z :: st) σ := by
  obtain ⟨p, l, e, R, s, m, args, below, meth, c, G, nL, ck, sk, Q⟩ := X
  obtain ⟨hx, hb, hml, hown, hlk, hts, hPK, hap, hck, hsk⟩ := C
  intro hR H locs sl hP hS hL
  exact lv_astore_n hx hb d rfl hL.has h rfl (fun sl' h' => k hR H locs sl' hP hS (Lh.store1 (a := vR z) h'))

theorem V_astore {i : Nat} {z : Nat} (C : Cx X cc own) (d : decode cc pc = .ok (.astore i, 2))   (h : i < xN X) (k : V X (pc + 2) (lst ls i (vR z)) st σ) : V X pc ls (vR z :: st) σ := by
  obtain ⟨p, l, e, R, s, m, args, below, meth, c, G, nL, ck, sk, Q⟩ := X
  obtain ⟨hx, hb, hml, hown, hlk, hts, hPK, hap, hck, hsk⟩ := C
  intro hR H locs sl hP hS hL
  exact lv_astore hx hb d hL.has h rfl (fun sl' h' => k hR H locs sl' hP hS (Lh.store1 (a := vR z) h'))

theorem V_lstore_n {i : Fin 4} {z : Int} (C : Cx X cc own) (d : decode cc pc = .ok (.lstore_n i, 1))   (h : (i : Nat) + 1 < xN X) (k : V X (pc + 1) (lstL ls (i : Nat) (vL z)) st σ) : V X pc ls (vL z :: st) σ := by
  obtain ⟨p, l, e, R, s, m, args, below, meth, c, G, nL, ck, sk, Q⟩ := X
  obtain ⟨hx, hb, hml, hown, hlk, hts, hPK, hap, hck, hsk⟩ := C
  intro hR H locs sl hP hS hL
  exact lv_lstore_n hx hb d rfl hL.has h rfl (fun sl' h' => k hR H locs sl' hP hS (Lh.store2 (a := vL z) h'))

theorem V_lstore {i : Nat} {z : Int} (C : Cx X cc own) (d : decode cc pc = .ok (.lstore i, 2))   (h : i + 1 < xN X) (k : V X (pc + 2) (lstL ls i (vL z)) st σ) : V X pc ls (vL z :: st) σ := by
  obtain ⟨p, l, e, R, s, m, args, below, meth, c, G, nL, ck, sk, Q⟩ := X
  obtain ⟨hx, hb, hml, hown, hlk, hts, hPK, hap, hck, hsk⟩ := C
  intro hR H locs sl hP hS hL
  exact lv_lstore hx hb d hL.has h rfl (fun sl' h' => k hR H locs sl' hP hS (Lh.store2 (a := vL z) h'))

theorem V_iinc (C : Cx X cc own) {i : Nat} {n z : Int} (d : decode cc pc = .ok (.iinc i n, 3)) (h : i < xN X) (hi : ls[i]? = some (some (vI z))) (k : V X (pc + 3) (lst ls i (vI (z + n))) st σ) : V X pc ls st σ := by
  obtain ⟨p, l, e, R, s, m, args, below, meth, c, G, nL, ck, sk, Q⟩ := X
  obtain ⟨hx, hb, hml, hown, hlk, hts, hPK, hap, hck, hsk⟩ := C
  intro hR H locs sl hP hS hL
  obtain ⟨q, hq, hm⟩ := List.getElem_of_mem (prs_mem (G := G) hi)
  have hk : (prs G ls)[q]? = some (i, .int (Int32.ofInt z)) := by rw [List.getElem?_eq_getElem hq, hm]; rfl
  exact lv_iinc hx hb d hL.has hk rfl h rfl (fun sl' h' => k hR H locs sl' hP hS (Lh.store1 (a := vI (z + n)) (by rw [← Int32.ofInt_add] at h'; exact h')))

theorem V_iadd {a b : Int} (C : Cx X cc own) (d : decode cc pc = .ok (.iadd, 1))  (k : V X (pc + 1) ls (vI (a + b) :: st) σ) : V X pc ls (vI b :: vI a :: st) σ := by
  obtain ⟨p, l, e, R, s, m, args, below, meth, c, G, nL, ck, sk, Q⟩ := X
  obtain ⟨hx, hb, hml, hown, hlk, hts, hPK, hap, hck, hsk⟩ := C
  intro hR H locs sl hP hS hL
  refine lv_iadd hx hb d ?_
  rw [← Int32.ofInt_add]
  exact k hR H locs sl hP hS hL

theorem V_isub {a b : Int} (C : Cx X cc own) (d : decode cc pc = .ok (.isub, 1))  (k : V X (pc + 1) ls (vI (a - b) :: st) σ) : V X pc ls (vI b :: vI a :: st) σ := by
  obtain ⟨p, l, e, R, s, m, args, below, meth, c, G, nL, ck, sk, Q⟩ := X
  obtain ⟨hx, hb, hml, hown, hlk, hts, hPK, hap, hck, hsk⟩ := C
  intro hR H locs sl hP hS hL
  refine lv_isub hx hb d ?_
  rw [← Int32.ofInt_sub]
  exact k hR H locs sl hP hS hL

theorem V_imul {a b : Int} (C : Cx X cc own) (d : decode cc pc = .ok (.imul, 1))  (k : V X (pc + 1) ls (vI (a * b) :: st) σ) : V X pc ls (vI b :: vI a :: st) σ := by
  obtain ⟨p, l, e, R, s, m, args, below, meth, c, G, nL, ck, sk, Q⟩ := X
  obtain ⟨hx, hb, hml, hown, hlk, hts, hPK, hap, hck, hsk⟩ := C
  intro hR H locs sl hP hS hL
  refine lv_imul hx hb d ?_
  rw [← Int32.ofInt_mul]
  exact k hR H locs sl hP hS hL

theorem V_ladd {a b : Int} (C : Cx X cc own) (d : decode cc pc = .ok (.ladd, 1))  (k : V X (pc + 1) ls (vL (a + b) :: st) σ) : V X pc ls (vL b :: vL a :: st) σ := by
  obtain ⟨p, l, e, R, s, m, args, below, meth, c, G, nL, ck, sk, Q⟩ := X
  obtain ⟨hx, hb, hml, hown, hlk, hts, hPK, hap, hck, hsk⟩ := C
  intro hR H locs sl hP hS hL
  refine lv_ladd hx hb d ?_
  rw [← Int64.ofInt_add]
  exact k hR H locs sl hP hS hL

theorem V_lsub {a b : Int} (C : Cx X cc own) (d : decode cc pc = .ok (.lsub, 1))  (k : V X (pc + 1) ls (vL (a - b) :: st) σ) : V X pc ls (vL b :: vL a :: st) σ := by
  obtain ⟨p, l, e, R, s, m, args, below, meth, c, G, nL, ck, sk, Q⟩ := X
  obtain ⟨hx, hb, hml, hown, hlk, hts, hPK, hap, hck, hsk⟩ := C
  intro hR H locs sl hP hS hL
  refine lv_lsub hx hb d ?_
  rw [← Int64.ofInt_sub]
  exact k hR H locs sl hP hS hL

theorem V_lmul {a b : Int} (C : Cx X cc own) (d : decode cc pc = .ok (.lmul, 1))  (k : V X (pc + 1) ls (vL (a * b) :: st) σ) : V X pc ls (vL b :: vL a :: st) σ := by
  obtain ⟨p, l, e, R, s, m, args, below, meth, c, G, nL, ck, sk, Q⟩ := X
  obtain ⟨hx, hb, hml, hown, hlk, hts, hPK, hap, hck, hsk⟩ := C
  intro hR H locs sl hP hS hL
  refine lv_lmul hx hb d ?_
  rw [← Int64.ofInt_mul]
  exact k hR H locs sl hP hS hL

theorem V_ineg {a : Int} (C : Cx X cc own) (d : decode cc pc = .ok (.ineg, 1))  (k : V X (pc + 1) ls (vI (-a) :: st) σ) : V X pc ls (vI a :: st) σ := by
  obtain ⟨p, l, e, R, s, m, args, below, meth, c, G, nL, ck, sk, Q⟩ := X
  obtain ⟨hx, hb, hml, hown, hlk, hts, hPK, hap, hck, hsk⟩ := C
  intro hR H locs sl hP hS hL
  refine lv_ineg hx hb d ?_
  rw [← Int32.ofInt_neg]
  exact k hR H locs sl hP hS hL

theorem V_idiv {a b : Int} (C : Cx X cc own) (d : decode cc pc = .ok (.idiv, 1))  (ha : inR a) (hb1 : inR b) (h0 : 0 ≤ a) (h1 : 0 < b) (k : V X (pc + 1) ls (vI (a / b) :: st) σ) : V X pc ls (vI b :: vI a :: st) σ := by
  obtain ⟨p, l, e, R, s, m, args, below, meth, c, G, nL, ck, sk, Q⟩ := X
  obtain ⟨hx, hb, hml, hown, hlk, hts, hPK, hap, hck, hsk⟩ := C
  intro hR H locs sl hP hS hL
  refine lv_idiv hx hb d (oi_ne hb1 (by omega)) ?_
  rw [oi_div ha hb1 h0 h1]
  exact k hR H locs sl hP hS hL

theorem V_irem {a b : Int} (C : Cx X cc own) (d : decode cc pc = .ok (.irem, 1))  (ha : inR a) (hb1 : inR b) (h0 : 0 ≤ a) (h1 : 0 < b) (k : V X (pc + 1) ls (vI (a % b) :: st) σ) : V X pc ls (vI b :: vI a :: st) σ := by
  obtain ⟨p, l, e, R, s, m, args, below, meth, c, G, nL, ck, sk, Q⟩ := X
  obtain ⟨hx, hb, hml, hown, hlk, hts, hPK, hap, hck, hsk⟩ := C
  intro hR H locs sl hP hS hL
  refine lv_irem hx hb d (oi_ne hb1 (by omega)) ?_
  rw [oi_rem ha hb1 h0 h1]
  exact k hR H locs sl hP hS hL

theorem V_ldiv {a b : Int} (C : Cx X cc own) (d : decode cc pc = .ok (.ldiv, 1))  (ha : inL a) (hb1 : inL b) (h0 : 0 ≤ a) (h1 : 0 < b) (k : V X (pc + 1) ls (vL (a / b) :: st) σ) : V X pc ls (vL b :: vL a :: st) σ := by
  obtain ⟨p, l, e, R, s, m, args, below, meth, c, G, nL, ck, sk, Q⟩ := X
  obtain ⟨hx, hb, hml, hown, hlk, hts, hPK, hap, hck, hsk⟩ := C
  intro hR H locs sl hP hS hL
  refine lv_ldiv hx hb d (oi_neL hb1 (by omega)) ?_
  rw [oi_divL ha hb1 h0 h1]
  exact k hR H locs sl hP hS hL

theorem V_lrem {a b : Int} (C : Cx X cc own) (d : decode cc pc = .ok (.lrem, 1))  (ha : inL a) (hb1 : inL b) (h0 : 0 ≤ a) (h1 : 0 < b) (k : V X (pc + 1) ls (vL (a % b) :: st) σ) : V X pc ls (vL b :: vL a :: st) σ := by
  obtain ⟨p, l, e, R, s, m, args, below, meth, c, G, nL, ck, sk, Q⟩ := X
  obtain ⟨hx, hb, hml, hown, hlk, hts, hPK, hap, hck, hsk⟩ := C
  intro hR H locs sl hP hS hL
  refine lv_lrem hx hb d (oi_neL hb1 (by omega)) ?_
  rw [oi_remL ha hb1 h0 h1]
  exact k hR H locs sl hP hS hL

theorem V_ishl {a t : Int} (C : Cx X cc own) (d : decode cc pc = .ok (.ishl, 1))  (ha0 : 0 ≤ a) (h0 : 0 ≤ t) (h1 : t < 31) (h2 : a * 2 ^ t.toNat < 2147483648) (k : V X (pc + 1) ls (vI (a * 2 ^ t.toNat) :: st) σ) : V X pc ls (vI t :: vI a :: st) σ := by
  obtain ⟨p, l, e, R, s, m, args, below, meth, c, G, nL, ck, sk, Q⟩ := X
  obtain ⟨hx, hb, hml, hown, hlk, hts, hPK, hap, hck, hsk⟩ := C
  intro hR H locs sl hP hS hL
  refine lv_ishl hx hb d ?_
  rw [oi_shl ha0 h0 h1 h2]
  exact k hR H locs sl hP hS hL

theorem V_ishr {a t : Int} (C : Cx X cc own) (d : decode cc pc = .ok (.ishr, 1))  (ha : inR a) (ha0 : 0 ≤ a) (h0 : 0 ≤ t) (h1 : t < 31) (k : V X (pc + 1) ls (vI (a / 2 ^ t.toNat) :: st) σ) : V X pc ls (vI t :: vI a :: st) σ := by
  obtain ⟨p, l, e, R, s, m, args, below, meth, c, G, nL, ck, sk, Q⟩ := X
  obtain ⟨hx, hb, hml, hown, hlk, hts, hPK, hap, hck, hsk⟩ := C
  intro hR H locs sl hP hS hL
  refine lv_ishr hx hb d ?_
  rw [oi_shr ha ha0 h0 h1]
  exact k hR H locs sl hP hS hL

theorem V_iand {a b : Int} (C : Cx X cc own) (d : decode cc pc = .ok (.iand, 1))  (ha : inR a) (hb1 : inR b) (ha0 : 0 ≤ a) (hb0 : 0 ≤ b) (k : V X (pc + 1) ls (vI ((a.toNat &&& b.toNat : Nat) : Int) :: st) σ) : V X pc ls (vI b :: vI a :: st) σ := by
  obtain ⟨p, l, e, R, s, m, args, below, meth, c, G, nL, ck, sk, Q⟩ := X
  obtain ⟨hx, hb, hml, hown, hlk, hts, hPK, hap, hck, hsk⟩ := C
  intro hR H locs sl hP hS hL
  refine lv_iand hx hb d ?_
  rw [oi_and ha hb1 ha0 hb0]
  exact k hR H locs sl hP hS hL

theorem V_ior {a b : Int} (C : Cx X cc own) (d : decode cc pc = .ok (.ior, 1))  (ha : inR a) (hb1 : inR b) (ha0 : 0 ≤ a) (hb0 : 0 ≤ b) (k : V X (pc + 1) ls (vI ((a.toNat ||| b.toNat : Nat) : Int) :: st) σ) : V X pc ls (vI b :: vI a :: st) σ := by
  obtain ⟨p, l, e, R, s, m, args, below, meth, c, G, nL, ck, sk, Q⟩ := X
  obtain ⟨hx, hb, hml, hown, hlk, hts, hPK, hap, hck, hsk⟩ := C
  intro hR H locs sl hP hS hL
  refine lv_ior hx hb d ?_
  rw [oi_or ha hb1 ha0 hb0]
  exact k hR H locs sl hP hS hL

theorem V_ixm1 {a : Int} (C : Cx X cc own) (d : decode cc pc = .ok (.ixor, 1))  (k : V X (pc + 1) ls (vI (-1 - a) :: st) σ) : V X pc ls (vI (-1) :: vI a :: st) σ := by
  obtain ⟨p, l, e, R, s, m, args, below, meth, c, G, nL, ck, sk, Q⟩ := X
  obtain ⟨hx, hb, hml, hown, hlk, hts, hPK, hap, hck, hsk⟩ := C
  intro hR H locs sl hP hS hL
  refine lv_ixor hx hb d ?_
  rw [oi_not]
  exact k hR H locs sl hP hS hL

theorem V_iandn {a b : Int} (C : Cx X cc own) (d : decode cc pc = .ok (.iand, 1))  (ha : inR a) (hb1 : inR b) (ha0 : 0 ≤ a) (hb0 : 0 ≤ b) (k : V X (pc + 1) ls (vI ((a.toNat - (a.toNat &&& b.toNat) : Nat) : Int) :: st) σ) : V X pc ls (vI (-1 - b) :: vI a :: st) σ := by
  obtain ⟨p, l, e, R, s, m, args, below, meth, c, G, nL, ck, sk, Q⟩ := X
  obtain ⟨hx, hb, hml, hown, hlk, hts, hPK, hap, hck, hsk⟩ := C
  intro hR H locs sl hP hS hL
  refine lv_iand hx hb d ?_
  rw [oi_andn ha hb1 ha0 hb0]
  exact k hR H locs sl hP hS hL

theorem V_i2l {a : Int} (C : Cx X cc own) (d : decode cc pc = .ok (.i2l, 1))  (ha : inR a) (k : V X (pc + 1) ls (vL a :: st) σ) : V X pc ls (vI a :: st) σ := by
  obtain ⟨p, l, e, R, s, m, args, below, meth, c, G, nL, ck, sk, Q⟩ := X
  obtain ⟨hx, hb, hml, hown, hlk, hts, hPK, hap, hck, hsk⟩ := C
  intro hR H locs sl hP hS hL
  exact lv_i2l hx hb d (oi_i2l ha) (k hR H locs sl hP hS hL)

theorem V_l2i {a : Int} (C : Cx X cc own) (d : decode cc pc = .ok (.l2i, 1))  (k : V X (pc + 1) ls (vI a :: st) σ) : V X pc ls (vL a :: st) σ := by
  obtain ⟨p, l, e, R, s, m, args, below, meth, c, G, nL, ck, sk, Q⟩ := X
  obtain ⟨hx, hb, hml, hown, hlk, hts, hPK, hap, hck, hsk⟩ := C
  intro hR H locs sl hP hS hL
  exact lv_l2i hx hb d (oi_l2i a) (k hR H locs sl hP hS hL)

theorem V_i2c {a : Int} (C : Cx X cc own) (d : decode cc pc = .ok (.i2c, 1))  (h0 : 0 ≤ a) (h1 : a < 65536) (k : V X (pc + 1) ls (vI a :: st) σ) : V X pc ls (vI a :: st) σ := by
  obtain ⟨p, l, e, R, s, m, args, below, meth, c, G, nL, ck, sk, Q⟩ := X
  obtain ⟨hx, hb, hml, hown, hlk, hts, hPK, hap, hck, hsk⟩ := C
  intro hR H locs sl hP hS hL
  exact lv_i2c hx hb d (oi_i2c h0 h1) (k hR H locs sl hP hS hL)

theorem V_lcmp {a b : Int} (C : Cx X cc own) (d : decode cc pc = .ok (.lcmp, 1))  (ha : inL a) (hb1 : inL b) (k : V X (pc + 1) ls (vI (if b < a then 1 else if a = b then 0 else -1) :: st) σ) : V X pc ls (vL b :: vL a :: st) σ := by
  obtain ⟨p, l, e, R, s, m, args, below, meth, c, G, nL, ck, sk, Q⟩ := X
  obtain ⟨hx, hb, hml, hown, hlk, hts, hPK, hap, hck, hsk⟩ := C
  intro hR H locs sl hP hS hL
  refine W.lcmp hx hb d ?_
  rw [oi_lcmp ha hb1]
  exact k hR H locs sl hP hS hL

theorem V_dupI {z : Int} (C : Cx X cc own) (d : decode cc pc = .ok (.dup, 1))  (k : V X (pc + 1) ls (vI z :: vI z :: st) σ) : V X pc ls (vI z :: st) σ := by
  obtain ⟨p, l, e, R, s, m, args, below, meth, c, G, nL, ck, sk, Q⟩ := X
  obtain ⟨hx, hb, hml, hown, hlk, hts, hPK, hap, hck, hsk⟩ := C
  intro hR H locs sl hP hS hL
  exact lv_dup hx hb d rfl (k hR H locs sl hP hS hL)

theorem V_dupR {z : Nat} (C : Cx X cc own) (d : decode cc pc = .ok (.dup, 1))  (k : V X (pc + 1) ls (vR z :: vR z :: st) σ) : V X pc ls (vR z :: st) σ := by
  obtain ⟨p, l, e, R, s, m, args, below, meth, c, G, nL, ck, sk, Q⟩ := X
  obtain ⟨hx, hb, hml, hown, hlk, hts, hPK, hap, hck, hsk⟩ := C
  intro hR H locs sl hP hS hL
  exact lv_dup hx hb d rfl (k hR H locs sl hP hS hL)

theorem V_popI {z : Int} (C : Cx X cc own) (d : decode cc pc = .ok (.pop, 1))  (k : V X (pc + 1) ls st σ) : V X pc ls (vI z :: st) σ := by
  obtain ⟨p, l, e, R, s, m, args, below, meth, c, G, nL, ck, sk, Q⟩ := X
  obtain ⟨hx, hb, hml, hown, hlk, hts, hPK, hap, hck, hsk⟩ := C
  intro hR H locs sl hP hS hL
  exact lv_pop hx hb d rfl (k hR H locs sl hP hS hL)

theorem V_dup2IR {z : Int} {o : Nat} (C : Cx X cc own) (d : decode cc pc = .ok (.dup2, 1))   (k : V X (pc + 1) ls (vI z :: vR o :: vI z :: vR o :: st) σ) : V X pc ls (vI z :: vR o :: st) σ := by
  obtain ⟨p, l, e, R, s, m, args, below, meth, c, G, nL, ck, sk, Q⟩ := X
  obtain ⟨hx, hb, hml, hown, hlk, hts, hPK, hap, hck, hsk⟩ := C
  intro hR H locs sl hP hS hL
  exact lv_dup2_11 hx hb d rfl rfl (k hR H locs sl hP hS hL)

theorem V_ifeq (C : Cx X cc own) {off : Int} (d : decode cc pc = .ok (.ifCond .eq off, 3)) (tgt : Nat) (ht : (pc : Int) + off = (tgt : Int)) {a : Int} (ha : inR a) (kt : (a = 0) → V X tgt ls st σ) (kf : ¬ (a = 0) → V X (pc + 3) ls st σ) : V X pc ls (vI a :: st) σ := by
  obtain ⟨p, l, e, R, s, m, args, below, meth, c, G, nL, ck, sk, Q⟩ := X
  obtain ⟨hx, hb, hml, hown, hlk, hts, hPK, hap, hck, hsk⟩ := C
  intro hR H locs sl hP hS hL
  exact lv_if_eq hx hb d ht (fun h => kt ((oi_eq ha R0).mp h) hR H locs sl hP hS hL) (fun h => kf (fun q => h ((oi_eq ha R0).mpr q)) hR H locs sl hP hS hL)

theorem V_ifne (C : Cx X cc own) {off : Int} (d : decode cc pc = .ok (.ifCond .ne off, 3)) (tgt : Nat) (ht : (pc : Int) + off = (tgt : Int)) {a : Int} (ha : inR a) (kt : ¬ (a = 0) → V X tgt ls st σ) (kf : (a = 0) → V X (pc + 3) ls st σ) : V X pc ls (vI a :: st) σ := by
  obtain ⟨p, l, e, R, s, m, args, below, meth, c, G, nL, ck, sk, Q⟩ := X
  obtain ⟨hx, hb, hml, hown, hlk, hts, hPK, hap, hck, hsk⟩ := C
  intro hR H locs sl hP hS hL
  exact lv_if_ne hx hb d ht (fun h => kt (fun q => h ((oi_eq ha R0).mpr q)) hR H locs sl hP hS hL) (fun h => kf ((oi_eq ha R0).mp h) hR H locs sl hP hS hL)

theorem V_iflt (C : Cx X cc own) {off : Int} (d : decode cc pc = .ok (.ifCond .lt off, 3)) (tgt : Nat) (ht : (pc : Int) + off = (tgt : Int)) {a : Int} (ha : inR a) (kt : (a < 0) → V X tgt ls st σ) (kf : ¬ (a < 0) → V X (pc + 3) ls st σ) : V X pc ls (vI a :: st) σ := by
  obtain ⟨p, l, e, R, s, m, args, below, meth, c, G, nL, ck, sk, Q⟩ := X
  obtain ⟨hx, hb, hml, hown, hlk, hts, hPK, hap, hck, hsk⟩ := C
  intro hR H locs sl hP hS hL
  exact lv_if_lt hx hb d ht (fun h => kt ((oi_lt ha R0).mp h) hR H locs sl hP hS hL) (fun h => kf (fun q => h ((oi_lt ha R0).mpr q)) hR H locs sl hP hS hL)

theorem V_ifge (C : Cx X cc own) {off : Int} (d : decode cc pc = .ok (.ifCond .ge off, 3)) (tgt : Nat) (ht : (pc : Int) + off = (tgt : Int)) {a : Int} (ha : inR a) (kt : (0 ≤ a) → V X tgt ls st σ) (kf : ¬ (0 ≤ a) → V X (pc + 3) ls st σ) : V X pc ls (vI a :: st) σ := by
  obtain ⟨p, l, e, R, s, m, args, below, meth, c, G, nL, ck, sk, Q⟩ := X
  obtain ⟨hx, hb, hml, hown, hlk, hts, hPK, hap, hck, hsk⟩ := C
  intro hR H locs sl hP hS hL
  exact lv_if_ge hx hb d ht (fun h => kt ((oi_le R0 ha).mp h) hR H locs sl hP hS hL) (fun h => kf (fun q => h ((oi_le R0 ha).mpr q)) hR H locs sl hP hS hL)

theorem V_ifgt (C : Cx X cc own) {off : Int} (d : decode cc pc = .ok (.ifCond .gt off, 3)) (tgt : Nat) (ht : (pc : Int) + off = (tgt : Int)) {a : Int} (ha : inR a) (kt : (0 < a) → V X tgt ls st σ) (kf : ¬ (0 < a) → V X (pc + 3) ls st σ) : V X pc ls (vI a :: st) σ := by
  obtain ⟨p, l, e, R, s, m, args, below, meth, c, G, nL, ck, sk, Q⟩ := X
  obtain ⟨hx, hb, hml, hown, hlk, hts, hPK, hap, hck, hsk⟩ := C
  intro hR H locs sl hP hS hL
  exact lv_if_gt hx hb d ht (fun h => kt ((oi_lt R0 ha).mp h) hR H locs sl hP hS hL) (fun h => kf (fun q => h ((oi_lt R0 ha).mpr q)) hR H locs sl hP hS hL)

theorem V_ifle (C : Cx X cc own) {off : Int} (d : decode cc pc = .ok (.ifCond .le off, 3)) (tgt : Nat) (ht : (pc : Int) + off = (tgt : Int)) {a : Int} (ha : inR a) (kt : (a ≤ 0) → V X tgt ls st σ) (kf : ¬ (a ≤ 0) → V X (pc + 3) ls st σ) : V X pc ls (vI a :: st) σ := by
  obtain ⟨p, l, e, R, s, m, args, below, meth, c, G, nL, ck, sk, Q⟩ := X
  obtain ⟨hx, hb, hml, hown, hlk, hts, hPK, hap, hck, hsk⟩ := C
  intro hR H locs sl hP hS hL
  exact lv_if_le hx hb d ht (fun h => kt ((oi_le ha R0).mp h) hR H locs sl hP hS hL) (fun h => kf (fun q => h ((oi_le ha R0).mpr q)) hR H locs sl hP hS hL)

theorem V_icmpeq (C : Cx X cc own) {off : Int} (d : decode cc pc = .ok (.if_icmp .eq off, 3)) (tgt : Nat) (ht : (pc : Int) + off = (tgt : Int)) {a b : Int} (ha : inR a) (hb1 : inR b) (kt : (a = b) → V X tgt ls st σ) (kf : ¬ (a = b) → V X (pc + 3) ls st σ) : V X pc ls (vI b :: vI a :: st) σ := by
  obtain ⟨p, l, e, R, s, m, args, below, meth, c, G, nL, ck, sk, Q⟩ := X
  obtain ⟨hx, hb, hml, hown, hlk, hts, hPK, hap, hck, hsk⟩ := C
  intro hR H locs sl hP hS hL
  exact lv_icmp_eq hx hb d ht (fun h => kt ((oi_eq ha hb1).mp h) hR H locs sl hP hS hL) (fun h => kf (fun q => h ((oi_eq ha hb1).mpr q)) hR H locs sl hP hS hL)

theorem V_icmpne (C : Cx X cc own) {off : Int} (d : decode cc pc = .ok (.if_icmp .ne off, 3)) (tgt : Nat) (ht : (pc : Int) + off = (tgt : Int)) {a b : Int} (ha : inR a) (hb1 : inR b) (kt : ¬ (a = b) → V X tgt ls st σ) (kf : (a = b) → V X (pc + 3) ls st σ) : V X pc ls (vI b :: vI a :: st) σ := by
  obtain ⟨p, l, e, R, s, m, args, below, meth, c, G, nL, ck, sk, Q⟩ := X
  obtain ⟨hx, hb, hml, hown, hlk, hts, hPK, hap, hck, hsk⟩ := C
  intro hR H locs sl hP hS hL
  exact lv_icmp_ne hx hb d ht (fun h => kt (fun q => h ((oi_eq ha hb1).mpr q)) hR H locs sl hP hS hL) (fun h => kf ((oi_eq ha hb1).mp h) hR H locs sl hP hS hL)

theorem V_icmplt (C : Cx X cc own) {off : Int} (d : decode cc pc = .ok (.if_icmp .lt off, 3)) (tgt : Nat) (ht : (pc : Int) + off = (tgt : Int)) {a b : Int} (ha : inR a) (hb1 : inR b) (kt : (a < b) → V X tgt ls st σ) (kf : ¬ (a < b) → V X (pc + 3) ls st σ) : V X pc ls (vI b :: vI a :: st) σ := by
  obtain ⟨p, l, e, R, s, m, args, below, meth, c, G, nL, ck, sk, Q⟩ := X
  obtain ⟨hx, hb, hml, hown, hlk, hts, hPK, hap, hck, hsk⟩ := C
  intro hR H locs sl hP hS hL
  exact lv_icmp_lt hx hb d ht (fun h => kt ((oi_lt ha hb1).mp h) hR H locs sl hP hS hL) (fun h => kf (fun q => h ((oi_lt ha hb1).mpr q)) hR H locs sl hP hS hL)

theorem V_icmpge (C : Cx X cc own) {off : Int} (d : decode cc pc = .ok (.if_icmp .ge off, 3)) (tgt : Nat) (ht : (pc : Int) + off = (tgt : Int)) {a b : Int} (ha : inR a) (hb1 : inR b) (kt : (b ≤ a) → V X tgt ls st σ) (kf : ¬ (b ≤ a) → V X (pc + 3) ls st σ) : V X pc ls (vI b :: vI a :: st) σ := by
  obtain ⟨p, l, e, R, s, m, args, below, meth, c, G, nL, ck, sk, Q⟩ := X
  obtain ⟨hx, hb, hml, hown, hlk, hts, hPK, hap, hck, hsk⟩ := C
  intro hR H locs sl hP hS hL
  exact lv_icmp_ge hx hb d ht (fun h => kt ((oi_le hb1 ha).mp h) hR H locs sl hP hS hL) (fun h => kf (fun q => h ((oi_le hb1 ha).mpr q)) hR H locs sl hP hS hL)

theorem V_icmpgt (C : Cx X cc own) {off : Int} (d : decode cc pc = .ok (.if_icmp .gt off, 3)) (tgt : Nat) (ht : (pc : Int) + off = (tgt : Int)) {a b : Int} (ha : inR a) (hb1 : inR b) (kt : (b < a) → V X tgt ls st σ) (kf : ¬ (b < a) → V X (pc + 3) ls st σ) : V X pc ls (vI b :: vI a :: st) σ := by
  obtain ⟨p, l, e, R, s, m, args, below, meth, c, G, nL, ck, sk, Q⟩ := X
  obtain ⟨hx, hb, hml, hown, hlk, hts, hPK, hap, hck, hsk⟩ := C
  intro hR H locs sl hP hS hL
  exact lv_icmp_gt hx hb d ht (fun h => kt ((oi_lt hb1 ha).mp h) hR H locs sl hP hS hL) (fun h => kf (fun q => h ((oi_lt hb1 ha).mpr q)) hR H locs sl hP hS hL)

theorem V_icmple (C : Cx X cc own) {off : Int} (d : decode cc pc = .ok (.if_icmp .le off, 3)) (tgt : Nat) (ht : (pc : Int) + off = (tgt : Int)) {a b : Int} (ha : inR a) (hb1 : inR b) (kt : (a ≤ b) → V X tgt ls st σ) (kf : ¬ (a ≤ b) → V X (pc + 3) ls st σ) : V X pc ls (vI b :: vI a :: st) σ := by
  obtain ⟨p, l, e, R, s, m, args, below, meth, c, G, nL, ck, sk, Q⟩ := X
  obtain ⟨hx, hb, hml, hown, hlk, hts, hPK, hap, hck, hsk⟩ := C
  intro hR H locs sl hP hS hL
  exact lv_icmp_le hx hb d ht (fun h => kt ((oi_le ha hb1).mp h) hR H locs sl hP hS hL) (fun h => kf (fun q => h ((oi_le ha hb1).mpr q)) hR H locs sl hP hS hL)

theorem V_goto (C : Cx X cc own) {off : Int} (d : decode cc pc = .ok (.goto off, 3)) (tgt : Nat) (ht : (pc : Int) + off = (tgt : Int)) (k : V X tgt ls st σ) : V X pc ls st σ := by
  obtain ⟨p, l, e, R, s, m, args, below, meth, c, G, nL, ck, sk, Q⟩ := X
  obtain ⟨hx, hb, hml, hown, hlk, hts, hPK, hap, hck, hsk⟩ := C
  intro hR H locs sl hP hS hL
  exact lv_goto hx hb d ht (k hR H locs sl hP hS hL)

theorem V_ifnonnull (C : Cx X cc own) {off : Int} {o : Nat} (d : decode cc pc = .ok (.ifnonnull off, 3)) (tgt : Nat) (ht : (pc : Int) + off = (tgt : Int)) (k : V X tgt ls st σ) : V X pc ls (vR o :: st) σ := by
  obtain ⟨p, l, e, R, s, m, args, below, meth, c, G, nL, ck, sk, Q⟩ := X
  obtain ⟨hx, hb, hml, hown, hlk, hts, hPK, hap, hck, hsk⟩ := C
  intro hR H locs sl hP hS hL
  exact lv_ifnonnull hx hb d ht (k hR H locs sl hP hS hL)

theorem V_switch (C : Cx X cc own) {dflt lo hi : Int} {offs : Array Int} {len : Nat} {a : Int} (d : decode cc pc = .ok (.tableswitch dflt lo hi offs, len)) (ha : inR a)
    (ko : a < lo ∨ hi < a → ∀ tgt : Nat, (pc : Int) + dflt = (tgt : Int) → V X tgt ls st σ) (dt : ∃ tgt : Nat, (pc : Int) + dflt = (tgt : Int))
    (ki : ¬ a < lo → ¬ hi < a → ∃ (off : Int) (tgt : Nat), offs[(a - lo).toNat]? = some off ∧ (pc : Int) + off = (tgt : Int) ∧ V X tgt ls st σ) : V X pc ls (vI a :: st) σ := by
  obtain ⟨p, l, e, R, s, m, args, below, meth, c, G, nL, ck, sk, Q⟩ := X
  obtain ⟨hx, hb, hml, hown, hlk, hts, hPK, hap, hck, hsk⟩ := C
  intro hR H locs sl hP hS hL
  by_cases h : a < lo ∨ hi < a
  · obtain ⟨tgt, ht⟩ := dt
    exact lv_tableOut hx hb d (by rw [oi_toInt ha]; exact h) ht (ko h tgt ht hR H locs sl hP hS hL)
  · obtain ⟨off, tgt, h1, h2, h3⟩ := ki (fun q => h (Or.inl q)) (fun q => h (Or.inr q))
    exact lv_tableIn hx hb d (by rw [oi_toInt ha]; exact fun q => h (Or.inl q)) (by rw [oi_toInt ha]; exact fun q => h (Or.inr q)) (by rw [oi_toInt ha]; exact h1) h2 (h3 hR H locs sl hP hS hL)

theorem V_lookup (C : Cx X cc own) {dflt : Int} {ps : Array (Int × Int)} {len : Nat} {a : Int} (d : decode cc pc = .ok (.lookupswitch dflt ps, len)) (hp : (ps.toList.zip (ps.toList.drop 1)).all (fun (a, next) => a.1 < next.1) = true) (ha : inR a)
    (k : ∃ (off : Int) (tgt : Nat), Op.lookupswitch.offset ps.toList dflt a = off ∧ (pc : Int) + off = (tgt : Int) ∧ V X tgt ls st σ) : V X pc ls (vI a :: st) σ := by
  obtain ⟨p, l, e, R, s, m, args, below, meth, c, G, nL, ck, sk, Q⟩ := X
  obtain ⟨hx, hb, hml, hown, hlk, hts, hPK, hap, hck, hsk⟩ := C
  intro hR H locs sl hP hS hL
  obtain ⟨off, tgt, h1, h2, h3⟩ := k
  exact lv_lookup hx hb d hp (by rw [oi_toInt ha]; exact h1) h2 (h3 hR H locs sl hP hS hL)

theorem ent_obj (G : GE) (σ : Wd) {o ci : Nat} (hk : kd o = ci) (hc : ci < 1000) : ent G σ o = .inr (ci, fsl G σ o 0 (flds ci)) := by
  unfold ent; rw [hk, if_pos hc]
theorem ent_int (G : GE) (σ : Wd) {o n : Nat} (hk : kd o = 1000 + n) (hn : n < 1000) : ent G σ o = .inl (gI G, n, .inl (fun j => Int32.ofInt (σ o (j : Int)))) := by
  unfold ent; rw [hk, if_neg (by omega), if_pos (by omega), show 1000 + n - 1000 = n by omega]
theorem ent_chr (G : GE) (σ : Wd) {o n : Nat} (hk : kd o = 2000 + n) (hn : n < 1000) : ent G σ o = .inl (gC G, n, .inl (fun j => Int32.ofInt (σ o (j : Int)))) := by
  unfold ent; rw [hk, if_neg (by omega), if_neg (by omega), if_pos (by omega), show 2000 + n - 2000 = n by omega]
theorem ent_ring (G : GE) (σ : Wd) {o : Nat} (hk : kd o = 3000) : ent G σ o = .inl (gS G, 8, .inr (.inr (.inr (.inr (fun j => some (gA G (o + 1 + 5 * j))))))) := by
  unfold ent; rw [hk, if_neg (by omega), if_neg (by omega), if_neg (by omega)]
theorem V_getv (C : Cx X cc own) {index ci j dd o : Nat} (d : decode cc pc = .ok (.getfield index, 3)) (fl : FL own index ci j) (hk : kd o = ci) (hc : ci < 1000) (hf : (flds ci)[j]? = some dd) {v : AV} (hv : ∀ G, fvl G σ o j dd = cv G v) (k : V X (pc + 3) ls (v :: st) σ) : V X pc ls (vR o :: st) σ := by
  obtain ⟨p, l, e, R, s, m, args, below, meth, c, G, nL, ck, sk, Q⟩ := X
  obtain ⟨hx, hb, hml, hown, hlk, hts, hPK, hap, hck, hsk⟩ := C
  intro hR H locs sl hP hS hL
  obtain ⟨Cn, Tn, N, ty, h1, h2, h3, h4, h5, h6⟩ := fl
  have hko : o < NO := kd_lt hk (by omega)
  have he : (wsO G σ)[o]? = some (gA G o, .inr (ci, fsl G σ o 0 (flds ci))) := by rw [wsO_at G σ hko, ent_obj G σ hk hc]
  have hfs : (fsl G σ o 0 (flds ci))[j]? = some (cv G v) := by rw [fsl_at G σ o (flds ci) 0 j dd hf, Nat.zero_add, hv G]
  rcases h6 with h6 | ⟨host, h6⟩
  · exact va_get hx hb hts h2 hown hPK.1 hP o he h1 j h5 (hts _ h6) (fun _ q => q) hfs d (k hR H locs sl hP hS hL)
  · exact va_getN hx hb hts h2 hown hPK.1 hP o he h1 j h5 (va_Nw.use (by rfl) (hPK.2 _ h6)) (fun _ q => q) hfs d (k hR H locs sl hP hS hL)
theorem V_geti (C : Cx X cc own) {index ci j o : Nat} {ji : Int} (d : decode cc pc = .ok (.getfield index, 3)) (fl : FL own index ci j) (hk : kd o = ci) (hc : ci < 1000) (hf : (flds ci)[j]? = some 0) (hj : (j : Int) = ji) (k : V X (pc + 3) ls (vI (σ o ji) :: st) σ) : V X pc ls (vR o :: st) σ :=
  V_getv C d fl hk hc hf (v := vI (σ o ji)) (fun G => by unfold fvl; rw [if_pos rfl, hj]; rfl) k
theorem V_getr (C : Cx X cc own) {index ci j o dd o2 : Nat} (d : decode cc pc = .ok (.getfield index, 3)) (fl : FL own index ci j) (hk : kd o = ci) (hc : ci < 1000) (hf : (flds ci)[j]? = some dd) (hd : dd ≠ 0 ∧ dd ≠ 9999) (ho : o + dd = o2) (k : V X (pc + 3) ls (vR o2 :: st) σ) : V X pc ls (vR o :: st) σ :=
  V_getv C d fl hk hc hf (v := vR o2) (fun G => by unfold fvl; rw [if_neg hd.1, if_neg hd.2, ho]; rfl) k
theorem V_getm (C : Cx X cc own) {index ci j o o2 : Nat} (d : decode cc pc = .ok (.getfield index, 3)) (fl : FL own index ci j) (hk : kd o = ci) (hc : ci < 1000) (hf : (flds ci)[j]? = some 9999) (ho : (σ o (j : Int)).toNat = o2) (k : V X (pc + 3) ls (vR o2 :: st) σ) : V X pc ls (vR o :: st) σ :=
  V_getv C d fl hk hc hf (v := vR o2) (fun G => by unfold fvl; rw [if_neg (by decide), if_pos rfl, ho]; rfl) k
theorem V_putv (C : Cx X cc own) {index ci j dd o : Nat} {x : Int} {t0 : FieldType} (d : decode cc pc = .ok (.putfield index, 3)) (fl : FL own index ci j) (fw : FW ci j t0) (hk : kd o = ci) (hc : ci < 1000) (hf : (flds ci)[j]? = some dd) (hx0 : inR x) {v : AV} (hv : ∀ G, fvl G (up σ o (j : Int) x) o j dd = cv G v) (hn : ∀ G, narrow t0 (cv G v) = cv G v ∧ fits t0 (cv G v) = true) (k : V X (pc + 3) ls st (up σ o (j : Int) x)) : V X pc ls (v :: vR o :: st) σ := by
  obtain ⟨p, l, e, R, s, m, args, below, meth, c, G, nL, ck, sk, Q⟩ := X
  obtain ⟨hx, hb, hml, hown, hlk, hts, hPK, hap, hck, hsk⟩ := C
  intro hR H locs sl hP hS hL
  obtain ⟨Cn, Tn, N, ty, h1, h2, h3, h4, h5, h6⟩ := fl
  obtain ⟨f1, f2⟩ := fw _ _ _ h1
  have hko : o < NO := kd_lt hk (by omega)
  have he : (wsO G σ)[o]? = some (gA G o, .inr (ci, fsl G σ o 0 (flds ci))) := by rw [wsO_at G σ hko, ent_obj G σ hk hc]
  have hlt : j < (fsl G σ o 0 (flds ci)).length := by rw [fsl_len]; exact (List.getElem?_eq_some_iff.mp hf).1
  have hset : (wsO G σ).set o (gA G o, .inr (ci, (fsl G σ o 0 (flds ci)).set j (cv G v))) = wsO G (up σ o (j : Int) x) := by
    refine wsO_set G σ _ hko ?_ (fun q hq => ent_up_ne G σ o _ x q hq)
    rw [ent_obj G _ hk hc]
    have := fsl_up G σ o x (flds ci) 0 j dd hf
    rw [Nat.zero_add] at this
    rw [this, hv G]
  rcases h6 with h6 | ⟨host, h6⟩
  · refine va_put hx hb hts h2 ty h3 h4 hown hPK.1 hP (apart_D hap σ) hS o he h1 j h5 (hts _ h6) (fun _ q => q) f1 f2 (hn G).1 (hn G).2 hlt d (fun H1 locs1 hP1 hD1 hS1 => ?_)
    rw [hset] at hP1
    exact k (up_R hR hx0) H1 locs1 sl hP1 hS1 hL
  · refine va_putN hx hb hts h2 ty h3 h4 hown hPK.1 hP (apart_D hap σ) hS o he h1 j h5 (va_Nw.use (by rfl) (hPK.2 _ h6)) (fun _ q => q) f1 f2 (hn G).1 (hn G).2 hlt d (fun H1 locs1 hP1 hD1 hS1 => ?_)
    rw [hset] at hP1
    exact k (up_R hR hx0) H1 locs1 sl hP1 hS1 hL
theorem up_at (σ : Wd) (o : Nat) (i x : Int) : up σ o i x o i = x := by unfold up; rw [if_pos ⟨rfl, rfl⟩]
theorem V_puti (C : Cx X cc own) {index ci j o : Nat} {ji x : Int} (d : decode cc pc = .ok (.putfield index, 3)) (fl : FL own index ci j) (fw : FW ci j .int) (hk : kd o = ci) (hc : ci < 1000) (hf : (flds ci)[j]? = some 0) (hj : (j : Int) = ji) (hx0 : inR x) (k : V X (pc + 3) ls st (up σ o ji x)) : V X pc ls (vI x :: vR o :: st) σ := by
  subst hj
  exact V_putv C d fl fw hk hc hf hx0 (v := vI x) (fun G => by unfold fvl; rw [if_pos rfl, up_at]; rfl) (fun G => ⟨rfl, rfl⟩) k
theorem V_putm (C : Cx X cc own) {index ci j o o2 : Nat} {n : String} (d : decode cc pc = .ok (.putfield index, 3)) (fl : FL own index ci j) (fw : FW ci j (.object n)) (hk : kd o = ci) (hc : ci < 1000) (hf : (flds ci)[j]? = some 9999) (ho : o2 < 2147483648) (k : V X (pc + 3) ls st (up σ o (j : Int) (o2 : Int))) : V X pc ls (vR o2 :: vR o :: st) σ :=
  V_putv C d fl fw hk hc hf (x := (o2 : Int)) ⟨by omega, by omega⟩ (v := vR o2) (fun G => by unfold fvl; rw [if_neg (by decide), if_pos rfl, up_at, Int.toNat_natCast]; rfl) (fun G => ⟨rfl, rfl⟩) k

theorem V_iald (C : Cx X cc own) (d : decode cc pc = .ok (.iaload, 1)) {o n : Nat} {i : Int} (hk : kd o = 1000 + n) (hn : n < 1000) (h0 : 0 ≤ i) (h1 : i < n) (k : V X (pc + 1) ls (vI (σ o i) :: st) σ) : V X pc ls (vI i :: vR o :: st) σ := by
  obtain ⟨p, l, e, R, s, m, args, below, meth, c, G, nL, ck, sk, Q⟩ := X
  obtain ⟨hx, hb, hml, hown, hlk, hts, hPK, hap, hck, hsk⟩ := C
  intro hR H locs sl hP hS hL
  have hko : o < NO := kd_lt hk (by omega)
  have he : (wsO G σ)[o]? = some (gA G o, .inl (gI G, n, .inl (fun j => Int32.ofInt (σ o (j : Int))))) := by rw [wsO_at G σ hko, ent_int G σ hk hn]
  refine va_iald hx hb hPK.1 hP o 0 he rfl (oi_in h0 h1 (by omega)) d ?_
  rw [oi_nat h0 ⟨by omega, by omega⟩, Int.toNat_of_nonneg h0]
  exact k hR H locs sl hP hS hL
theorem V_cald (C : Cx X cc own) (d : decode cc pc = .ok (.caload, 1)) {o n : Nat} {i : Int} (hk : kd o = 2000 + n) (hn : n < 1000) (h0 : 0 ≤ i) (h1 : i < n) (k : V X (pc + 1) ls (vI (σ o i) :: st) σ) : V X pc ls (vI i :: vR o :: st) σ := by
  obtain ⟨p, l, e, R, s, m, args, below, meth, c, G, nL, ck, sk, Q⟩ := X
  obtain ⟨hx, hb, hml, hown, hlk, hts, hPK, hap, hck, hsk⟩ := C
  intro hR H locs sl hP hS hL
  have hko : o < NO := kd_lt hk (by omega)
  have he : (wsO G σ)[o]? = some (gA G o, .inl (gC G, n, .inl (fun j => Int32.ofInt (σ o (j : Int))))) := by rw [wsO_at G σ hko, ent_chr G σ hk hn]
  refine va_cald hx hb hPK.1 hP o 1 he rfl (oi_in h0 h1 (by omega)) d ?_
  rw [oi_nat h0 ⟨by omega, by omega⟩, Int.toNat_of_nonneg h0]
  exact k hR H locs sl hP hS hL
theorem arr_up (σ : Wd) (o : Nat) {i : Int} (x : Int) (h0 : 0 ≤ i) : (fun j : Nat => Int32.ofInt (up σ o i x o (j : Int))) = upd (fun j : Nat => Int32.ofInt (σ o (j : Int))) i.toNat (Int32.ofInt x) := by
  funext j
  unfold up upd
  by_cases hj : (j : Int) = i
  · rw [if_pos ⟨rfl, hj⟩, if_pos (by omega)]
  · rw [if_neg (fun q => hj q.2), if_neg (by omega)]
theorem V_iast (C : Cx X cc own) (d : decode cc pc = .ok (.iastore, 1)) {o n : Nat} {i x : Int} (hk : kd o = 1000 + n) (hn : n < 1000) (h0 : 0 ≤ i) (h1 : i < n) (hx0 : inR x) (k : V X (pc + 1) ls st (up σ o i x)) : V X pc ls (vI x :: vI i :: vR o :: st) σ := by
  obtain ⟨p, l, e, R, s, m, args, below, meth, c, G, nL, ck, sk, Q⟩ := X
  obtain ⟨hx, hb, hml, hown, hlk, hts, hPK, hap, hck, hsk⟩ := C
  intro hR H locs sl hP hS hL
  have hko : o < NO := kd_lt hk (by omega)
  have he : (wsO G σ)[o]? = some (gA G o, .inl (gI G, n, .inl (fun j => Int32.ofInt (σ o (j : Int))))) := by rw [wsO_at G σ hko, ent_int G σ hk hn]
  refine va_iast hx hb hPK.1 hP (apart_D hap σ) hS o 0 he rfl (oi_in h0 h1 (by omega)) d (fun H1 locs1 hP1 hD1 hS1 => ?_)
  rw [oi_nat h0 ⟨by omega, by omega⟩, ← arr_up σ o x h0, wsO_set G σ (up σ o i x) hko (ent_int G _ hk hn) (fun q hq => ent_up_ne G σ o _ x q hq)] at hP1
  exact k (up_R hR hx0) H1 locs1 sl hP1 hS1 hL
theorem V_cast (C : Cx X cc own) (d : decode cc pc = .ok (.castore, 1)) {o n : Nat} {i x : Int} (hk : kd o = 2000 + n) (hn : n < 1000) (h0 : 0 ≤ i) (h1 : i < n) (hx0 : 0 ≤ x) (hx1 : x < 65536) (k : V X (pc + 1) ls st (up σ o i x)) : V X pc ls (vI x :: vI i :: vR o :: st) σ := by
  obtain ⟨p, l, e, R, s, m, args, below, meth, c, G, nL, ck, sk, Q⟩ := X
  obtain ⟨hx, hb, hml, hown, hlk, hts, hPK, hap, hck, hsk⟩ := C
  intro hR H locs sl hP hS hL
  have hko : o < NO := kd_lt hk (by omega)
  have he : (wsO G σ)[o]? = some (gA G o, .inl (gC G, n, .inl (fun j => Int32.ofInt (σ o (j : Int))))) := by rw [wsO_at G σ hko, ent_chr G σ hk hn]
  refine va_cast hx hb hPK.1 hP (apart_D hap σ) hS o 1 he rfl (oi_in h0 h1 (by omega)) d (fun H1 locs1 hP1 hD1 hS1 => ?_)
  rw [oi_nar hx0 hx1, oi_nat h0 ⟨by omega, by omega⟩, ← arr_up σ o x h0, wsO_set G σ (up σ o i x) hko (ent_chr G _ hk hn) (fun q hq => ent_up_ne G σ o _ x q hq)] at hP1
  exact k (up_R hR ⟨by omega, by omega⟩) H1 locs1 sl hP1 hS1 hL
theorem V_aald (C : Cx X cc own) (d : decode cc pc = .ok (.aaload, 1)) {o o2 : Nat} {i : Int} (hk : kd o = 3000) (h0 : 0 ≤ i) (h1 : i < 8) (ho : o + 1 + 5 * i.toNat = o2) (k : V X (pc + 1) ls (vR o2 :: st) σ) : V X pc ls (vI i :: vR o :: st) σ := by
  obtain ⟨p, l, e, R, s, m, args, below, meth, c, G, nL, ck, sk, Q⟩ := X
  obtain ⟨hx, hb, hml, hown, hlk, hts, hPK, hap, hck, hsk⟩ := C
  intro hR H locs sl hP hS hL
  have hko : o < NO := kd_lt hk (by omega)
  have he : (wsO G σ)[o]? = some (gA G o, .inl (gS G, 8, .inr (.inr (.inr (.inr (fun j => some (gA G (o + 1 + 5 * j)))))))) := by rw [wsO_at G σ hko, ent_ring G σ hk]
  refine va_aldq hx hb hPK.1 hP o 2 he rfl (oi_in h0 h1 (by omega)) d ?_
  rw [oi_nat h0 ⟨by omega, by omega⟩, ho]
  exact k hR H locs sl hP hS hL
theorem V_alen (C : Cx X cc own) (d : decode cc pc = .ok (.arraylength, 1)) {o n : Nat} {ni : Int} (hk : kd o = 1000 + n ∨ kd o = 2000 + n ∨ (kd o = 3000 ∧ n = 8)) (hn : n < 1000) (hi : (n : Int) = ni) (k : V X (pc + 1) ls (vI ni :: st) σ) : V X pc ls (vR o :: st) σ := by
  obtain ⟨p, l, e, R, s, m, args, below, meth, c, G, nL, ck, sk, Q⟩ := X
  obtain ⟨hx, hb, hml, hown, hlk, hts, hPK, hap, hck, hsk⟩ := C
  intro hR H locs sl hP hS hL
  subst hi
  have e : Int32.ofNat n = Int32.ofInt (n : Int) := (Int32.ofInt_eq_ofNat (n := n)).symm
  rcases hk with hk | hk | ⟨hk, rfl⟩
  · have he : (wsO G σ)[o]? = some (gA G o, .inl (gI G, n, .inl (fun j => Int32.ofInt (σ o (j : Int))))) := by rw [wsO_at G σ (kd_lt hk (by omega)), ent_int G σ hk hn]
    exact va_alen hx hb hPK.1 hP o 0 he rfl e d (k hR H locs sl hP hS hL)
  · have he : (wsO G σ)[o]? = some (gA G o, .inl (gC G, n, .inl (fun j => Int32.ofInt (σ o (j : Int))))) := by rw [wsO_at G σ (kd_lt hk (by omega)), ent_chr G σ hk hn]
    exact va_alen hx hb hPK.1 hP o 1 he rfl e d (k hR H locs sl hP hS hL)
  · have he : (wsO G σ)[o]? = some (gA G o, .inl (gS G, 8, .inr (.inr (.inr (.inr (fun j => some (gA G (o + 1 + 5 * j)))))))) := by rw [wsO_at G σ (kd_lt hk (by omega)), ent_ring G σ hk]
    exact va_alen hx hb hPK.1 hP o 2 he rfl e d (k hR H locs sl hP hS hL)

theorem V_iret (C : Cx X cc own) {fin : Option AV → Wd → Prop} {z : Int} (E : Ex X (some .int) fin) (d : decode cc pc = .ok (.ireturn, 1)) (h : fin (some (vI z)) σ) : V X pc ls [vI z] σ := by
  obtain ⟨p, l, e, R, s, m, args, below, meth, c, G, nL, ck, sk, Q⟩ := X
  obtain ⟨hx, hb, hml, hown, hlk, hts, hPK, hap, hck, hsk⟩ := C
  obtain ⟨hr, hQ⟩ := E
  subst hQ
  intro hR H locs sl hP hS hL
  exact W.iret (v := Int32.ofInt z) hx hb hr (fun t ht hW => ⟨⟨some (vI z), σ, rfl, h, hR, by rw [ht]; exact hP⟩, hS.F ht⟩) hS.2.2 d hlk

theorem V_zret (C : Cx X cc own) {fin : Option AV → Wd → Prop} {z : Int} (hz : z = 0 ∨ z = 1) (E : Ex X (some .boolean) fin) (d : decode cc pc = .ok (.ireturn, 1)) (h : fin (some (vI z)) σ) : V X pc ls [vI z] σ := by
  obtain ⟨p, l, e, R, s, m, args, below, meth, c, G, nL, ck, sk, Q⟩ := X
  obtain ⟨hx, hb, hml, hown, hlk, hts, hPK, hap, hck, hsk⟩ := C
  obtain ⟨hr, hQ⟩ := E
  subst hQ
  intro hR H locs sl hP hS hL
  exact W.zret (v := Int32.ofInt z) hx hb hr (by rcases hz with rfl | rfl <;> rfl) (fun t ht hW => ⟨⟨some (vI z), σ, rfl, h, hR, by rw [ht]; exact hP⟩, hS.F ht⟩) hS.2.2 d hlk

theorem V_cret (C : Cx X cc own) {fin : Option AV → Wd → Prop} {z : Int} (h0 : 0 ≤ z) (h1 : z < 65536) (E : Ex X (some .char) fin) (d : decode cc pc = .ok (.ireturn, 1)) (h : fin (some (vI z)) σ) : V X pc ls [vI z] σ := by
  obtain ⟨p, l, e, R, s, m, args, below, meth, c, G, nL, ck, sk, Q⟩ := X
  obtain ⟨hx, hb, hml, hown, hlk, hts, hPK, hap, hck, hsk⟩ := C
  obtain ⟨hr, hQ⟩ := E
  subst hQ
  intro hR H locs sl hP hS hL
  exact W.zret (v := Int32.ofInt z) hx hb hr (oi_narV h0 h1) (fun t ht hW => ⟨⟨some (vI z), σ, rfl, h, hR, by rw [ht]; exact hP⟩, hS.F ht⟩) hS.2.2 d hlk

theorem V_lret (C : Cx X cc own) {fin : Option AV → Wd → Prop} {z : Int} (E : Ex X (some .long) fin) (d : decode cc pc = .ok (.lreturn, 1)) (h : fin (some (vL z)) σ) : V X pc ls [vL z] σ := by
  obtain ⟨p, l, e, R, s, m, args, below, meth, c, G, nL, ck, sk, Q⟩ := X
  obtain ⟨hx, hb, hml, hown, hlk, hts, hPK, hap, hck, hsk⟩ := C
  obtain ⟨hr, hQ⟩ := E
  subst hQ
  intro hR H locs sl hP hS hL
  exact W.lret (v := Int64.ofInt z) hx hb hr (fun t ht hW => ⟨⟨some (vL z), σ, rfl, h, hR, by rw [ht]; exact hP⟩, hS.F ht⟩) hS.2.2 d hlk

theorem V_aret (C : Cx X cc own) {fin : Option AV → Wd → Prop} {o : Nat} {n : String} (E : Ex X (some (.object n)) fin) (d : decode cc pc = .ok (.areturn, 1)) (h : fin (some (vR o)) σ) : V X pc ls [vR o] σ := by
  obtain ⟨p, l, e, R, s, m, args, below, meth, c, G, nL, ck, sk, Q⟩ := X
  obtain ⟨hx, hb, hml, hown, hlk, hts, hPK, hap, hck, hsk⟩ := C
  obtain ⟨hr, hQ⟩ := E
  subst hQ
  intro hR H locs sl hP hS hL
  exact W.aret (v := .ref (gA G o)) hx hb hr (Or.inl ⟨_, rfl⟩) (Or.inr ⟨_, rfl⟩) (fun t ht hW => ⟨⟨some (vR o), σ, rfl, h, hR, by rw [ht]; exact hP⟩, hS.F ht⟩) hS.2.2 d hlk

theorem V_vret (C : Cx X cc own) {fin : Option AV → Wd → Prop}  (E : Ex X none fin) (d : decode cc pc = .ok (.return_, 1)) (h : fin none σ) : V X pc ls [] σ := by
  obtain ⟨p, l, e, R, s, m, args, below, meth, c, G, nL, ck, sk, Q⟩ := X
  obtain ⟨hx, hb, hml, hown, hlk, hts, hPK, hap, hck, hsk⟩ := C
  obtain ⟨hr, hQ⟩ := E
  subst hQ
  intro hR H locs sl hP hS hL
  exact W.vret hx hb hr (fun t ht hW => ⟨⟨none, σ, rfl, h, hR, by rw [ht]; exact hP⟩, hS.F ht⟩) hS.2.2 d hlk

end VR
/-! calls, and a contract out of a walk -/
theorem PK.moved {G : GE} {u U : State} (hW : u.WarmedH U.vm) (h : PK G u) : PK G U := by
  refine ⟨va_K.moved hW.alike h.1, fun wd hw => ?_⟩
  have hn : isNest wd = true := (List.mem_filter.mp hw).2
  have h0 := h.2 wd hw
  cases wd <;> first | exact va_Nw.warmF hW h0 | exact va_Nw.warmM hW h0 | cases hn
theorem PK.calling {G : GE} {U : State} (g : JFrame) (mk : MethodId) (a : Array Value) (h : PK G U) : PK G (U.calling g mk a) := by
  refine ⟨va_K.moved (u := U) (U := U.calling g mk a) (Vm.Alike.refl U.vm) h.1, fun wd hw => ?_⟩
  have hn : isNest wd = true := (List.mem_filter.mp hw).2
  have ho : wd.onTables = true := by cases wd <;> first | rfl | cases hn
  exact va_Nw.same (u := U) (U := U.calling g mk a) ho rfl (h.2 wd hw)
theorem gw_pay {s : State} {args : Array Value} (hts : ∀ wd ∈ gw, wd.before args s = true) {y : MethodName} {b : ByteArray} {nL : Nat} {ret : Option FieldType} (hc : Cond.code y b nL ret ∈ gw) : ∀ w ∈ (Cond.code y b nL ret :: gw), ∀ (a' : Array Value) (U : State), s.WarmedH U.vm → w.before a' U = true := by
  intro w hw a' U hW
  have hm : w ∈ gw := by
    rcases List.mem_cons.mp hw with h | h
    · rw [h]; exact hc
    · exact h
  exact word_at hW (gw_good hm) (hts w hm)
abbrev PcO (G : GE) (avs : List AV) (σ : Wd) : Array Value → State → Prop := va_Pc (avs.map (cv G)) (fun U => va_P (gD G) CL (wsO G σ) U.heap ∧ PK G U)
theorem PcO_blind (G : GE) (avs : List AV) (σ : Wd) : FrameBlind (PcO G avs σ) := by
  intro a U g mk h
  exact ⟨h.1, h.2.1, PK.calling g mk a h.2.2⟩
theorem V_after {p : Program} {l : Launch} {e : Env} {R : Room} {s : State} {m : MethodId} {args : Array Value} {below : List Frame} {meth : Method} {c : Code} {G : GE} {nL ck sk : Nat} {Q : State → Prop} {pc : Nat} {ls : List (Option AV)} {sl : Array Slot} {rest : List AV} {st0 : List Value} {fin : Option AV → Wd → Prop} {H : Heap} {locs : List Loc} {av : Array Value}
    (hr : va_Run p l e R s m args below meth c H locs ck sk 0 0 (F0 m pc sl st0) (rest.map (cv G)) (QcO G fin av) (AG G)) (hS : va_S (AG G) s.heap H locs) (hL : Lh G sl nL ls)
    (k : ∀ r σ', fin r σ' → V (p, l, e, R, s, m, args, below, meth, c, G, nL, ck, sk, Q) (pc + 3) ls (r.toList ++ rest) σ') : W p l e R s m args below meth c H locs ck sk Q (F0 m pc sl st0) := by
  intro T hT X
  obtain ⟨v, st₀, t, T', L, h0, X', hL', e1, e2, ⟨⟨r, σ', hv, hfin, hR', hP'⟩, hz, hkp⟩, stp⟩ := hr T hT X
  have hv : v = r.map (cv G) := by injection hv
  have hS' : va_S (AG G) s.heap T'.heap (locs ++ L) := by
    refine ⟨Nat.le_trans hS.1 (by rw [e1, ← h0]; exact hz), fun q h1 h2 => ?_, fun q hq => ?_⟩
    · rw [e1, hkp q (by rw [h0]; exact Nat.lt_of_lt_of_le h1 hS.1) h2, h0]; exact hS.2.1 q h1 h2
    · rcases List.mem_append.mp hq with h | h
      · exact hS.2.2 q h
      · exact hL' q h
  have hst : (r.toList ++ rest).map (cv G) = v.toList ++ rest.map (cv G) := by
    rw [hv]; cases r <;> simp
  have K := k r σ' hfin hR' T'.heap (locs ++ L) sl (by rw [e1]; exact hP') hS' hL
  rw [hst] at K
  obtain ⟨t2, a1, b1⟩ := K T' rfl X'
  exact ⟨t2, stp t2 a1, b1⟩
section VC
variable {X : KX} {cc : ByteArray} {own : String} {pc : Nat} {ls : List (Option AV)} {st : List AV} {σ : Wd}
theorem lv_room1 {n : Nat} {m : MethodId} {pc : Nat} {sl : Array Slot} {s2 : List Value} (h : n ≤ 8) : 2 * (F0 m pc sl s2).monitorRoom + n ≤ 8 := by
  have e : (F0 m pc sl s2).monitorRoom = 0 := rfl
  omega
theorem rm_sum {rest : List AV} {G : GE} {m : MethodId} {pc : Nat} {sl : Array Slot} {s2 : List Value} (h : (rest.map avc).sum ≤ 8) : 2 * (F0 m pc sl s2).monitorRoom + ((rest.map (cv G)).map fun v => v.category).sum ≤ 8 := by
  rw [cv_cats]; exact lv_room1 h
theorem V_callVg (C : Cx X cc own) {index nL2 n rF rL o ci N : Nat} {T : u_T} {y : MethodName} {b : ByteArray} {ret : Option FieldType} {as rest : List AV} {fin : Option AV → Wd → Prop} (d : decode cc pc = .ok (.invokevirtual index, 3)) (lk : LK own index y) (cm : CMs y b nL2 ret n) (vm : VM y) (hM : Ct (xL X) (xG X) y b nL2 ret rF rL (vR o :: as) σ fin)
    (hk : kd o = ci) (hcl : CL[ci]? = some (y.cls, T, N)) (hn : as.length = n) (hst : st = as.reverse ++ vR o :: rest) (hroom : (rest.map avc).sum ≤ 8) (hRm : Rm X (rF + 1) (8 + (nL2 + 11) + rL)) (k : ∀ r σ', fin r σ' → V X (pc + 3) ls (r.toList ++ rest) σ') : V X pc ls st σ := by
  subst hst
  obtain ⟨p, l, e, R, s, m, args, below, meth, c, G, nL, ck, sk, Q⟩ := X
  obtain ⟨hx, hb, hml, hown, hlk, hts, hPK, hap, hck, hsk⟩ := C
  intro hR H locs sl hP hS hL
  have hM := hM hap hR
  obtain ⟨c1, c2, c3, c4⟩ := cm
  obtain ⟨v1, v2⟩ := vm
  have hci : ci < 10 := (List.getElem?_eq_some_iff.mp hcl).1
  have hko : o < NO := kd_lt hk (by omega)
  have he : (wsO G σ)[o]? = some (gA G o, .inr (ci, fsl G σ o 0 (flds ci))) := by rw [wsO_at G σ hko, ent_obj G σ hk (by omega)]
  have hrecv := va_recv hPK.1 hP hcl he
  have hpay := gw_pay (nL := nL2) (ret := ret) hts c1
  have hlen : ∀ sig, parseMethodDescriptor y.desc = some sig → n = sig.parameters.length := by
    intro sig h
    have h2 := c3.2.2
    rw [h] at h2
    exact (Option.some.inj h2).symm
  have hp : PreV s H y.cls (gA G o) (PcO G (vR o :: as) σ) (as.map (cv G)) := ⟨PcO_blind _ _ _, hrecv, fun U hU hW => ⟨rfl, by rw [hU]; exact hP, hPK.moved hW⟩⟩
  have hstk : (F0 m pc sl ((as.reverse ++ vR o :: rest).map (cv G))).stack = (as.map (cv G)).reverse ++ .ref (gA G o) :: rest.map (cv G) := by
    show List.map _ _ = _
    rw [List.map_append, List.map_reverse]; rfl
  rcases lk with lk | ⟨host, lk⟩
  · exact V_after (va_runV (b := gA G o) (As := as.map (cv G)) (rest := rest.map (cv G)) ⟨hx, hb, hml, hown, hts⟩ hM ⟨⟨rfl, rfl, hRm.1, hRm.2, hpay, List.mem_cons_self, hts _ c1, hts _ c2, ⟨c3.1, c3.2.1⟩, hlen, hts _ lk⟩, hts _ v1, hts _ v2⟩ hp rfl (by rw [List.length_map]; exact hn) hL.1 hstk (rm_sum hroom) d ⟨hck, hsk⟩) hS hL k
  · exact V_after (va_runVN (b := gA G o) (As := as.map (cv G)) (rest := rest.map (cv G)) ⟨hx, hb, hml, hown, hts⟩ hM ⟨⟨⟨rfl, rfl, hRm.1, hRm.2, hpay, List.mem_cons_self⟩, hts _ c1, hts _ c2, ⟨c3.1, c3.2.1⟩, hlen, va_Nw.use (by rfl) (hPK.2 _ lk)⟩, hts _ v1, hts _ v2⟩ hp rfl (by rw [List.length_map]; exact hn) hL.1 hstk (rm_sum hroom) d ⟨hck, hsk⟩) hS hL k
theorem V_callSg (C : Cx X cc own) {index nL2 n rF rL : Nat} {y : MethodName} {b : ByteArray} {ret : Option FieldType} {as rest : List AV} {fin : Option AV → Wd → Prop} (d : decode cc pc = .ok (.invokestatic index, 3)) (lk : LK own index y) (cm : CMs y b nL2 ret n) (sm : SM y) (hM : Ct (xL X) (xG X) y b nL2 ret rF rL as σ fin)
    (hn : as.length = n) (hst : st = as.reverse ++ rest) (hroom : (rest.map avc).sum ≤ 8) (hRm : Rm X (rF + 1) (8 + (nL2 + 11) + rL)) (k : ∀ r σ', fin r σ' → V X (pc + 3) ls (r.toList ++ rest) σ') : V X pc ls st σ := by
  subst hst
  obtain ⟨p, l, e, R, s, m, args, below, meth, c, G, nL, ck, sk, Q⟩ := X
  obtain ⟨hx, hb, hml, hown, hlk, hts, hPK, hap, hck, hsk⟩ := C
  intro hR H locs sl hP hS hL
  have hM := hM hap hR
  obtain ⟨c1, c2, c3, c4⟩ := cm
  have hpay := gw_pay (nL := nL2) (ret := ret) hts c1
  have hlen : ∀ sig, parseMethodDescriptor y.desc = some sig → n = sig.parameters.length := by
    intro sig h
    have h2 := c3.2.2
    rw [h] at h2
    exact (Option.some.inj h2).symm
  have hp : PreS s H (PcO G as σ) (as.map (cv G)) := ⟨PcO_blind _ _ _, fun U hU hW => ⟨rfl, by rw [hU]; exact hP, hPK.moved hW⟩⟩
  have hstk : (F0 m pc sl ((as.reverse ++ rest).map (cv G))).stack = (as.map (cv G)).reverse ++ rest.map (cv G) := by
    show List.map _ _ = _
    rw [List.map_append, List.map_reverse]
  rcases lk with lk | ⟨host, lk⟩
  · exact V_after (va_runS (As := as.map (cv G)) (rest := rest.map (cv G)) ⟨hx, hb, hml, hown, hts⟩ hM ⟨⟨rfl, rfl, hRm.1, hRm.2, hpay, List.mem_cons_self, hts _ c1, hts _ c2, ⟨c3.1, c3.2.1⟩, hlen, hts _ lk⟩, hts _ sm⟩ hp rfl (by rw [List.length_map]; exact hn) hL.1 hstk (rm_sum hroom) d ⟨hck, hsk⟩) hS hL k
  · exact V_after (va_runSN (As := as.map (cv G)) (rest := rest.map (cv G)) ⟨hx, hb, hml, hown, hts⟩ hM ⟨⟨⟨rfl, rfl, hRm.1, hRm.2, hpay, List.mem_cons_self⟩, hts _ c1, hts _ c2, ⟨c3.1, c3.2.1⟩, hlen, va_Nw.use (by rfl) (hPK.2 _ lk)⟩, hts _ sm, trivial⟩ hp rfl (by rw [List.length_map]; exact hn) hL.1 hstk (rm_sum hroom) d ⟨hck, hsk⟩) hS hL k
/-- the answer and the world behind are these -/
abbrev Dt (r : Option AV) (σ : Wd) : Option AV → Wd → Prop := fun r' σ' => r' = r ∧ σ' = σ
theorem V_callV (C : Cx X cc own) {index nL2 n rF rL o ci N : Nat} {T : u_T} {y : MethodName} {b : ByteArray} {ret : Option FieldType} {as rest : List AV} {v : AV} {σ1 : Wd} (d : decode cc pc = .ok (.invokevirtual index, 3)) (lk : LK own index y) (cm : CMs y b nL2 ret n) (vm : VM y) (hM : Ct (xL X) (xG X) y b nL2 ret rF rL (vR o :: as) σ (Dt (some v) σ1))
    (hk : kd o = ci) (hcl : CL[ci]? = some (y.cls, T, N)) (hn : as.length = n) (hst : st = as.reverse ++ vR o :: rest) (hroom : (rest.map avc).sum ≤ 8) (hRm : Rm X (rF + 1) (8 + (nL2 + 11) + rL)) (k : V X (pc + 3) ls (v :: rest) σ1) : V X pc ls st σ :=
  V_callVg C d lk cm vm hM hk hcl hn hst hroom hRm (fun r σ' h => by obtain ⟨rfl, rfl⟩ := h; exact k)
theorem V_callV0 (C : Cx X cc own) {index nL2 n rF rL o ci N : Nat} {T : u_T} {y : MethodName} {b : ByteArray} {ret : Option FieldType} {as rest : List AV} {σ1 : Wd} (d : decode cc pc = .ok (.invokevirtual index, 3)) (lk : LK own index y) (cm : CMs y b nL2 ret n) (vm : VM y) (hM : Ct (xL X) (xG X) y b nL2 ret rF rL (vR o :: as) σ (Dt none σ1))
    (hk : kd o = ci) (hcl : CL[ci]? = some (y.cls, T, N)) (hn : as.length = n) (hst : st = as.reverse ++ vR o :: rest) (hroom : (rest.map avc).sum ≤ 8) (hRm : Rm X (rF + 1) (8 + (nL2 + 11) + rL)) (k : V X (pc + 3) ls rest σ1) : V X pc ls st σ :=
  V_callVg C d lk cm vm hM hk hcl hn hst hroom hRm (fun r σ' h => by obtain ⟨rfl, rfl⟩ := h; exact k)
theorem V_callS (C : Cx X cc own) {index nL2 n rF rL : Nat} {y : MethodName} {b : ByteArray} {ret : Option FieldType} {as rest : List AV} {v : AV} {σ1 : Wd} (d : decode cc pc = .ok (.invokestatic index, 3)) (lk : LK own index y) (cm : CMs y b nL2 ret n) (sm : SM y) (hM : Ct (xL X) (xG X) y b nL2 ret rF rL as σ (Dt (some v) σ1))
    (hn : as.length = n) (hst : st = as.reverse ++ rest) (hroom : (rest.map avc).sum ≤ 8) (hRm : Rm X (rF + 1) (8 + (nL2 + 11) + rL)) (k : V X (pc + 3) ls (v :: rest) σ1) : V X pc ls st σ :=
  V_callSg C d lk cm sm hM hn hst hroom hRm (fun r σ' h => by obtain ⟨rfl, rfl⟩ := h; exact k)
theorem V_callS0 (C : Cx X cc own) {index nL2 n rF rL : Nat} {y : MethodName} {b : ByteArray} {ret : Option FieldType} {as rest : List AV} {σ1 : Wd} (d : decode cc pc = .ok (.invokestatic index, 3)) (lk : LK own index y) (cm : CMs y b nL2 ret n) (sm : SM y) (hM : Ct (xL X) (xG X) y b nL2 ret rF rL as σ (Dt none σ1))
    (hn : as.length = n) (hst : st = as.reverse ++ rest) (hroom : (rest.map avc).sum ≤ 8) (hRm : Rm X (rF + 1) (8 + (nL2 + 11) + rL)) (k : V X (pc + 3) ls rest σ1) : V X pc ls st σ :=
  V_callSg C d lk cm sm hM hn hst hroom hRm (fun r σ' h => by obtain ⟨rfl, rfl⟩ := h; exact k)
end VC
def entL : List AV → List (Option AV)
  | [] => []
  | a :: r => if avc a = 2 then some a :: none :: entL r else some a :: entL r
def ents (nL : Nat) (avs : List AV) : List (Option AV) := entL avs ++ List.replicate (nL - (avs.map avc).sum) none
theorem entL_mem (G : GE) : ∀ (avs : List AV) (i0 i : Nat) (a : AV), (entL avs)[i]? = some (some a) → (i0 + i, cv G a) ∈ lv_args i0 (avs.map (cv G))
  | [], _, _, _, h => by simp [entL] at h
  | b :: r, i0, i, a, h => by
    by_cases hb : avc b = 2
    · have e : lv_args i0 ((b :: r).map (cv G)) = (i0, cv G b) :: lv_args (i0 + 2) (r.map (cv G)) := by
        show (i0, cv G b) :: lv_args (if (cv G b).category = 2 then i0 + 2 else i0 + 1) _ = _
        rw [cv_cat, if_pos hb]
      rw [e]
      rw [entL, if_pos hb] at h
      rcases i with _ | _ | i
      · simp at h; subst h; exact List.mem_cons_self
      · simp at h
      · have h1 : (entL r)[i]? = some (some a) := by simpa using h
        have h2 := entL_mem G r (i0 + 2) i a h1
        rw [show i0 + 2 + i = i0 + (i + 1 + 1) by omega] at h2
        exact List.mem_cons_of_mem _ h2
    · have e : lv_args i0 ((b :: r).map (cv G)) = (i0, cv G b) :: lv_args (i0 + 1) (r.map (cv G)) := by
        show (i0, cv G b) :: lv_args (if (cv G b).category = 2 then i0 + 2 else i0 + 1) _ = _
        rw [cv_cat, if_neg hb]
      rw [e]
      rw [entL, if_neg hb] at h
      rcases i with _ | i
      · simp at h; subst h; exact List.mem_cons_self
      · have h1 : (entL r)[i]? = some (some a) := by simpa using h
        have h2 := entL_mem G r (i0 + 1) i a h1
        rw [show i0 + 1 + i = i0 + (i + 1) by omega] at h2
        exact List.mem_cons_of_mem _ h2
theorem lg_len (G : GE) (avs : List AV) : (lg_sl (avs.map (cv G))).length = (avs.map avc).sum := by
  induction avs with
  | nil => rfl
  | cons a r ih =>
    have e : lg_sl ((a :: r).map (cv G)) = (if (cv G a).category = 2 then [Slot.val (cv G a), Slot.second] else [Slot.val (cv G a)]) ++ lg_sl (r.map (cv G)) := by
      simp [lg_sl, List.flatMap_cons]
    rw [e, List.length_append, ih, cv_cat, List.map_cons, List.sum_cons]
    rcases a with z | z | k | b <;> simp [avc]
theorem ents_get {nL : Nat} {avs : List AV} {i : Nat} {a : AV} (h : (ents nL avs)[i]? = some (some a)) : (entL avs)[i]? = some (some a) := by
  unfold ents at h
  by_cases hi : i < (entL avs).length
  · rwa [List.getElem?_append_left hi] at h
  · rw [List.getElem?_append_right (by omega), List.getElem?_replicate] at h
    split at h <;> cases h
theorem Ct.of {l : Launch} {G : GE} {y : MethodName} {b : ByteArray} {nL n : Nat} {ret : Option FieldType} {rF rL : Nat} {avs : List AV} {σ : Wd} {fin : Option AV → Wd → Prop} (cm : CMs y b nL ret n) (hn : (avs.map avc).sum ≤ nL)
    (h : ∀ X : KX, xL X = l → xG X = G → xN X = nL → Rm X rF rL → Cx X b y.cls → Ex X ret fin → V X 0 (ents nL avs) [] σ) : Ct l G y b nL ret rF rL avs σ fin := by
  intro hap hR
  refine Met.ofW (cc := b) (maxL := nL) (ret := ret) cm.2.2.2 rfl ?_
  intro p e s m args below meth c s₁ B hml hv
  obtain ⟨rfl, hP, hPK⟩ := hv
  have hts0 := atoms_spec (ws := Cond.code y b nL ret :: gw) B.pre
  have K := h (p, l, e, { frames := rF, cells := 0, slots := 0, locals := rL }, s, m, (avs.map (cv G)).toArray, below, meth, c, G, nL, 0, 0, MQ below (QcO G fin) (avs.map (cv G)).toArray s 0 0 (AG G)) rfl rfl rfl ⟨Nat.le_refl _, Nat.le_refl _⟩
    ⟨B.exec, B.bytes, hml, findClass_of_methodNamed B.named, B.notSynchronized, fun wd hw => hts0 wd (List.mem_cons_of_mem _ hw), hPK, hap, Nat.le_refl _, Nat.le_refl _⟩ ⟨B.returns, rfl⟩
  rw [lg_entry_eq]
  refine K hR s.heap [] _ hP va_S.rf ?_
  have hl := lv_entry (avs.map (cv G)) (n := nL) (by rw [lg_len]; exact hn)
  refine ⟨hl.1, hl.2.1, fun i a hi => ?_⟩
  have := entL_mem G avs 0 i a (ents_get hi)
  rw [Nat.zero_add] at this
  exact hl.2.2 _ this
end
section
theorem Rm.mono {X : KX} {a b a2 b2 : Nat} (h : Rm X a b) (h1 : a2 ≤ a) (h2 : b2 ≤ b) : Rm X a2 b2 := by
  obtain ⟨p, l, e, R, s, m, args, below, meth, c, G, nL, ck, sk, Q⟩ := X
  exact ⟨Nat.le_trans h1 h.1, Nat.le_trans h2 h.2⟩
section VB
variable {X : KX} {cc : ByteArray} {own : String} {pc : Nat} {ls : List (Option AV)} {st : List AV} {σ : Wd}
theorem b_R {P : Prop} [Decidable P] : inR (if P then 1 else 0) := by split <;> exact ⟨by decide, by decide⟩
theorem V_ifeqB {P : Prop} [Decidable P] (C : Cx X cc own) {off : Int} (d : decode cc pc = .ok (.ifCond .eq off, 3)) (tgt : Nat) (ht : (pc : Int) + off = (tgt : Int)) (kt : ¬ P → V X tgt ls st σ) (kf : P → V X (pc + 3) ls st σ) : V X pc ls (vI (if P then 1 else 0) :: st) σ :=
  V_ifeq C d tgt ht b_R (fun h => kt (fun q => by rw [if_pos q] at h; cases h)) (fun h => kf (Classical.byContradiction (fun q => h (if_neg q))))
theorem V_ifneB {P : Prop} [Decidable P] (C : Cx X cc own) {off : Int} (d : decode cc pc = .ok (.ifCond .ne off, 3)) (tgt : Nat) (ht : (pc : Int) + off = (tgt : Int)) (kt : P → V X tgt ls st σ) (kf : ¬ P → V X (pc + 3) ls st σ) : V X pc ls (vI (if P then 1 else 0) :: st) σ :=
  V_ifne C d tgt ht b_R (fun h => kt (Classical.byContradiction (fun q => h (if_neg q)))) (fun h => kf (fun q => by rw [if_pos q] at h; cases h))
theorem c_R {a b : Int} : inR (if b < a then 1 else if a = b then 0 else -1) := by
  split
  · exact ⟨by decide, by decide⟩
  · split <;> exact ⟨by decide, by decide⟩
theorem V_ifeqC {a b : Int} (C : Cx X cc own) {off : Int} (d : decode cc pc = .ok (.ifCond .eq off, 3)) (tgt : Nat) (ht : (pc : Int) + off = (tgt : Int)) (kt : a = b → V X tgt ls st σ) (kf : ¬ (a = b) → V X (pc + 3) ls st σ) : V X pc ls (vI (if b < a then 1 else if a = b then 0 else -1) :: st) σ :=
  V_ifeq C d tgt ht c_R (fun h => kt (by split at h <;> (try split at h) <;> omega)) (fun h => kf (by split at h <;> (try split at h) <;> omega))
theorem V_ifneC {a b : Int} (C : Cx X cc own) {off : Int} (d : decode cc pc = .ok (.ifCond .ne off, 3)) (tgt : Nat) (ht : (pc : Int) + off = (tgt : Int)) (kt : ¬ a = b → V X tgt ls st σ) (kf : ¬ (¬ a = b) → V X (pc + 3) ls st σ) : V X pc ls (vI (if b < a then 1 else if a = b then 0 else -1) :: st) σ :=
  V_ifne C d tgt ht c_R (fun h => kt (by split at h <;> (try split at h) <;> omega)) (fun h => kf (by split at h <;> (try split at h) <;> omega))
theorem V_ifltC {a b : Int} (C : Cx X cc own) {off : Int} (d : decode cc pc = .ok (.ifCond .lt off, 3)) (tgt : Nat) (ht : (pc : Int) + off = (tgt : Int)) (kt : a < b → V X tgt ls st σ) (kf : ¬ (a < b) → V X (pc + 3) ls st σ) : V X pc ls (vI (if b < a then 1 else if a = b then 0 else -1) :: st) σ :=
  V_iflt C d tgt ht c_R (fun h => kt (by split at h <;> (try split at h) <;> omega)) (fun h => kf (by split at h <;> (try split at h) <;> omega))
theorem V_ifgeC {a b : Int} (C : Cx X cc own) {off : Int} (d : decode cc pc = .ok (.ifCond .ge off, 3)) (tgt : Nat) (ht : (pc : Int) + off = (tgt : Int)) (kt : b ≤ a → V X tgt ls st σ) (kf : ¬ (b ≤ a) → V X (pc + 3) ls st σ) : V X pc ls (vI (if b < a then 1 else if a = b then 0 else -1) :: st) σ :=
  V_ifge C d tgt ht c_R (fun h => kt (by split at h <;> (try split at h) <;> omega)) (fun h => kf (by split at h <;> (try split at h) <;> omega))
theorem V_ifgtC {a b : Int} (C : Cx X cc own) {off : Int} (d : decode cc pc = .ok (.ifCond .gt off, 3)) (tgt : Nat) (ht : (pc : Int) + off = (tgt : Int)) (kt : b < a → V X tgt ls st σ) (kf : ¬ (b < a) → V X (pc + 3) ls st σ) : V X pc ls (vI (if b < a then 1 else if a = b then 0 else -1) :: st) σ :=
  V_ifgt C d tgt ht c_R (fun h => kt (by split at h <;> (try split at h) <;> omega)) (fun h => kf (by split at h <;> (try split at h) <;> omega))
theorem V_ifleC {a b : Int} (C : Cx X cc own) {off : Int} (d : decode cc pc = .ok (.ifCond .le off, 3)) (tgt : Nat) (ht : (pc : Int) + off = (tgt : Int)) (kt : a ≤ b → V X tgt ls st σ) (kf : ¬ (a ≤ b) → V X (pc + 3) ls st σ) : V X pc ls (vI (if b < a then 1 else if a = b then 0 else -1) :: st) σ :=
  V_ifle C d tgt ht c_R (fun h => kt (by split at h <;> (try split at h) <;> omega)) (fun h => kf (by split at h <;> (try split at h) <;> omega))
theorem ms_min : Cond.static Lib.Math.min.name ∈ gw := gw_in 560 (by decide +kernel) rfl
theorem mc_min : Cond.code Lib.Math.min.name Lib.Math.min.code 2 (some .int) ∈ gw := gw_in 561 (by decide +kernel) rfl
theorem mi_min : Cond.initialized "java/lang/Math" ∈ gw := gw_in 97 (by decide +kernel) rfl
theorem ml_M_31 : Cond.methodLink "ForgoneShop$Memory" 31 Lib.Math.min.name ∈ gw := gw_in 559 (by decide +kernel) rfl
theorem ml_F_282 : Cond.methodLink "ForgoneShop" 282 Lib.Math.min.name ∈ gw := gw_in 597 (by decide +kernel) rfl
theorem ml_C_32 : Cond.methodLink "ForgoneShop$Choice" 32 Lib.Math.min.name ∈ gw := gw_in 646 (by decide +kernel) rfl
theorem ml_E_89 : Cond.methodLink "ForgoneShop$Exchange" 89 Lib.Math.min.name ∈ gw := gw_in 698 (by decide +kernel) rfl
theorem V_mmin (C : Cx X cc own) {index : Nat} {a b : Int} (d : decode cc pc = .ok (.invokestatic index, 3)) (ml : Cond.methodLink own index Lib.Math.min.name ∈ gw) (ha : inR a) (hb1 : inR b) (hst : (st.map avc).sum ≤ 8) (hRm : Rm X 1 26) (k : V X (pc + 3) ls (vI (min a b) :: st) σ) : V X pc ls (vI b :: vI a :: st) σ := by
  obtain ⟨p, l, e, R, s, m, args, below, meth, c, G, nL, ck, sk, Q⟩ := X
  obtain ⟨hx, hb, hml, hown, hlk, hts, hPK, hap, hck, hsk⟩ := C
  intro hR H locs sl hP hS hL
  have hRm : 1 ≤ R.frames ∧ 26 ≤ R.locals := hRm
  refine va_mmin hx hb (by rw [hml]; exact hL.1.symm) hown (hts _ ml) (hts _ ms_min) (hts _ mi_min) (hts _ mc_min) hRm.1 (by rw [cv_cats]; omega) hck hsk d ?_
  have e : (if Int32.ofInt b < Int32.ofInt a then Int32.ofInt b else Int32.ofInt a) = Int32.ofInt (min a b) := by
    by_cases h : b < a
    · rw [if_pos ((oi_lt hb1 ha).mpr h)]; congr 1; omega
    · rw [if_neg (fun q => h ((oi_lt hb1 ha).mp q))]; congr 1; omega
  rw [e]
  exact k hR H locs sl hP hS hL
theorem ms_max : Cond.static Lib.Math.max.name ∈ gw := gw_in 599 (by decide +kernel) rfl
theorem mc_max : Cond.code Lib.Math.max.name Lib.Math.max.code 2 (some .int) ∈ gw := gw_in 600 (by decide +kernel) rfl
theorem mi_max : Cond.initialized "java/lang/Math" ∈ gw := gw_in 97 (by decide +kernel) rfl
theorem ml_F_287 : Cond.methodLink "ForgoneShop" 287 Lib.Math.max.name ∈ gw := gw_in 598 (by decide +kernel) rfl
theorem V_mmax (C : Cx X cc own) {index : Nat} {a b : Int} (d : decode cc pc = .ok (.invokestatic index, 3)) (ml : Cond.methodLink own index Lib.Math.max.name ∈ gw) (ha : inR a) (hb1 : inR b) (hst : (st.map avc).sum ≤ 8) (hRm : Rm X 1 26) (k : V X (pc + 3) ls (vI (max a b) :: st) σ) : V X pc ls (vI b :: vI a :: st) σ := by
  obtain ⟨p, l, e, R, s, m, args, below, meth, c, G, nL, ck, sk, Q⟩ := X
  obtain ⟨hx, hb, hml, hown, hlk, hts, hPK, hap, hck, hsk⟩ := C
  intro hR H locs sl hP hS hL
  have hRm : 1 ≤ R.frames ∧ 26 ≤ R.locals := hRm
  refine va_mmax hx hb (by rw [hml]; exact hL.1.symm) hown (hts _ ml) (hts _ ms_max) (hts _ mi_max) (hts _ mc_max) hRm.1 (by rw [cv_cats]; omega) hck hsk d ?_
  have e : (if Int32.ofInt a < Int32.ofInt b then Int32.ofInt b else Int32.ofInt a) = Int32.ofInt (max a b) := by
    by_cases h : a < b
    · rw [if_pos ((oi_lt ha hb1).mpr h)]; congr 1; omega
    · rw [if_neg (fun q => h ((oi_lt ha hb1).mp q))]; congr 1; omega
  rw [e]
  exact k hR H locs sl hP hS hL
/-- a loop: what holds at its head, and that it falls -/
theorem V_loop {ι : Type} (P : ι → Prop) (L : ι → List (Option AV)) (S : ι → Wd) (μ : ι → Nat) (h : ∀ x, P x → (∀ y, P y → μ y < μ x → V X pc (L y) [] (S y)) → V X pc (L x) [] (S x)) (x : ι) (hx : P x) : V X pc (L x) [] (S x) := by
  have key : ∀ (n : Nat) (x : ι), P x → μ x < n → V X pc (L x) [] (S x) := by
    intro n
    induction n with
    | zero => intro x _ h0; exact absurd h0 (Nat.not_lt_zero _)
    | succ n ih => intro x hx hn; exact h x hx (fun y hy hlt => ih y hy (by omega))
  exact key (μ x + 1) x hx (Nat.lt_succ_self _)
end VB
theorem kd_S {s : Nat} (h : kd s = 7) : kd (s + 1) = 1000 + 5 ∧ kd (s + 2) = 1000 + 5 ∧ kd (s + 3) = 1000 + 8 ∧ kd (s + 4) = 1000 + 8 := by
  have hs := kd_lt h (by decide)
  have key : ∀ q : Fin NO, kd q.val = 7 → kd (q.val + 1) = 1000 + 5 ∧ kd (q.val + 2) = 1000 + 5 ∧ kd (q.val + 3) = 1000 + 8 ∧ kd (q.val + 4) = 1000 + 8 := by decide +kernel
  exact key ⟨s, hs⟩ h
theorem kd_P {s : Nat} (h : kd s = 5) : kd (s + 1) = 1000 + 5 ∧ kd (s + 2) = 1000 + 8 ∧ kd (s + 3) = 1000 + 8 ∧ kd (s + 4) = 1000 + 8 ∧ kd (s + 5) = 1000 + 8 ∧ kd (s + 6) = 1000 + 12 := by
  have hs := kd_lt h (by decide)
  have key : ∀ q : Fin NO, kd q.val = 5 → kd (q.val + 1) = 1000 + 5 ∧ kd (q.val + 2) = 1000 + 8 ∧ kd (q.val + 3) = 1000 + 8 ∧ kd (q.val + 4) = 1000 + 8 ∧ kd (q.val + 5) = 1000 + 8 ∧ kd (q.val + 6) = 1000 + 12 := by decide +kernel
  exact key ⟨s, hs⟩ h
theorem kd_M {s : Nat} (h : kd s = 4) : kd (s + 1) = 3000 ∧ ∀ j : Nat, j < 8 → kd (s + 2 + 5 * j) = 7 := by
  have hs := kd_lt h (by decide)
  have key : ∀ q : Fin NO, kd q.val = 4 → kd (q.val + 1) = 3000 ∧ ∀ j : Fin 8, kd (q.val + 2 + 5 * j.val) = 7 := by decide +kernel
  exact ⟨(key ⟨s, hs⟩ h).1, fun j hj => (key ⟨s, hs⟩ h).2 ⟨j, hj⟩⟩
end
section
def fg : List (Option AV) → Nat → List (Option AV)
  | [], _ => []
  | _ :: r, 0 => none :: r
  | a :: r, i + 1 => a :: fg r i
theorem fg_get : ∀ (ls : List (Option AV)) (i j : Nat) (a : AV), (fg ls i)[j]? = some (some a) → ls[j]? = some (some a)
  | [], _, _, _, h => by simp [fg] at h
  | b :: r, 0, 0, a, h => by simp [fg] at h
  | b :: r, 0, j + 1, a, h => by simpa [fg] using h
  | b :: r, i + 1, 0, a, h => by simpa [fg] using h
  | b :: r, i + 1, j + 1, a, h => by
    have h1 : (fg r i)[j]? = some (some a) := by simpa [fg] using h
    have := fg_get r i j a h1
    simpa using this
/-- a local that isn't needed any more -/
theorem V_fg {X : KX} {pc : Nat} {ls : List (Option AV)} {st : List AV} {σ : Wd} (i : Nat) (k : V X pc (fg ls i) st σ) : V X pc ls st σ := by
  obtain ⟨p, l, e, R, s, m, args, below, meth, c, G, nL, ck, sk, Q⟩ := X
  intro hR H locs sl hP hS hL
  exact k hR H locs sl hP hS ⟨hL.1, hL.2.1, fun j a h => hL.2.2 j a (fg_get ls i j a h)⟩
theorem up_ne1 (σ : Wd) {k k2 : Nat} (i x i2 : Int) (h : k2 ≠ k) : up σ k i x k2 i2 = σ k2 i2 := by unfold up; rw [if_neg (fun q => h q.1)]
theorem up_ne2 (σ : Wd) {k k2 : Nat} {i x i2 : Int} (h : i2 ≠ i) : up σ k i x k2 i2 = σ k2 i2 := by unfold up; rw [if_neg (fun q => h q.2)]

def i_F_within : List (Nat × (Instr × Nat)) := [(0, (.iload_n 0, 1)), (1, (.iload_n 1, 1)), (2, (.if_icmp .lt 12, 3)), (5, (.iload_n 0, 1)), (6, (.iload_n 2, 1)), (7, (.if_icmp .gt 7, 3)), (10, (.iconst 1, 1)), (11, (.goto 4, 3)), (14, (.iconst 0, 1)), (15, (.ireturn, 1))]
theorem k_F_within : i_F_within.all (fun q => decide (decode b_F_within q.1 = .ok q.2)) = true := by decide +kernel

set_option maxHeartbeats 1000000 in
set_option maxRecDepth 20000 in
theorem c_F_within (l : Launch) (G : GE) (σ : Wd) (a lo hi : Int) (ha : inR a) (hlo : inR lo) (hhi : inR hi) : Ct l G y_F_within b_F_within 3 (some (.boolean)) 0 0 [vI a, vI lo, vI hi] σ (Dt (some (vI (if lo ≤ a ∧ a ≤ hi then 1 else 0))) σ) := by
  refine Ct.of cm_F_within (Nat.le_of_ble_eq_true rfl) ?_
  intro X hXl hXG hXN hRm C E
  subst hXl; subst hXG
  have ⟨ha_1, ha_2⟩ := ha
  have ⟨hlo_1, hlo_2⟩ := hlo
  have ⟨hhi_1, hhi_2⟩ := hhi
  show V X 0 [some (vI a), some (vI lo), some (vI hi)] [] σ
  refine V_R (fun hR => ?_)
  refine V_iload_n (pc := 0) C (dk k_F_within 0 rfl) rfl ?_
  refine V_iload_n (pc := 1) C (dk k_F_within 1 rfl) rfl ?_
  refine V_icmplt (pc := 2) C (dk k_F_within 2 rfl) 14 rfl (by first | assumption | exact hR _ _ | exact ⟨by omega, by omega⟩) (by first | assumption | exact hR _ _ | exact ⟨by omega, by omega⟩) (fun h1 => ?_) (fun h1 => ?_)
  · skip
    refine V_iconst (pc := 14) C (dk k_F_within 8 rfl) rfl ?_
    refine V_zret (pc := 15) C (by first | exact Or.inl rfl | exact Or.inr rfl | (split <;> first | exact Or.inl rfl | exact Or.inr rfl) | omega) E (dk k_F_within 9 rfl) ?_
    first | exact ⟨rfl, rfl⟩ | (refine ⟨?_, rfl⟩; first | rw [if_pos (by omega)] | rw [if_neg (by omega)])
  · skip
    refine V_iload_n (pc := 5) C (dk k_F_within 3 rfl) rfl ?_
    refine V_iload_n (pc := 6) C (dk k_F_within 4 rfl) rfl ?_
    refine V_icmpgt (pc := 7) C (dk k_F_within 5 rfl) 14 rfl (by first | assumption | exact hR _ _ | exact ⟨by omega, by omega⟩) (by first | assumption | exact hR _ _ | exact ⟨by omega, by omega⟩) (fun h2 => ?_) (fun h2 => ?_)
    · skip
      refine V_iconst (pc := 14) C (dk k_F_within 8 rfl) rfl ?_
      refine V_zret (pc := 15) C (by first | exact Or.inl rfl | exact Or.inr rfl | (split <;> first | exact Or.inl rfl | exact Or.inr rfl) | omega) E (dk k_F_within 9 rfl) ?_
      first | exact ⟨rfl, rfl⟩ | (refine ⟨?_, rfl⟩; first | rw [if_pos (by omega)] | rw [if_neg (by omega)])
    · skip
      refine V_iconst (pc := 10) C (dk k_F_within 6 rfl) rfl ?_
      refine V_goto (pc := 11) C (dk k_F_within 7 rfl) 15 rfl ?_
      refine V_zret (pc := 15) C (by first | exact Or.inl rfl | exact Or.inr rfl | (split <;> first | exact Or.inl rfl | exact Or.inr rfl) | omega) E (dk k_F_within 9 rfl) ?_
      first | exact ⟨rfl, rfl⟩ | (refine ⟨?_, rfl⟩; first | rw [if_pos (by omega)] | rw [if_neg (by omega)])

def i_F_at : List (Nat × (Instr × Nat)) := [(0, (.iload_n 1, 1)), (1, (.ifCond .lt 15, 3)), (4, (.iload_n 1, 1)), (5, (.aload_n 0, 1)), (6, (.arraylength, 1)), (7, (.if_icmp .ge 9, 3)), (10, (.aload_n 0, 1)), (11, (.iload_n 1, 1)), (12, (.iaload, 1)), (13, (.goto 4, 3)), (16, (.iconst 0, 1)), (17, (.ireturn, 1))]
theorem k_F_at : i_F_at.all (fun q => decide (decode b_F_at q.1 = .ok q.2)) = true := by decide +kernel

set_option maxHeartbeats 1000000 in
set_option maxRecDepth 20000 in
theorem c_F_at (l : Launch) (G : GE) (σ : Wd) (a n : Nat) (i : Int) (ha : kd a = 1000 + n) (hn : n < 1000) (hi : inR i) : Ct l G y_F_at b_F_at 2 (some (.int)) 0 0 [vR a, vI i] σ (Dt (some (vI (if 0 ≤ i ∧ i < n then σ a i else 0))) σ) := by
  refine Ct.of cm_F_at (Nat.le_of_ble_eq_true rfl) ?_
  intro X hXl hXG hXN hRm C E
  subst hXl; subst hXG
  have ⟨hi_1, hi_2⟩ := hi
  show V X 0 [some (vR a), some (vI i)] [] σ
  refine V_R (fun hR => ?_)
  refine V_iload_n (pc := 0) C (dk k_F_at 0 rfl) rfl ?_
  refine V_iflt (pc := 1) C (dk k_F_at 1 rfl) 16 rfl (by first | assumption | exact hR _ _ | exact ⟨by omega, by omega⟩) (fun h1 => ?_) (fun h1 => ?_)
  · skip
    refine V_iconst (pc := 16) C (dk k_F_at 10 rfl) rfl ?_
    refine V_iret (pc := 17) C E (dk k_F_at 11 rfl) ?_
    first | exact ⟨rfl, rfl⟩ | (refine ⟨?_, rfl⟩; first | rw [if_pos (by omega)] | rw [if_neg (by omega)])
  · skip
    refine V_iload_n (pc := 4) C (dk k_F_at 2 rfl) rfl ?_
    refine V_aload_n (pc := 5) C (dk k_F_at 3 rfl) rfl ?_
    refine V_alen (pc := 6) C (dk k_F_at 4 rfl) (Or.inl ha) hn rfl ?_
    refine V_icmpge (pc := 7) C (dk k_F_at 5 rfl) 16 rfl (by first | assumption | exact hR _ _ | exact ⟨by omega, by omega⟩) (by first | assumption | exact hR _ _ | exact ⟨by omega, by omega⟩) (fun h2 => ?_) (fun h2 => ?_)
    · skip
      refine V_iconst (pc := 16) C (dk k_F_at 10 rfl) rfl ?_
      refine V_iret (pc := 17) C E (dk k_F_at 11 rfl) ?_
      first | exact ⟨rfl, rfl⟩ | (refine ⟨?_, rfl⟩; first | rw [if_pos (by omega)] | rw [if_neg (by omega)])
    · skip
      refine V_aload_n (pc := 10) C (dk k_F_at 6 rfl) rfl ?_
      refine V_iload_n (pc := 11) C (dk k_F_at 7 rfl) rfl ?_
      refine V_iald (pc := 12) C (dk k_F_at 8 rfl) ha hn (by omega) (by omega) ?_
      refine V_goto (pc := 13) C (dk k_F_at 9 rfl) 17 rfl ?_
      refine V_iret (pc := 17) C E (dk k_F_at 11 rfl) ?_
      first | exact ⟨rfl, rfl⟩ | (refine ⟨?_, rfl⟩; first | rw [if_pos (by omega)] | rw [if_neg (by omega)])

def i_F_put : List (Nat × (Instr × Nat)) := [(0, (.iload_n 1, 1)), (1, (.ifCond .lt 13, 3)), (4, (.iload_n 1, 1)), (5, (.aload_n 0, 1)), (6, (.arraylength, 1)), (7, (.if_icmp .ge 7, 3)), (10, (.aload_n 0, 1)), (11, (.iload_n 1, 1)), (12, (.iload_n 2, 1)), (13, (.iastore, 1)), (14, (.return_, 1))]
theorem k_F_put : i_F_put.all (fun q => decide (decode b_F_put q.1 = .ok q.2)) = true := by decide +kernel

set_option maxHeartbeats 1000000 in
set_option maxRecDepth 20000 in
theorem c_F_put (l : Launch) (G : GE) (σ : Wd) (a n : Nat) (i x : Int) (ha : kd a = 1000 + n) (hn : n < 1000) (hi : inR i) (hx : inR x) : Ct l G y_F_put b_F_put 3 (none) 0 0 [vR a, vI i, vI x] σ (Dt none (if 0 ≤ i ∧ i < n then up σ a i x else σ)) := by
  refine Ct.of cm_F_put (Nat.le_of_ble_eq_true rfl) ?_
  intro X hXl hXG hXN hRm C E
  subst hXl; subst hXG
  have ⟨hi_1, hi_2⟩ := hi
  have ⟨hx_1, hx_2⟩ := hx
  show V X 0 [some (vR a), some (vI i), some (vI x)] [] σ
  refine V_R (fun hR => ?_)
  refine V_iload_n (pc := 0) C (dk k_F_put 0 rfl) rfl ?_
  refine V_iflt (pc := 1) C (dk k_F_put 1 rfl) 14 rfl (by first | assumption | exact hR _ _ | exact ⟨by omega, by omega⟩) (fun h1 => ?_) (fun h1 => ?_)
  · skip
    refine V_vret (pc := 14) C E (dk k_F_put 10 rfl) ?_
    first | exact ⟨rfl, (if_pos (by omega)).symm⟩ | exact ⟨rfl, (if_neg (by omega)).symm⟩
  · skip
    refine V_iload_n (pc := 4) C (dk k_F_put 2 rfl) rfl ?_
    refine V_aload_n (pc := 5) C (dk k_F_put 3 rfl) rfl ?_
    refine V_alen (pc := 6) C (dk k_F_put 4 rfl) (Or.inl ha) hn rfl ?_
    refine V_icmpge (pc := 7) C (dk k_F_put 5 rfl) 14 rfl (by first | assumption | exact hR _ _ | exact ⟨by omega, by omega⟩) (by first | assumption | exact hR _ _ | exact ⟨by omega, by omega⟩) (fun h2 => ?_) (fun h2 => ?_)
    · skip
      refine V_vret (pc := 14) C E (dk k_F_put 10 rfl) ?_
      first | exact ⟨rfl, (if_pos (by omega)).symm⟩ | exact ⟨rfl, (if_neg (by omega)).symm⟩
    · skip
      refine V_aload_n (pc := 10) C (dk k_F_put 6 rfl) rfl ?_
      refine V_iload_n (pc := 11) C (dk k_F_put 7 rfl) rfl ?_
      refine V_iload_n (pc := 12) C (dk k_F_put 8 rfl) rfl ?_
      refine V_iast (pc := 13) C (dk k_F_put 9 rfl) ha hn (by omega) (by omega) (by first | assumption | exact hR _ _ | exact ⟨by omega, by omega⟩) ?_
      refine V_R (fun hR => ?_)
      refine V_vret (pc := 14) C E (dk k_F_put 10 rfl) ?_
      first | exact ⟨rfl, (if_pos (by omega)).symm⟩ | exact ⟨rfl, (if_neg (by omega)).symm⟩

theorem c_at (l : Launch) (G : GE) (σ : Wd) (a n : Nat) (i : Int) (ha : kd a = 1000 + n) (hn : n < 1000) (h0 : 0 ≤ i) (h1 : i < n) : Ct l G y_F_at b_F_at 2 (some (.int)) 0 0 [vR a, vI i] σ (Dt (some (vI (σ a i))) σ) := by
  have := c_F_at l G σ a n i ha hn ⟨by omega, by omega⟩
  rwa [if_pos ⟨h0, h1⟩] at this
theorem c_put (l : Launch) (G : GE) (σ : Wd) (a n : Nat) (i x : Int) (ha : kd a = 1000 + n) (hn : n < 1000) (h0 : 0 ≤ i) (h1 : i < n) (hx : inR x) : Ct l G y_F_put b_F_put 3 none 0 0 [vR a, vI i, vI x] σ (Dt none (up σ a i x)) := by
  have := c_F_put l G σ a n i x ha hn ⟨by omega, by omega⟩ hx
  rwa [if_pos ⟨h0, h1⟩] at this
/-- a row copied, as far as i -/
def cpw (σ : Wd) (a b : Nat) (n : Int) : Wd := fun k i => if k = b ∧ 0 ≤ i ∧ i < n then σ a i else σ k i
theorem cpw_0 (σ : Wd) (a b : Nat) : cpw σ a b 0 = σ := by
  funext k i; unfold cpw; rw [if_neg (by omega)]
theorem cpw_s (σ : Wd) (a b : Nat) (i : Int) (hab : a ≠ b) (h0 : 0 ≤ i) : up (cpw σ a b i) b i (cpw σ a b i a i) = cpw σ a b (i + 1) := by
  funext k j
  have e : cpw σ a b i a i = σ a i := by unfold cpw; rw [if_neg (fun q => hab q.1)]
  rw [e]
  unfold up cpw
  by_cases hk : k = b
  · subst hk
    by_cases hj : j = i
    · subst hj; simp; omega
    · simp only [hj, true_and, and_false, if_false]
      by_cases h2 : 0 ≤ j ∧ j < i
      · rw [if_pos h2, if_pos (by omega)]
      · rw [if_neg h2, if_neg (by omega)]
  · simp [hk]

def i_F_copyRow : List (Nat × (Instr × Nat)) := [(0, (.iconst 0, 1)), (1, (.istore_n 2, 1)), (2, (.iload_n 2, 1)), (3, (.aload_n 1, 1)), (4, (.arraylength, 1)), (5, (.if_icmp .ge 19, 3)), (8, (.aload_n 1, 1)), (9, (.iload_n 2, 1)), (10, (.aload_n 0, 1)), (11, (.iload_n 2, 1)), (12, (.invokestatic 117, 3)), (15, (.invokestatic 290, 3)), (18, (.iinc 2 1, 3)), (21, (.goto (-19), 3)), (24, (.return_, 1))]
theorem k_F_copyRow : i_F_copyRow.all (fun q => decide (decode b_F_copyRow q.1 = .ok q.2)) = true := by decide +kernel

set_option maxHeartbeats 1000000 in
set_option maxRecDepth 20000 in
theorem c_F_copyRow (l : Launch) (G : GE) (σ : Wd) (a b n : Nat) (ha : kd a = 1000 + n) (hb : kd b = 1000 + n) (hn : n < 1000) (hab : a ≠ b) : Ct l G y_F_copyRow b_F_copyRow 3 (none) 1 22 [vR a, vR b] σ (Dt none (cpw σ a b n)) := by
  refine Ct.of cm_F_copyRow (Nat.le_of_ble_eq_true rfl) ?_
  intro X hXl hXG hXN hRm C E
  subst hXl; subst hXG
  show V X 0 [some (vR a), some (vR b), none] [] σ
  refine V_R (fun hR => ?_)
  refine V_iconst (pc := 0) C (dk k_F_copyRow 0 rfl) rfl ?_
  refine V_istore_n (pc := 1) C (dk k_F_copyRow 1 rfl) (by rw [hXN]; decide) ?_
  dsimp only [lst, lstL, lz, kill, Fin.val, Nat.reduceAdd]
  refine V_eq (V_loop (fun i : Int => 0 ≤ i ∧ i ≤ n) (fun i => [some (vR a), some (vR b), some (vI i)]) (fun i => cpw σ a b i) (fun i => (n - i).toNat) (fun i hi ih => ?_) 0 ⟨by omega, by omega⟩) rfl rfl (cpw_0 σ a b).symm
  obtain ⟨hi0, hi1⟩ := hi
  refine V_R (fun hR => ?_)
  refine V_iload_n (pc := 2) C (dk k_F_copyRow 2 rfl) rfl ?_
  refine V_aload_n (pc := 3) C (dk k_F_copyRow 3 rfl) rfl ?_
  refine V_alen (pc := 4) C (dk k_F_copyRow 4 rfl) (Or.inl hb) hn rfl ?_
  refine V_icmpge (pc := 5) C (dk k_F_copyRow 5 rfl) 24 rfl (by first | assumption | exact hR _ _ | exact ⟨by omega, by omega⟩) (by first | assumption | exact hR _ _ | exact ⟨by omega, by omega⟩) (fun h1 => ?_) (fun h1 => ?_)
  · skip
    refine V_vret (pc := 24) C E (dk k_F_copyRow 14 rfl) ?_
    have e : i = n := by omega
    subst e
    exact ⟨rfl, rfl⟩
  · skip
    refine V_aload_n (pc := 8) C (dk k_F_copyRow 6 rfl) rfl ?_
    refine V_iload_n (pc := 9) C (dk k_F_copyRow 7 rfl) rfl ?_
    refine V_aload_n (pc := 10) C (dk k_F_copyRow 8 rfl) rfl ?_
    refine V_iload_n (pc := 11) C (dk k_F_copyRow 9 rfl) rfl ?_
    refine V_callS (pc := 12) C (dk k_F_copyRow 10 rfl) lk_F_117 cm_F_at sm_F_at (c_at _ _ _ a n i ha hn hi0 (by omega)) rfl rfl (Nat.le_of_ble_eq_true rfl) (Rm.mono hRm (by decide) (by decide)) ?_
    refine V_callS0 (pc := 15) C (dk k_F_copyRow 11 rfl) lk_F_290 cm_F_put sm_F_put (c_put _ _ _ b n i _ hb hn hi0 (by omega) (hR _ _)) rfl rfl (Nat.le_of_ble_eq_true rfl) (Rm.mono hRm (by decide) (by decide)) ?_
    refine V_iinc (pc := 18) C (dk k_F_copyRow 12 rfl) (by rw [hXN]; decide) rfl ?_
    dsimp only [lst, lstL, lz, kill, Fin.val, Nat.reduceAdd]
    refine V_goto (pc := 21) C (dk k_F_copyRow 13 rfl) 2 rfl ?_
    rw [cpw_s σ a b i hab hi0]
    exact ih (i + 1) ⟨by omega, by omega⟩ (by omega)

def i_F_power : List (Nat × (Instr × Nat)) := [(0, (.lconst 1, 1)), (1, (.lstore_n 2, 1)), (2, (.iconst 0, 1)), (3, (.istore 4, 2)), (5, (.iload 4, 2)), (7, (.iload_n 1, 1)), (8, (.if_icmp .ge 14, 3)), (11, (.lload_n 2, 1)), (12, (.iload_n 0, 1)), (13, (.i2l, 1)), (14, (.lmul, 1)), (15, (.lstore_n 2, 1)), (16, (.iinc 4 1, 3)), (19, (.goto (-14), 3)), (22, (.lload_n 2, 1)), (23, (.lreturn, 1))]
theorem k_F_power : i_F_power.all (fun q => decide (decode b_F_power q.1 = .ok q.2)) = true := by decide +kernel

set_option maxHeartbeats 1000000 in
set_option maxRecDepth 20000 in
theorem c_F_power (l : Launch) (G : GE) (σ : Wd) (b e : Int) (hb : inR b) (he : inR e) (he0 : 0 ≤ e) : Ct l G y_F_power b_F_power 5 (some (.long)) 0 0 [vI b, vI e] σ (Dt (some (vL (b ^ e.toNat))) σ) := by
  refine Ct.of cm_F_power (Nat.le_of_ble_eq_true rfl) ?_
  intro X hXl hXG hXN hRm C E
  subst hXl; subst hXG
  have ⟨hb_1, hb_2⟩ := hb
  have ⟨he_1, he_2⟩ := he
  show V X 0 [some (vI b), some (vI e), none, none, none] [] σ
  refine V_R (fun hR => ?_)
  refine V_lconst (pc := 0) (n' := 1) C (dk k_F_power 0 rfl) rfl ?_
  refine V_lstore_n (pc := 1) C (dk k_F_power 1 rfl) (by rw [hXN]; decide) ?_
  dsimp only [lst, lstL, lz, kill, Fin.val, Nat.reduceAdd]
  refine V_iconst (pc := 2) C (dk k_F_power 2 rfl) rfl ?_
  refine V_istore (pc := 3) C (dk k_F_power 3 rfl) (by rw [hXN]; decide) ?_
  dsimp only [lst, lstL, lz, kill, Fin.val, Nat.reduceAdd]
  refine V_eq (V_loop (fun i : Int => 0 ≤ i ∧ i ≤ e) (fun i => [some (vI b), some (vI e), some (vL (b ^ i.toNat)), none, some (vI i)]) (fun _ => σ) (fun i => (e - i).toNat) (fun i hi ih => ?_) 0 ⟨by omega, by omega⟩) (by simp) rfl rfl
  obtain ⟨hi0, hi1⟩ := hi
  refine V_iload (pc := 5) C (dk k_F_power 4 rfl) rfl ?_
  refine V_iload_n (pc := 7) C (dk k_F_power 5 rfl) rfl ?_
  refine V_icmpge (pc := 8) C (dk k_F_power 6 rfl) 22 rfl (by first | assumption | exact hR _ _ | exact ⟨by omega, by omega⟩) (by first | assumption | exact hR _ _ | exact ⟨by omega, by omega⟩) (fun h1 => ?_) (fun h1 => ?_)
  · skip
    refine V_lload_n (pc := 22) C (dk k_F_power 14 rfl) rfl ?_
    refine V_lret (pc := 23) C E (dk k_F_power 15 rfl) ?_
    have e2 : i = e := by omega
    subst e2
    exact ⟨rfl, rfl⟩
  · skip
    refine V_lload_n (pc := 11) C (dk k_F_power 7 rfl) rfl ?_
    refine V_iload_n (pc := 12) C (dk k_F_power 8 rfl) rfl ?_
    refine V_i2l (pc := 13) C (dk k_F_power 9 rfl) (by first | assumption | exact hR _ _ | exact ⟨by omega, by omega⟩) ?_
    refine V_lmul (pc := 14) C (dk k_F_power 10 rfl) ?_
    refine V_lstore_n (pc := 15) C (dk k_F_power 11 rfl) (by rw [hXN]; decide) ?_
    dsimp only [lst, lstL, lz, kill, Fin.val, Nat.reduceAdd]
    refine V_iinc (pc := 16) C (dk k_F_power 12 rfl) (by rw [hXN]; decide) rfl ?_
    dsimp only [lst, lstL, lz, kill, Fin.val, Nat.reduceAdd]
    refine V_goto (pc := 19) C (dk k_F_power 13 rfl) 5 rfl ?_
    refine V_eq (ih (i + 1) ⟨by omega, by omega⟩ (by omega)) ?_ rfl rfl
    rw [show (i + 1).toNat = i.toNat + 1 by omega, Int.pow_succ]

def nx (kind near day : Int) : Int := if near ≤ 0 then 0 else if kind = 1 then min (near + 2) 99 else if kind = 2 then (if day % 2 = 0 then near else near - 1) else if kind = 3 then max (near - 2) 0 else min (near + 1) 99

def i_F_nearNextDay : List (Nat × (Instr × Nat)) := [(0, (.iload_n 1, 1)), (1, (.ifCond .gt 5, 3)), (4, (.iconst 0, 1)), (5, (.ireturn, 1)), (6, (.iload_n 0, 1)), (7, (.tableswitch 56 1 3 #[25, 34, 48], 25)), (32, (.iload_n 1, 1)), (33, (.iconst 2, 1)), (34, (.iadd, 1)), (35, (.bipush 99, 2)), (37, (.invokestatic 282, 3)), (40, (.ireturn, 1)), (41, (.iload_n 2, 1)), (42, (.iconst 2, 1)), (43, (.irem, 1)), (44, (.ifCond .ne 7, 3)), (47, (.iload_n 1, 1)), (48, (.goto 6, 3)), (51, (.iload_n 1, 1)), (52, (.iconst 1, 1)), (53, (.isub, 1)), (54, (.ireturn, 1)), (55, (.iload_n 1, 1)), (56, (.iconst 2, 1)), (57, (.isub, 1)), (58, (.iconst 0, 1)), (59, (.invokestatic 287, 3)), (62, (.ireturn, 1)), (63, (.iload_n 1, 1)), (64, (.iconst 1, 1)), (65, (.iadd, 1)), (66, (.bipush 99, 2)), (68, (.invokestatic 282, 3)), (71, (.ireturn, 1))]
theorem k_F_nearNextDay : i_F_nearNextDay.all (fun q => decide (decode b_F_nearNextDay q.1 = .ok q.2)) = true := by decide +kernel

set_option maxHeartbeats 1000000 in
set_option maxRecDepth 20000 in
theorem c_F_nearNextDay (l : Launch) (G : GE) (σ : Wd) (k n d : Int) (hk : inR k) (hn : inR n) (hd : inR d) (hn0 : n ≤ 1000) (hd0 : 0 ≤ d) : Ct l G y_F_nearNextDay b_F_nearNextDay 3 (some (.int)) 1 26 [vI k, vI n, vI d] σ (Dt (some (vI (nx k n d))) σ) := by
  refine Ct.of cm_F_nearNextDay (Nat.le_of_ble_eq_true rfl) ?_
  intro X hXl hXG hXN hRm C E
  subst hXl; subst hXG
  have ⟨hk_1, hk_2⟩ := hk
  have ⟨hn_1, hn_2⟩ := hn
  have ⟨hd_1, hd_2⟩ := hd
  show V X 0 [some (vI k), some (vI n), some (vI d)] [] σ
  refine V_R (fun hR => ?_)
  refine V_iload_n (pc := 0) C (dk k_F_nearNextDay 0 rfl) rfl ?_
  refine V_ifgt (pc := 1) C (dk k_F_nearNextDay 1 rfl) 6 rfl (by first | assumption | exact hR _ _ | exact ⟨by omega, by omega⟩) (fun h1 => ?_) (fun h1 => ?_)
  · skip
    refine V_iload_n (pc := 6) C (dk k_F_nearNextDay 4 rfl) rfl ?_
    refine V_switch (pc := 7) C (dk k_F_nearNextDay 5 rfl) (by first | assumption | exact hR _ _ | exact ⟨by omega, by omega⟩) (fun h2 tgt ht => ?_) ⟨63, rfl⟩ (fun h2 h2b => ?_)
    · obtain rfl : tgt = 63 := by omega
      refine V_iload_n (pc := 63) C (dk k_F_nearNextDay 28 rfl) rfl ?_
      refine V_iconst (pc := 64) C (dk k_F_nearNextDay 29 rfl) rfl ?_
      refine V_iadd (pc := 65) C (dk k_F_nearNextDay 30 rfl) ?_
      refine V_bipush (pc := 66) (n' := 99) C (dk k_F_nearNextDay 31 rfl) rfl ?_
      refine V_mmin (pc := 68) C (dk k_F_nearNextDay 32 rfl) ml_F_282 (by first | exact ⟨by omega, by omega⟩ | assumption) (by first | exact ⟨by omega, by omega⟩ | assumption) (Nat.le_of_ble_eq_true rfl) (Rm.mono hRm (by decide) (by decide)) ?_
      refine V_iret (pc := 71) C E (dk k_F_nearNextDay 33 rfl) ?_
      refine ⟨congrArg some (congrArg Sum.inl ?_), rfl⟩
      unfold nx
      repeat rw [if_neg (by omega)]
      repeat rw [if_pos (by omega)]
      all_goals first | rfl | omega
    · skip
      have h2c : k = 1 ∨ k = 2 ∨ k = 3 := by omega
      rcases h2c with h2d | h2d | h2d
      · refine ⟨25, 32, by rw [h2d]; rfl, rfl, ?_⟩
        refine V_iload_n (pc := 32) C (dk k_F_nearNextDay 6 rfl) rfl ?_
        refine V_iconst (pc := 33) C (dk k_F_nearNextDay 7 rfl) rfl ?_
        refine V_iadd (pc := 34) C (dk k_F_nearNextDay 8 rfl) ?_
        refine V_bipush (pc := 35) (n' := 99) C (dk k_F_nearNextDay 9 rfl) rfl ?_
        refine V_mmin (pc := 37) C (dk k_F_nearNextDay 10 rfl) ml_F_282 (by first | exact ⟨by omega, by omega⟩ | assumption) (by first | exact ⟨by omega, by omega⟩ | assumption) (Nat.le_of_ble_eq_true rfl) (Rm.mono hRm (by decide) (by decide)) ?_
        refine V_iret (pc := 40) C E (dk k_F_nearNextDay 11 rfl) ?_
        refine ⟨congrArg some (congrArg Sum.inl ?_), rfl⟩
        unfold nx
        repeat rw [if_neg (by omega)]
        repeat rw [if_pos (by omega)]
        all_goals first | rfl | omega
      · refine ⟨34, 41, by rw [h2d]; rfl, rfl, ?_⟩
        refine V_iload_n (pc := 41) C (dk k_F_nearNextDay 12 rfl) rfl ?_
        refine V_iconst (pc := 42) C (dk k_F_nearNextDay 13 rfl) rfl ?_
        refine V_irem (pc := 43) C (dk k_F_nearNextDay 14 rfl) (by first | assumption | exact hR _ _ | exact ⟨by omega, by omega⟩) (by first | assumption | exact hR _ _ | exact ⟨by omega, by omega⟩) (by omega) (by omega) ?_
        refine V_ifne (pc := 44) C (dk k_F_nearNextDay 15 rfl) 51 rfl (by first | assumption | exact hR _ _ | exact ⟨by omega, by omega⟩) (fun h3 => ?_) (fun h3 => ?_)
        · skip
          refine V_iload_n (pc := 51) C (dk k_F_nearNextDay 18 rfl) rfl ?_
          refine V_iconst (pc := 52) C (dk k_F_nearNextDay 19 rfl) rfl ?_
          refine V_isub (pc := 53) C (dk k_F_nearNextDay 20 rfl) ?_
          refine V_iret (pc := 54) C E (dk k_F_nearNextDay 21 rfl) ?_
          refine ⟨congrArg some (congrArg Sum.inl ?_), rfl⟩
          unfold nx
          repeat rw [if_neg (by omega)]
          repeat rw [if_pos (by omega)]
          all_goals first | rfl | omega
        · skip
          refine V_iload_n (pc := 47) C (dk k_F_nearNextDay 16 rfl) rfl ?_
          refine V_goto (pc := 48) C (dk k_F_nearNextDay 17 rfl) 54 rfl ?_
          refine V_iret (pc := 54) C E (dk k_F_nearNextDay 21 rfl) ?_
          refine ⟨congrArg some (congrArg Sum.inl ?_), rfl⟩
          unfold nx
          repeat rw [if_neg (by omega)]
          repeat rw [if_pos (by omega)]
          all_goals first | rfl | omega
      · refine ⟨48, 55, by rw [h2d]; rfl, rfl, ?_⟩
        refine V_iload_n (pc := 55) C (dk k_F_nearNextDay 22 rfl) rfl ?_
        refine V_iconst (pc := 56) C (dk k_F_nearNextDay 23 rfl) rfl ?_
        refine V_isub (pc := 57) C (dk k_F_nearNextDay 24 rfl) ?_
        refine V_iconst (pc := 58) C (dk k_F_nearNextDay 25 rfl) rfl ?_
        refine V_mmax (pc := 59) C (dk k_F_nearNextDay 26 rfl) ml_F_287 (by first | exact ⟨by omega, by omega⟩ | assumption) (by first | exact ⟨by omega, by omega⟩ | assumption) (Nat.le_of_ble_eq_true rfl) (Rm.mono hRm (by decide) (by decide)) ?_
        refine V_iret (pc := 62) C E (dk k_F_nearNextDay 27 rfl) ?_
        refine ⟨congrArg some (congrArg Sum.inl ?_), rfl⟩
        unfold nx
        repeat rw [if_neg (by omega)]
        repeat rw [if_pos (by omega)]
        all_goals first | rfl | omega
  · skip
    refine V_iconst (pc := 4) C (dk k_F_nearNextDay 2 rfl) rfl ?_
    refine V_iret (pc := 5) C E (dk k_F_nearNextDay 3 rfl) ?_
    refine ⟨congrArg some (congrArg Sum.inl ?_), rfl⟩
    unfold nx
    repeat rw [if_neg (by omega)]
    repeat rw [if_pos (by omega)]
    all_goals first | rfl | omega

theorem eu_half {a b : Int} (hb : 0 < b) (hab : b < a) : b * (a % b) * 2 ≤ a * b := by
  have h1 : a % b < b := Int.emod_lt_of_pos a hb
  have h2 : 0 ≤ a % b := Int.emod_nonneg a (by omega)
  have h3 := Int.emod_add_mul_ediv a b
  have h4 : 1 ≤ a / b := by
    rcases Int.lt_or_le 0 (a / b) with h | h
    · omega
    · exfalso
      have : b * (a / b) ≤ 0 := Int.mul_nonpos_of_nonneg_of_nonpos (by omega) h
      omega
  have h5 : b * 1 ≤ b * (a / b) := Int.mul_le_mul_of_nonneg_left h4 (by omega)
  have h6 : a % b * 2 ≤ a := by omega
  have h7 : b * (a % b * 2) ≤ b * a := Int.mul_le_mul_of_nonneg_left h6 (by omega)
  rw [Int.mul_assoc, Int.mul_comm a b]
  exact h7
/-- between the steps of Euclid: i steps are done, x and y stand -/
def euI (a b i x y : Int) : Prop := 0 ≤ i ∧ i ≤ 100 ∧ 0 < x ∧ 0 ≤ y ∧ x < 4611686018427387904 ∧ y < 4611686018427387904 ∧ Int.gcd x y = Int.gcd a b ∧ (1 ≤ i → y < x ∧ x * y * 2 ^ (i - 1).toNat ≤ a * b)
theorem euI_s {a b i x y : Int} (ha : 0 < a) (hb : 0 ≤ b) (h : euI a b i x y) (hy : y ≠ 0) (hi : i < 100) (h0 : i = 0 → x = a ∧ y = b) : euI a b (i + 1) y (x % y) := by
  obtain ⟨e1, e2, e3, e4, e5, e6, e7, e8⟩ := h
  have y0 : 0 < y := by omega
  have m0 : 0 ≤ x % y := Int.emod_nonneg x hy
  have m1 : x % y < y := Int.emod_lt_of_pos x y0
  refine ⟨by omega, by omega, y0, m0, e6, by omega, ?_, fun _ => ⟨m1, ?_⟩⟩
  · rw [← e7, Int.emod_def, Int.gcd_sub_mul_left_right, Int.gcd_comm]
  · by_cases hi0 : i = 0
    · obtain ⟨rfl, rfl⟩ := h0 hi0
      subst hi0
      show y * (x % y) * 2 ^ 0 ≤ x * y
      rw [Int.pow_zero, Int.mul_one, Int.mul_comm x y]
      have : x % y ≤ x := by
        have h3 := Int.emod_add_mul_ediv x y
        have : 0 ≤ y * (x / y) := Int.mul_nonneg (by omega) (Int.ediv_nonneg (by omega) (by omega))
        omega
      exact Int.mul_le_mul_of_nonneg_left this (by omega)
    · obtain ⟨f1, f2⟩ := e8 (by omega)
      have h2 := eu_half y0 f1
      have e : (i + 1 - 1).toNat = (i - 1).toNat + 1 := by omega
      rw [e, Int.pow_succ]
      have hp : (0 : Int) ≤ 2 ^ (i - 1).toNat := Int.pow_nonneg (by omega)
      calc y * (x % y) * (2 ^ (i - 1).toNat * 2) = (y * (x % y) * 2) * 2 ^ (i - 1).toNat := by rw [Int.mul_comm (2 ^ (i - 1).toNat) 2, ← Int.mul_assoc]
        _ ≤ (x * y) * 2 ^ (i - 1).toNat := Int.mul_le_mul_of_nonneg_right h2 hp
        _ ≤ a * b := f2
theorem euI_0 {a b : Int} (ha : 0 < a) (hb : 0 ≤ b) (ha1 : a < 34359738368) (hb1 : b < 34359738368) : euI a b 0 a b :=
  ⟨by omega, by omega, ha, hb, by omega, by omega, rfl, fun q => by omega⟩
theorem euI_end {a b x y : Int} (hab : a * b ≤ 1180591620717411303424) (h : euI a b 100 x y) : y = 0 := by
  obtain ⟨e1, e2, e3, e4, e5, e6, e7, e8⟩ := h
  obtain ⟨f1, f2⟩ := e8 (by omega)
  rcases Int.lt_or_le 0 y with hy | hy
  · exfalso
    have h1 : 0 < x * y := Int.mul_pos e3 hy
    have h2 : (1 : Int) * 2 ^ (100 - 1 : Int).toNat ≤ x * y * 2 ^ (100 - 1 : Int).toNat := Int.mul_le_mul_of_nonneg_right (by omega) (Int.pow_nonneg (by omega))
    have h3 : (2 : Int) ^ (100 - 1 : Int).toNat = 633825300114114700748351602688 := by decide
    omega
  · omega

def i_F_commonDivisor : List (Nat × (Instr × Nat)) := [(0, (.lload_n 0, 1)), (1, (.lstore 4, 2)), (3, (.lload_n 2, 1)), (4, (.lstore 6, 2)), (6, (.iconst 0, 1)), (7, (.istore 8, 2)), (9, (.iload 8, 2)), (11, (.bipush 100, 2)), (13, (.if_icmp .ge 31, 3)), (16, (.lload 6, 2)), (18, (.lconst 0, 1)), (19, (.lcmp, 1)), (20, (.ifCond .eq 24, 3)), (23, (.lload 4, 2)), (25, (.lload 6, 2)), (27, (.lrem, 1)), (28, (.lstore 9, 2)), (30, (.lload 6, 2)), (32, (.lstore 4, 2)), (34, (.lload 9, 2)), (36, (.lstore 6, 2)), (38, (.iinc 8 1, 3)), (41, (.goto (-32), 3)), (44, (.lload 4, 2)), (46, (.lreturn, 1))]
theorem k_F_commonDivisor : i_F_commonDivisor.all (fun q => decide (decode b_F_commonDivisor q.1 = .ok q.2)) = true := by decide +kernel

set_option maxHeartbeats 1000000 in
set_option maxRecDepth 20000 in
theorem c_F_commonDivisor (l : Launch) (G : GE) (σ : Wd) (a b : Int) (ha : 0 < a) (hb : 0 ≤ b) (ha1 : a < 34359738368) (hb1 : b < 34359738368) : Ct l G y_F_commonDivisor b_F_commonDivisor 11 (some (.long)) 0 0 [vL a, vL b] σ (Dt (some (vL (Int.gcd a b : Nat))) σ) := by
  refine Ct.of cm_F_commonDivisor (Nat.le_of_ble_eq_true rfl) ?_
  intro X hXl hXG hXN hRm C E
  subst hXl; subst hXG
  show V X 0 [some (vL a), none, some (vL b), none, none, none, none, none, none, none, none] [] σ
  refine V_R (fun hR => ?_)
  refine V_lload_n (pc := 0) C (dk k_F_commonDivisor 0 rfl) rfl ?_
  refine V_lstore (pc := 1) C (dk k_F_commonDivisor 1 rfl) (by rw [hXN]; decide) ?_
  dsimp only [lst, lstL, lz, kill, Fin.val, Nat.reduceAdd]
  refine V_lload_n (pc := 3) C (dk k_F_commonDivisor 2 rfl) rfl ?_
  refine V_lstore (pc := 4) C (dk k_F_commonDivisor 3 rfl) (by rw [hXN]; decide) ?_
  dsimp only [lst, lstL, lz, kill, Fin.val, Nat.reduceAdd]
  refine V_iconst (pc := 6) C (dk k_F_commonDivisor 4 rfl) rfl ?_
  refine V_istore (pc := 7) C (dk k_F_commonDivisor 5 rfl) (by rw [hXN]; decide) ?_
  dsimp only [lst, lstL, lz, kill, Fin.val, Nat.reduceAdd]
  refine V_eq (V_loop (fun q : Int × (Int × Int) => euI a b q.1 q.2.1 q.2.2 ∧ (q.1 = 0 → q.2.1 = a ∧ q.2.2 = b)) (fun q => [some (vL a), none, some (vL b), none, some (vL q.2.1), none, some (vL q.2.2), none, some (vI q.1), none, none]) (fun _ => σ) (fun q => (100 - q.1).toNat) (fun q hq ih => ?_) (0, (a, b)) ⟨euI_0 ha hb ha1 hb1, fun _ => ⟨rfl, rfl⟩⟩) rfl rfl rfl
  obtain ⟨i, x, y⟩ := q
  obtain ⟨hI, h00⟩ := hq
  have ⟨g1, g2, g3, g4, g5, g6, g7, g8⟩ := hI
  dsimp only at *
  refine V_iload (pc := 9) C (dk k_F_commonDivisor 6 rfl) rfl ?_
  refine V_bipush (pc := 11) (n' := 100) C (dk k_F_commonDivisor 7 rfl) rfl ?_
  refine V_icmpge (pc := 13) C (dk k_F_commonDivisor 8 rfl) 44 rfl (by first | assumption | exact hR _ _ | exact ⟨by omega, by omega⟩) (by first | assumption | exact hR _ _ | exact ⟨by omega, by omega⟩) (fun h1 => ?_) (fun h1 => ?_)
  · skip
    refine V_lload (pc := 44) C (dk k_F_commonDivisor 23 rfl) rfl ?_
    refine V_lret (pc := 46) C E (dk k_F_commonDivisor 24 rfl) ?_
    have hab : a * b ≤ 34359738368 * 34359738368 := Int.mul_le_mul (by omega) (by omega) hb (by omega)
    have hi100 : i = 100 → y = 0 := fun q => by subst q; exact euI_end (by omega) hI
    obtain rfl : y = 0 := by omega
    refine ⟨?_, rfl⟩
    rw [← g7, Int.gcd_zero_right]
    congr 2
    omega
  · skip
    refine V_lload (pc := 16) C (dk k_F_commonDivisor 9 rfl) rfl ?_
    refine V_lconst (pc := 18) (n' := 0) C (dk k_F_commonDivisor 10 rfl) rfl ?_
    refine V_lcmp (pc := 19) C (dk k_F_commonDivisor 11 rfl) ⟨by omega, by omega⟩ ⟨by omega, by omega⟩ ?_
    refine V_ifeqC (pc := 20) C (dk k_F_commonDivisor 12 rfl) 44 rfl  (fun h2 => ?_) (fun h2 => ?_)
    · skip
      refine V_lload (pc := 44) C (dk k_F_commonDivisor 23 rfl) rfl ?_
      refine V_lret (pc := 46) C E (dk k_F_commonDivisor 24 rfl) ?_
      have hab : a * b ≤ 34359738368 * 34359738368 := Int.mul_le_mul (by omega) (by omega) hb (by omega)
      have hi100 : i = 100 → y = 0 := fun q => by subst q; exact euI_end (by omega) hI
      obtain rfl : y = 0 := by omega
      refine ⟨?_, rfl⟩
      rw [← g7, Int.gcd_zero_right]
      congr 2
      omega
    · skip
      refine V_lload (pc := 23) C (dk k_F_commonDivisor 13 rfl) rfl ?_
      refine V_lload (pc := 25) C (dk k_F_commonDivisor 14 rfl) rfl ?_
      refine V_lrem (pc := 27) C (dk k_F_commonDivisor 15 rfl) ⟨by omega, by omega⟩ ⟨by omega, by omega⟩ (by omega) (by omega) ?_
      refine V_lstore (pc := 28) C (dk k_F_commonDivisor 16 rfl) (by rw [hXN]; decide) ?_
      dsimp only [lst, lstL, lz, kill, Fin.val, Nat.reduceAdd]
      refine V_lload (pc := 30) C (dk k_F_commonDivisor 17 rfl) rfl ?_
      refine V_lstore (pc := 32) C (dk k_F_commonDivisor 18 rfl) (by rw [hXN]; decide) ?_
      dsimp only [lst, lstL, lz, kill, Fin.val, Nat.reduceAdd]
      refine V_lload (pc := 34) C (dk k_F_commonDivisor 19 rfl) rfl ?_
      refine V_lstore (pc := 36) C (dk k_F_commonDivisor 20 rfl) (by rw [hXN]; decide) ?_
      dsimp only [lst, lstL, lz, kill, Fin.val, Nat.reduceAdd]
      refine V_iinc (pc := 38) C (dk k_F_commonDivisor 21 rfl) (by rw [hXN]; decide) rfl ?_
      dsimp only [lst, lstL, lz, kill, Fin.val, Nat.reduceAdd]
      refine V_goto (pc := 41) C (dk k_F_commonDivisor 22 rfl) 9 rfl ?_
      refine V_fg 9 ?_
      dsimp only [fg]
      exact ih (i + 1, (y, x % y)) ⟨euI_s ha hb hI (by omega) (by omega) h00, fun q => by omega⟩ (by dsimp only; omega)
end
section
/-- a shop's plan: persons, things, rates told, L; whose, kind, rued; the rates -/
abbrev PL : Type := Nat × (Nat × (Nat × (Int × ((Int → Int) × ((Int → Int) × ((Int → Int) × (Int → Int)))))))
def pP (π : PL) : Nat := π.1
def pN (π : PL) : Nat := π.2.1
def pR (π : PL) : Nat := π.2.2.1
def pL (π : PL) : Int := π.2.2.2.1
def pO (π : PL) : Int → Int := π.2.2.2.2.1
def pK (π : PL) : Int → Int := π.2.2.2.2.2.1
def pU (π : PL) : Int → Int := π.2.2.2.2.2.2.1
def pX (π : PL) : Int → Int := π.2.2.2.2.2.2.2
/-- how all stands: day, the shop's money; money, rue; near, place -/
abbrev ST : Type := Int × (Int × ((Int → Int) × ((Int → Int) × ((Int → Int) × (Int → Int)))))
def sD (x : ST) : Int := x.1
def sM (x : ST) : Int := x.2.1
def sG (x : ST) : Int → Int := x.2.2.1
def sR (x : ST) : Int → Int := x.2.2.2.1
def sN (x : ST) : Int → Int := x.2.2.2.2.1
def sP (x : ST) : Int → Int := x.2.2.2.2.2
def PLok (π : PL) : Prop := 1 ≤ pP π ∧ pP π ≤ 5 ∧ pN π ≤ 8 ∧ pR π ≤ 12 ∧ 0 ≤ pL π ∧ pL π ≤ 20 ∧ (∀ t : Int, 0 ≤ t → t < pN π → 0 ≤ pO π t ∧ pO π t < pP π ∧ 0 ≤ pK π t ∧ pK π t ≤ 3 ∧ 0 ≤ pU π t ∧ pU π t ≤ 20) ∧ (∀ r : Int, 0 ≤ r → r < pR π → 0 ≤ pX π r ∧ pX π r ≤ 9)
/-- bounds that grow with the calls -/
def STok (π : PL) (x : ST) (j : Int) : Prop := 0 ≤ sD x ∧ sD x ≤ 24 * j ∧ 0 ≤ sM x ∧ sM x ≤ 99 + 900 * j ∧ (∀ q : Int, 0 ≤ q → q < pP π → 0 ≤ sG x q ∧ sG x q ≤ 99 + 900 * j ∧ 0 ≤ sR x q ∧ sR x q ≤ 160 * sD x) ∧ (∀ t : Int, 0 ≤ t → t < pN π → 0 ≤ sN x t ∧ sN x t ≤ 99 ∧ 0 ≤ sP x t ∧ sP x t ≤ 2 ∧ (sP x t = 2 ↔ sN x t = 0))
/-- what the shop pays on a day -/
def rt (π : PL) (d : Int) : Int := if pR π = 0 then 3 else pX π (d % pR π)
def prc (π : PL) (x : ST) (t : Int) : Int := sN x t * rt π (sD x)
theorem rt_b {π : PL} (h : PLok π) {d : Int} : 0 ≤ rt π d ∧ rt π d ≤ 9 := by
  unfold rt
  split
  · omega
  · have h1 := Int.emod_nonneg d (b := (pR π : Int)) (by omega)
    have h2 := Int.emod_lt_of_pos d (b := (pR π : Int)) (by omega)
    exact h.2.2.2.2.2.2.2 _ h1 h2
theorem prc_b {π : PL} {x : ST} {j t : Int} (h : PLok π) (hx : STok π x j) (h0 : 0 ≤ t) (h1 : t < pN π) : 0 ≤ prc π x t ∧ prc π x t ≤ 891 := by
  obtain ⟨a1, a2⟩ := rt_b h (d := sD x)
  obtain ⟨b1, b2, -⟩ := hx.2.2.2.2.2 t h0 h1
  unfold prc
  exact ⟨Int.mul_nonneg b1 a1, Int.le_trans (Int.mul_le_mul b2 a2 a1 (by omega)) (by omega)⟩
/-- the class's plan p stands for π -/
def PlR (σ : Wd) (p : Nat) (π : PL) : Prop := kd p = 5 ∧ σ p 0 = pP π ∧ σ p 2 = pN π ∧ σ p 7 = pR π ∧ σ p 10 = pL π ∧ (∀ t : Int, 0 ≤ t → t < pN π → σ (p + 2) t = pO π t ∧ σ (p + 3) t = pK π t ∧ σ (p + 5) t = pU π t) ∧ (∀ r : Int, 0 ≤ r → r < pR π → σ (p + 6) r = pX π r)
/-- the class's stand s stands for x -/
def StR (σ : Wd) (s : Nat) (π : PL) (x : ST) : Prop := kd s = 7 ∧ σ s 0 = sD x ∧ σ s 1 = sM x ∧ (∀ q : Int, 0 ≤ q → q < pP π → σ (s + 1) q = sG x q ∧ σ (s + 2) q = sR x q) ∧ (∀ t : Int, 0 ≤ t → t < pN π → σ (s + 3) t = sN x t ∧ σ (s + 4) t = sP x t)

def i_P_rate : List (Nat × (Instr × Nat)) := [(0, (.aload_n 0, 1)), (1, (.getfield 37, 3)), (4, (.ifCond .le 19, 3)), (7, (.aload_n 0, 1)), (8, (.getfield 27, 3)), (11, (.iload_n 1, 1)), (12, (.aload_n 0, 1)), (13, (.getfield 37, 3)), (16, (.irem, 1)), (17, (.invokestatic 46, 3)), (20, (.goto 4, 3)), (23, (.iconst 3, 1)), (24, (.ireturn, 1))]
theorem k_P_rate : i_P_rate.all (fun q => decide (decode b_P_rate q.1 = .ok q.2)) = true := by decide +kernel

set_option maxHeartbeats 1000000 in
set_option maxRecDepth 20000 in
theorem c_P_rate (l : Launch) (G : GE) (σ : Wd) (p : Nat) (π : PL) (d : Int) (hπ : PlR σ p π) (ok : PLok π) (hd : inR d) (hd0 : 0 ≤ d) : Ct l G y_P_rate b_P_rate 2 (some (.int)) 1 21 [vR p, vI d] σ (Dt (some (vI (rt π d))) σ) := by
  refine Ct.of cm_P_rate (Nat.le_of_ble_eq_true rfl) ?_
  intro X hXl hXG hXN hRm C E
  subst hXl; subst hXG
  have ⟨hd_1, hd_2⟩ := hd
  show V X 0 [some (vR p), some (vI d)] [] σ
  refine V_R (fun hR => ?_)
  obtain ⟨hp, e0, e2, e7, e10, eT, eX⟩ := hπ
  obtain ⟨hp_1, hp_2, hp_3, hp_4, hp_5, hp_6⟩ := kd_P hp
  have ⟨k1, k2, k3, k4, k5, k6, kT, kX⟩ := ok
  refine V_aload_n (pc := 0) C (dk k_P_rate 0 rfl) rfl ?_
  refine V_geti (pc := 1) (ji := 7) C (dk k_P_rate 1 rfl) fl_P_37 hp (by decide) rfl rfl ?_
  refine V_ifle (pc := 4) C (dk k_P_rate 2 rfl) 23 rfl (by first | assumption | exact hR _ _ | exact ⟨by omega, by omega⟩) (fun h1 => ?_) (fun h1 => ?_)
  · skip
    refine V_iconst (pc := 23) C (dk k_P_rate 11 rfl) rfl ?_
    refine V_iret (pc := 24) C E (dk k_P_rate 12 rfl) ?_
    refine ⟨congrArg some (congrArg Sum.inl ?_), rfl⟩
    unfold rt
    first | (rw [if_neg (by omega)]; exact eX _ hm0 hm1) | (rw [if_pos (by omega)])
  · skip
    refine V_aload_n (pc := 7) C (dk k_P_rate 3 rfl) rfl ?_
    refine V_getr (pc := 8) (o2 := p + 6) C (dk k_P_rate 4 rfl) fl_P_27 hp (by decide) rfl (by decide) rfl ?_
    refine V_iload_n (pc := 11) C (dk k_P_rate 5 rfl) rfl ?_
    refine V_aload_n (pc := 12) C (dk k_P_rate 6 rfl) rfl ?_
    refine V_geti (pc := 13) (ji := 7) C (dk k_P_rate 7 rfl) fl_P_37 hp (by decide) rfl rfl ?_
    have hr0 : 0 < σ p 7 := by omega
    refine V_irem (pc := 16) C (dk k_P_rate 8 rfl) (by first | assumption | exact hR _ _ | exact ⟨by omega, by omega⟩) (by first | assumption | exact hR _ _ | exact ⟨by omega, by omega⟩) (by omega) (by omega) ?_
    have hm0 := Int.emod_nonneg d (b := σ p 7) (by omega)
    have hm1 := Int.emod_lt_of_pos d (b := σ p 7) (by omega)
    rw [e7] at hm0 hm1 ⊢
    refine V_callS (pc := 17) C (dk k_P_rate 9 rfl) lk_P_46 cm_F_at sm_F_at (c_at _ _ _ (p + 6) 12 (d % pR π) hp_6 (by decide) hm0 (by omega)) rfl rfl (Nat.le_of_ble_eq_true rfl) (Rm.mono hRm (by decide) (by decide)) ?_
    refine V_goto (pc := 20) C (dk k_P_rate 10 rfl) 24 rfl ?_
    refine V_iret (pc := 24) C E (dk k_P_rate 12 rfl) ?_
    refine ⟨congrArg some (congrArg Sum.inl ?_), rfl⟩
    unfold rt
    first | (rw [if_neg (by omega)]; exact eX _ hm0 hm1) | (rw [if_pos (by omega)])

def i_S_price : List (Nat × (Instr × Nat)) := [(0, (.aload_n 0, 1)), (1, (.getfield 18, 3)), (4, (.iload_n 2, 1)), (5, (.invokestatic 44, 3)), (8, (.aload_n 1, 1)), (9, (.aload_n 0, 1)), (10, (.getfield 24, 3)), (13, (.invokevirtual 48, 3)), (16, (.imul, 1)), (17, (.ireturn, 1))]
theorem k_S_price : i_S_price.all (fun q => decide (decode b_S_price q.1 = .ok q.2)) = true := by decide +kernel

set_option maxHeartbeats 1000000 in
set_option maxRecDepth 20000 in
theorem c_S_price (l : Launch) (G : GE) (σ : Wd) (s p : Nat) (π : PL) (x : ST) (j t : Int) (hπ : PlR σ p π) (ok : PLok π) (hx : StR σ s π x) (xk : STok π x j) (hj : j ≤ 200) (ht0 : 0 ≤ t) (ht1 : t < pN π) : Ct l G y_S_price b_S_price 3 (some (.int)) 2 42 [vR s, vR p, vI t] σ (Dt (some (vI (prc π x t))) σ) := by
  refine Ct.of cm_S_price (Nat.le_of_ble_eq_true rfl) ?_
  intro X hXl hXG hXN hRm C E
  subst hXl; subst hXG
  show V X 0 [some (vR s), some (vR p), some (vI t)] [] σ
  refine V_R (fun hR => ?_)
  have hπ0 := hπ
  have hx0 := hx
  obtain ⟨hp, e0, e2, e7, e10, eT, eX⟩ := hπ
  obtain ⟨hp_1, hp_2, hp_3, hp_4, hp_5, hp_6⟩ := kd_P hp
  have ⟨k1, k2, k3, k4, k5, k6, kT, kX⟩ := ok
  obtain ⟨hs, f0, f1, fQ, fT⟩ := hx
  obtain ⟨hs_1, hs_2, hs_3, hs_4⟩ := kd_S hs
  have ⟨x1, x2, x3, x4, xQ, xT⟩ := xk
  obtain ⟨fN, fP⟩ := fT t ht0 ht1
  obtain ⟨tO, tK, tU⟩ := eT t ht0 ht1
  obtain ⟨kO0, kO1, kK0, kK1, kU0, kU1⟩ := kT t ht0 ht1
  obtain ⟨xN0, xN1, xP0, xP1, xPN⟩ := xT t ht0 ht1
  refine V_aload_n (pc := 0) C (dk k_S_price 0 rfl) rfl ?_
  refine V_getr (pc := 1) (o2 := s + 3) C (dk k_S_price 1 rfl) fl_S_18 hs (by decide) rfl (by decide) rfl ?_
  refine V_iload_n (pc := 4) C (dk k_S_price 2 rfl) rfl ?_
  refine V_callS (pc := 5) C (dk k_S_price 3 rfl) lk_S_44 cm_F_at sm_F_at (c_at _ _ _ (s + 3) 8 t hs_3 (by decide) ht0 (by omega)) rfl rfl (Nat.le_of_ble_eq_true rfl) (Rm.mono hRm (by decide) (by decide)) ?_
  refine V_aload_n (pc := 8) C (dk k_S_price 4 rfl) rfl ?_
  refine V_aload_n (pc := 9) C (dk k_S_price 5 rfl) rfl ?_
  refine V_geti (pc := 10) (ji := 0) C (dk k_S_price 6 rfl) fl_S_24 hs (by decide) rfl rfl ?_
  refine V_callV (pc := 13) C (dk k_S_price 7 rfl) lk_S_48 cm_P_rate vm_P_rate (c_P_rate _ _ _ p π _ hπ0 ok (hR _ _) (by omega)) hp rfl rfl rfl (Nat.le_of_ble_eq_true rfl) (Rm.mono hRm (by decide) (by decide)) ?_
  refine V_imul (pc := 16) C (dk k_S_price 8 rfl) ?_
  refine V_iret (pc := 17) C E (dk k_S_price 9 rfl) ?_
  exact ⟨by unfold prc; rw [fN, f0], rfl⟩

def i_S_isOffered : List (Nat × (Instr × Nat)) := [(0, (.aload_n 0, 1)), (1, (.getfield 21, 3)), (4, (.iload_n 2, 1)), (5, (.invokestatic 44, 3)), (8, (.ifCond .ne 22, 3)), (11, (.aload_n 0, 1)), (12, (.getfield 18, 3)), (15, (.iload_n 2, 1)), (16, (.invokestatic 44, 3)), (19, (.aload_n 1, 1)), (20, (.getfield 52, 3)), (23, (.if_icmp .lt 7, 3)), (26, (.iconst 1, 1)), (27, (.goto 4, 3)), (30, (.iconst 0, 1)), (31, (.ireturn, 1))]
theorem k_S_isOffered : i_S_isOffered.all (fun q => decide (decode b_S_isOffered q.1 = .ok q.2)) = true := by decide +kernel

set_option maxHeartbeats 1000000 in
set_option maxRecDepth 20000 in
theorem c_S_isOffered (l : Launch) (G : GE) (σ : Wd) (s p : Nat) (π : PL) (x : ST) (j t : Int) (hπ : PlR σ p π) (ok : PLok π) (hx : StR σ s π x) (xk : STok π x j) (hj : j ≤ 200) (ht0 : 0 ≤ t) (ht1 : t < pN π) : Ct l G y_S_isOffered b_S_isOffered 3 (some (.boolean)) 1 21 [vR s, vR p, vI t] σ (Dt (some (vI (if sP x t = 0 ∧ pL π ≤ sN x t then 1 else 0))) σ) := by
  refine Ct.of cm_S_isOffered (Nat.le_of_ble_eq_true rfl) ?_
  intro X hXl hXG hXN hRm C E
  subst hXl; subst hXG
  show V X 0 [some (vR s), some (vR p), some (vI t)] [] σ
  refine V_R (fun hR => ?_)
  have hπ0 := hπ
  have hx0 := hx
  obtain ⟨hp, e0, e2, e7, e10, eT, eX⟩ := hπ
  obtain ⟨hp_1, hp_2, hp_3, hp_4, hp_5, hp_6⟩ := kd_P hp
  have ⟨k1, k2, k3, k4, k5, k6, kT, kX⟩ := ok
  obtain ⟨hs, f0, f1, fQ, fT⟩ := hx
  obtain ⟨hs_1, hs_2, hs_3, hs_4⟩ := kd_S hs
  have ⟨x1, x2, x3, x4, xQ, xT⟩ := xk
  obtain ⟨fN, fP⟩ := fT t ht0 ht1
  obtain ⟨tO, tK, tU⟩ := eT t ht0 ht1
  obtain ⟨kO0, kO1, kK0, kK1, kU0, kU1⟩ := kT t ht0 ht1
  obtain ⟨xN0, xN1, xP0, xP1, xPN⟩ := xT t ht0 ht1
  refine V_aload_n (pc := 0) C (dk k_S_isOffered 0 rfl) rfl ?_
  refine V_getr (pc := 1) (o2 := s + 4) C (dk k_S_isOffered 1 rfl) fl_S_21 hs (by decide) rfl (by decide) rfl ?_
  refine V_iload_n (pc := 4) C (dk k_S_isOffered 2 rfl) rfl ?_
  refine V_callS (pc := 5) C (dk k_S_isOffered 3 rfl) lk_S_44 cm_F_at sm_F_at (c_at _ _ _ (s + 4) 8 t hs_4 (by decide) ht0 (by omega)) rfl rfl (Nat.le_of_ble_eq_true rfl) (Rm.mono hRm (by decide) (by decide)) ?_
  refine V_ifne (pc := 8) C (dk k_S_isOffered 4 rfl) 30 rfl (by first | assumption | exact hR _ _ | exact ⟨by omega, by omega⟩) (fun h1 => ?_) (fun h1 => ?_)
  · skip
    refine V_iconst (pc := 30) C (dk k_S_isOffered 14 rfl) rfl ?_
    refine V_zret (pc := 31) C (by first | exact Or.inl rfl | exact Or.inr rfl | (split <;> first | exact Or.inl rfl | exact Or.inr rfl) | omega) E (dk k_S_isOffered 15 rfl) ?_
    first | exact ⟨rfl, rfl⟩ | (refine ⟨?_, rfl⟩; first | rw [if_pos (by omega)] | rw [if_neg (by omega)])
  · skip
    refine V_aload_n (pc := 11) C (dk k_S_isOffered 5 rfl) rfl ?_
    refine V_getr (pc := 12) (o2 := s + 3) C (dk k_S_isOffered 6 rfl) fl_S_18 hs (by decide) rfl (by decide) rfl ?_
    refine V_iload_n (pc := 15) C (dk k_S_isOffered 7 rfl) rfl ?_
    refine V_callS (pc := 16) C (dk k_S_isOffered 8 rfl) lk_S_44 cm_F_at sm_F_at (c_at _ _ _ (s + 3) 8 t hs_3 (by decide) ht0 (by omega)) rfl rfl (Nat.le_of_ble_eq_true rfl) (Rm.mono hRm (by decide) (by decide)) ?_
    refine V_aload_n (pc := 19) C (dk k_S_isOffered 9 rfl) rfl ?_
    refine V_geti (pc := 20) (ji := 10) C (dk k_S_isOffered 10 rfl) fl_S_52 hp (by decide) rfl rfl ?_
    refine V_icmplt (pc := 23) C (dk k_S_isOffered 11 rfl) 30 rfl (by first | assumption | exact hR _ _ | exact ⟨by omega, by omega⟩) (by first | assumption | exact hR _ _ | exact ⟨by omega, by omega⟩) (fun h2 => ?_) (fun h2 => ?_)
    · skip
      refine V_iconst (pc := 30) C (dk k_S_isOffered 14 rfl) rfl ?_
      refine V_zret (pc := 31) C (by first | exact Or.inl rfl | exact Or.inr rfl | (split <;> first | exact Or.inl rfl | exact Or.inr rfl) | omega) E (dk k_S_isOffered 15 rfl) ?_
      first | exact ⟨rfl, rfl⟩ | (refine ⟨?_, rfl⟩; first | rw [if_pos (by omega)] | rw [if_neg (by omega)])
    · skip
      refine V_iconst (pc := 26) C (dk k_S_isOffered 12 rfl) rfl ?_
      refine V_goto (pc := 27) C (dk k_S_isOffered 13 rfl) 31 rfl ?_
      refine V_zret (pc := 31) C (by first | exact Or.inl rfl | exact Or.inr rfl | (split <;> first | exact Or.inl rfl | exact Or.inr rfl) | omega) E (dk k_S_isOffered 15 rfl) ?_
      first | exact ⟨rfl, rfl⟩ | (refine ⟨?_, rfl⟩; first | rw [if_pos (by omega)] | rw [if_neg (by omega)])

def i_S_canSell : List (Nat × (Instr × Nat)) := [(0, (.aload_n 0, 1)), (1, (.aload_n 1, 1)), (2, (.iload_n 2, 1)), (3, (.invokevirtual 55, 3)), (6, (.ifCond .eq 20, 3)), (9, (.aload_n 0, 1)), (10, (.aload_n 1, 1)), (11, (.iload_n 2, 1)), (12, (.invokevirtual 59, 3)), (15, (.aload_n 0, 1)), (16, (.getfield 33, 3)), (19, (.if_icmp .gt 7, 3)), (22, (.iconst 1, 1)), (23, (.goto 4, 3)), (26, (.iconst 0, 1)), (27, (.ireturn, 1))]
theorem k_S_canSell : i_S_canSell.all (fun q => decide (decode b_S_canSell q.1 = .ok q.2)) = true := by decide +kernel

set_option maxHeartbeats 1000000 in
set_option maxRecDepth 20000 in
theorem c_S_canSell (l : Launch) (G : GE) (σ : Wd) (s p : Nat) (π : PL) (x : ST) (j t : Int) (hπ : PlR σ p π) (ok : PLok π) (hx : StR σ s π x) (xk : STok π x j) (hj : j ≤ 200) (ht0 : 0 ≤ t) (ht1 : t < pN π) : Ct l G y_S_canSell b_S_canSell 3 (some (.boolean)) 3 64 [vR s, vR p, vI t] σ (Dt (some (vI (if (sP x t = 0 ∧ pL π ≤ sN x t) ∧ prc π x t ≤ sM x then 1 else 0))) σ) := by
  refine Ct.of cm_S_canSell (Nat.le_of_ble_eq_true rfl) ?_
  intro X hXl hXG hXN hRm C E
  subst hXl; subst hXG
  show V X 0 [some (vR s), some (vR p), some (vI t)] [] σ
  refine V_R (fun hR => ?_)
  have hπ0 := hπ
  have hx0 := hx
  obtain ⟨hp, e0, e2, e7, e10, eT, eX⟩ := hπ
  obtain ⟨hp_1, hp_2, hp_3, hp_4, hp_5, hp_6⟩ := kd_P hp
  have ⟨k1, k2, k3, k4, k5, k6, kT, kX⟩ := ok
  obtain ⟨hs, f0, f1, fQ, fT⟩ := hx
  obtain ⟨hs_1, hs_2, hs_3, hs_4⟩ := kd_S hs
  have ⟨x1, x2, x3, x4, xQ, xT⟩ := xk
  obtain ⟨fN, fP⟩ := fT t ht0 ht1
  obtain ⟨tO, tK, tU⟩ := eT t ht0 ht1
  obtain ⟨kO0, kO1, kK0, kK1, kU0, kU1⟩ := kT t ht0 ht1
  obtain ⟨xN0, xN1, xP0, xP1, xPN⟩ := xT t ht0 ht1
  have hpr := prc_b ok xk ht0 ht1
  refine V_aload_n (pc := 0) C (dk k_S_canSell 0 rfl) rfl ?_
  refine V_aload_n (pc := 1) C (dk k_S_canSell 1 rfl) rfl ?_
  refine V_iload_n (pc := 2) C (dk k_S_canSell 2 rfl) rfl ?_
  refine V_callV (pc := 3) C (dk k_S_canSell 3 rfl) lk_S_55 cm_S_isOffered vm_S_isOffered (c_S_isOffered _ _ _ s p π x j t hπ0 ok hx0 xk hj ht0 ht1) hs rfl rfl rfl (Nat.le_of_ble_eq_true rfl) (Rm.mono hRm (by decide) (by decide)) ?_
  refine V_ifeqB (pc := 6) C (dk k_S_canSell 4 rfl) 26 rfl (fun h1 => ?_) (fun h1 => ?_)
  · skip
    refine V_iconst (pc := 26) C (dk k_S_canSell 14 rfl) rfl ?_
    refine V_zret (pc := 27) C (by first | exact Or.inl rfl | exact Or.inr rfl | (split <;> first | exact Or.inl rfl | exact Or.inr rfl) | omega) E (dk k_S_canSell 15 rfl) ?_
    refine ⟨?_, rfl⟩
    first | rw [if_pos ⟨by omega, by omega⟩] | rw [if_neg (fun q => by omega)]
  · skip
    refine V_aload_n (pc := 9) C (dk k_S_canSell 5 rfl) rfl ?_
    refine V_aload_n (pc := 10) C (dk k_S_canSell 6 rfl) rfl ?_
    refine V_iload_n (pc := 11) C (dk k_S_canSell 7 rfl) rfl ?_
    refine V_callV (pc := 12) C (dk k_S_canSell 8 rfl) lk_S_59 cm_S_price vm_S_price (c_S_price _ _ _ s p π x j t hπ0 ok hx0 xk hj ht0 ht1) hs rfl rfl rfl (Nat.le_of_ble_eq_true rfl) (Rm.mono hRm (by decide) (by decide)) ?_
    refine V_aload_n (pc := 15) C (dk k_S_canSell 9 rfl) rfl ?_
    refine V_geti (pc := 16) (ji := 1) C (dk k_S_canSell 10 rfl) fl_S_33 hs (by decide) rfl rfl ?_
    refine V_icmpgt (pc := 19) C (dk k_S_canSell 11 rfl) 26 rfl (by first | assumption | exact hR _ _ | exact ⟨by omega, by omega⟩) (by first | assumption | exact hR _ _ | exact ⟨by omega, by omega⟩) (fun h2 => ?_) (fun h2 => ?_)
    · skip
      refine V_iconst (pc := 26) C (dk k_S_canSell 14 rfl) rfl ?_
      refine V_zret (pc := 27) C (by first | exact Or.inl rfl | exact Or.inr rfl | (split <;> first | exact Or.inl rfl | exact Or.inr rfl) | omega) E (dk k_S_canSell 15 rfl) ?_
      refine ⟨?_, rfl⟩
      first | rw [if_pos ⟨by omega, by omega⟩] | rw [if_neg (fun q => by omega)]
    · skip
      refine V_iconst (pc := 22) C (dk k_S_canSell 12 rfl) rfl ?_
      refine V_goto (pc := 23) C (dk k_S_canSell 13 rfl) 27 rfl ?_
      refine V_zret (pc := 27) C (by first | exact Or.inl rfl | exact Or.inr rfl | (split <;> first | exact Or.inl rfl | exact Or.inr rfl) | omega) E (dk k_S_canSell 15 rfl) ?_
      refine ⟨?_, rfl⟩
      first | rw [if_pos ⟨by omega, by omega⟩] | rw [if_neg (fun q => by omega)]

def i_S_canBuyBack : List (Nat × (Instr × Nat)) := [(0, (.aload_n 0, 1)), (1, (.getfield 21, 3)), (4, (.iload_n 2, 1)), (5, (.invokestatic 44, 3)), (8, (.iconst 1, 1)), (9, (.if_icmp .ne 31, 3)), (12, (.aload_n 0, 1)), (13, (.aload_n 1, 1)), (14, (.iload_n 2, 1)), (15, (.invokevirtual 59, 3)), (18, (.aload_n 0, 1)), (19, (.getfield 9, 3)), (22, (.aload_n 1, 1)), (23, (.getfield 63, 3)), (26, (.iload_n 2, 1)), (27, (.invokestatic 44, 3)), (30, (.invokestatic 44, 3)), (33, (.if_icmp .gt 7, 3)), (36, (.iconst 1, 1)), (37, (.goto 4, 3)), (40, (.iconst 0, 1)), (41, (.ireturn, 1))]
theorem k_S_canBuyBack : i_S_canBuyBack.all (fun q => decide (decode b_S_canBuyBack q.1 = .ok q.2)) = true := by decide +kernel

set_option maxHeartbeats 1000000 in
set_option maxRecDepth 20000 in
theorem c_S_canBuyBack (l : Launch) (G : GE) (σ : Wd) (s p : Nat) (π : PL) (x : ST) (j t : Int) (hπ : PlR σ p π) (ok : PLok π) (hx : StR σ s π x) (xk : STok π x j) (hj : j ≤ 200) (ht0 : 0 ≤ t) (ht1 : t < pN π) : Ct l G y_S_canBuyBack b_S_canBuyBack 3 (some (.boolean)) 3 64 [vR s, vR p, vI t] σ (Dt (some (vI (if sP x t = 1 ∧ prc π x t ≤ sG x (pO π t) then 1 else 0))) σ) := by
  refine Ct.of cm_S_canBuyBack (Nat.le_of_ble_eq_true rfl) ?_
  intro X hXl hXG hXN hRm C E
  subst hXl; subst hXG
  show V X 0 [some (vR s), some (vR p), some (vI t)] [] σ
  refine V_R (fun hR => ?_)
  have hπ0 := hπ
  have hx0 := hx
  obtain ⟨hp, e0, e2, e7, e10, eT, eX⟩ := hπ
  obtain ⟨hp_1, hp_2, hp_3, hp_4, hp_5, hp_6⟩ := kd_P hp
  have ⟨k1, k2, k3, k4, k5, k6, kT, kX⟩ := ok
  obtain ⟨hs, f0, f1, fQ, fT⟩ := hx
  obtain ⟨hs_1, hs_2, hs_3, hs_4⟩ := kd_S hs
  have ⟨x1, x2, x3, x4, xQ, xT⟩ := xk
  obtain ⟨fN, fP⟩ := fT t ht0 ht1
  obtain ⟨tO, tK, tU⟩ := eT t ht0 ht1
  obtain ⟨kO0, kO1, kK0, kK1, kU0, kU1⟩ := kT t ht0 ht1
  obtain ⟨xN0, xN1, xP0, xP1, xPN⟩ := xT t ht0 ht1
  have hpr := prc_b ok xk ht0 ht1
  obtain ⟨fG, fR⟩ := fQ _ kO0 kO1
  refine V_aload_n (pc := 0) C (dk k_S_canBuyBack 0 rfl) rfl ?_
  refine V_getr (pc := 1) (o2 := s + 4) C (dk k_S_canBuyBack 1 rfl) fl_S_21 hs (by decide) rfl (by decide) rfl ?_
  refine V_iload_n (pc := 4) C (dk k_S_canBuyBack 2 rfl) rfl ?_
  refine V_callS (pc := 5) C (dk k_S_canBuyBack 3 rfl) lk_S_44 cm_F_at sm_F_at (c_at _ _ _ (s + 4) 8 t hs_4 (by decide) ht0 (by omega)) rfl rfl (Nat.le_of_ble_eq_true rfl) (Rm.mono hRm (by decide) (by decide)) ?_
  refine V_iconst (pc := 8) C (dk k_S_canBuyBack 4 rfl) rfl ?_
  refine V_icmpne (pc := 9) C (dk k_S_canBuyBack 5 rfl) 40 rfl (by first | assumption | exact hR _ _ | exact ⟨by omega, by omega⟩) (by first | assumption | exact hR _ _ | exact ⟨by omega, by omega⟩) (fun h1 => ?_) (fun h1 => ?_)
  · skip
    refine V_iconst (pc := 40) C (dk k_S_canBuyBack 20 rfl) rfl ?_
    refine V_zret (pc := 41) C (by first | exact Or.inl rfl | exact Or.inr rfl | (split <;> first | exact Or.inl rfl | exact Or.inr rfl) | omega) E (dk k_S_canBuyBack 21 rfl) ?_
    refine ⟨?_, rfl⟩
    first | rw [if_pos ⟨by omega, by omega⟩] | rw [if_neg (fun q => by omega)]
  · skip
    refine V_aload_n (pc := 12) C (dk k_S_canBuyBack 6 rfl) rfl ?_
    refine V_aload_n (pc := 13) C (dk k_S_canBuyBack 7 rfl) rfl ?_
    refine V_iload_n (pc := 14) C (dk k_S_canBuyBack 8 rfl) rfl ?_
    refine V_callV (pc := 15) C (dk k_S_canBuyBack 9 rfl) lk_S_59 cm_S_price vm_S_price (c_S_price _ _ _ s p π x j t hπ0 ok hx0 xk hj ht0 ht1) hs rfl rfl rfl (Nat.le_of_ble_eq_true rfl) (Rm.mono hRm (by decide) (by decide)) ?_
    refine V_aload_n (pc := 18) C (dk k_S_canBuyBack 10 rfl) rfl ?_
    refine V_getr (pc := 19) (o2 := s + 1) C (dk k_S_canBuyBack 11 rfl) fl_S_9 hs (by decide) rfl (by decide) rfl ?_
    refine V_aload_n (pc := 22) C (dk k_S_canBuyBack 12 rfl) rfl ?_
    refine V_getr (pc := 23) (o2 := p + 2) C (dk k_S_canBuyBack 13 rfl) fl_S_63 hp (by decide) rfl (by decide) rfl ?_
    refine V_iload_n (pc := 26) C (dk k_S_canBuyBack 14 rfl) rfl ?_
    refine V_callS (pc := 27) C (dk k_S_canBuyBack 15 rfl) lk_S_44 cm_F_at sm_F_at (c_at _ _ _ (p + 2) 8 t hp_2 (by decide) ht0 (by omega)) rfl rfl (Nat.le_of_ble_eq_true rfl) (Rm.mono hRm (by decide) (by decide)) ?_
    refine V_callS (pc := 30) C (dk k_S_canBuyBack 16 rfl) lk_S_44 cm_F_at sm_F_at (c_at _ _ _ (s + 1) 5 _ hs_1 (by decide) (by rw [tO]; exact kO0) (by rw [tO]; omega)) rfl rfl (Nat.le_of_ble_eq_true rfl) (Rm.mono hRm (by decide) (by decide)) ?_
    rw [tO, fG]
    refine V_icmpgt (pc := 33) C (dk k_S_canBuyBack 17 rfl) 40 rfl ⟨by omega, by omega⟩ (by rw [← fG]; exact hR _ _) (fun h2 => ?_) (fun h2 => ?_)
    · skip
      refine V_iconst (pc := 40) C (dk k_S_canBuyBack 20 rfl) rfl ?_
      refine V_zret (pc := 41) C (by first | exact Or.inl rfl | exact Or.inr rfl | (split <;> first | exact Or.inl rfl | exact Or.inr rfl) | omega) E (dk k_S_canBuyBack 21 rfl) ?_
      refine ⟨?_, rfl⟩
      first | rw [if_pos ⟨by omega, by omega⟩] | rw [if_neg (fun q => by omega)]
    · skip
      refine V_iconst (pc := 36) C (dk k_S_canBuyBack 18 rfl) rfl ?_
      refine V_goto (pc := 37) C (dk k_S_canBuyBack 19 rfl) 41 rfl ?_
      refine V_zret (pc := 41) C (by first | exact Or.inl rfl | exact Or.inr rfl | (split <;> first | exact Or.inl rfl | exact Or.inr rfl) | omega) E (dk k_S_canBuyBack 21 rfl) ?_
      refine ⟨?_, rfl⟩
      first | rw [if_pos ⟨by omega, by omega⟩] | rw [if_neg (fun q => by omega)]

/-- a sum over the first numbers -/
def sm (f : Int → Int) : Nat → Int
  | 0 => 0
  | n + 1 => sm f n + f (n : Int)

def i_S_nearOfCellar : List (Nat × (Instr × Nat)) := [(0, (.iconst 0, 1)), (1, (.istore_n 2, 1)), (2, (.iconst 0, 1)), (3, (.istore_n 3, 1)), (4, (.iload_n 3, 1)), (5, (.aload_n 1, 1)), (6, (.getfield 70, 3)), (9, (.if_icmp .ge 32, 3)), (12, (.aload_n 0, 1)), (13, (.getfield 21, 3)), (16, (.iload_n 3, 1)), (17, (.invokestatic 44, 3)), (20, (.iconst 1, 1)), (21, (.if_icmp .ne 14, 3)), (24, (.iload_n 2, 1)), (25, (.aload_n 0, 1)), (26, (.getfield 18, 3)), (29, (.iload_n 3, 1)), (30, (.invokestatic 44, 3)), (33, (.iadd, 1)), (34, (.istore_n 2, 1)), (35, (.iinc 3 1, 3)), (38, (.goto (-34), 3)), (41, (.iload_n 2, 1)), (42, (.ireturn, 1))]
theorem k_S_nearOfCellar : i_S_nearOfCellar.all (fun q => decide (decode b_S_nearOfCellar q.1 = .ok q.2)) = true := by decide +kernel

set_option maxHeartbeats 1000000 in
set_option maxRecDepth 20000 in
theorem c_S_nearOfCellar (l : Launch) (G : GE) (σ : Wd) (s p : Nat) (π : PL) (x : ST) (j : Int) (hπ : PlR σ p π) (ok : PLok π) (hx : StR σ s π x) (xk : STok π x j) (hj : j ≤ 200) : Ct l G y_S_nearOfCellar b_S_nearOfCellar 4 (some (.int)) 1 21 [vR s, vR p] σ (Dt (some (vI (sm (fun t => if sP x t = 1 then sN x t else 0) (pN π)))) σ) := by
  refine Ct.of cm_S_nearOfCellar (Nat.le_of_ble_eq_true rfl) ?_
  intro X hXl hXG hXN hRm C E
  subst hXl; subst hXG
  show V X 0 [some (vR s), some (vR p), none, none] [] σ
  refine V_R (fun hR => ?_)
  have hπ0 := hπ
  have hx0 := hx
  obtain ⟨hp, e0, e2, e7, e10, eT, eX⟩ := hπ
  obtain ⟨hp_1, hp_2, hp_3, hp_4, hp_5, hp_6⟩ := kd_P hp
  have ⟨k1, k2, k3, k4, k5, k6, kT, kX⟩ := ok
  obtain ⟨hs, f0, f1, fQ, fT⟩ := hx
  obtain ⟨hs_1, hs_2, hs_3, hs_4⟩ := kd_S hs
  have ⟨x1, x2, x3, x4, xQ, xT⟩ := xk
  refine V_iconst (pc := 0) C (dk k_S_nearOfCellar 0 rfl) rfl ?_
  refine V_istore_n (pc := 1) C (dk k_S_nearOfCellar 1 rfl) (by rw [hXN]; decide) ?_
  dsimp only [lst, lstL, lz, kill, Fin.val, Nat.reduceAdd]
  refine V_iconst (pc := 2) C (dk k_S_nearOfCellar 2 rfl) rfl ?_
  refine V_istore_n (pc := 3) C (dk k_S_nearOfCellar 3 rfl) (by rw [hXN]; decide) ?_
  dsimp only [lst, lstL, lz, kill, Fin.val, Nat.reduceAdd]
  refine V_eq (V_loop (fun i : Nat => i ≤ pN π) (fun i => [some (vR s), some (vR p), some (vI (sm (fun t => if sP x t = 1 then sN x t else 0) i)), some (vI (i : Int))]) (fun _ => σ) (fun i => pN π - i) (fun i hi ih => ?_) 0 (Nat.zero_le _)) rfl rfl rfl
  refine V_iload_n (pc := 4) C (dk k_S_nearOfCellar 4 rfl) rfl ?_
  refine V_aload_n (pc := 5) C (dk k_S_nearOfCellar 5 rfl) rfl ?_
  refine V_geti (pc := 6) (ji := 2) C (dk k_S_nearOfCellar 6 rfl) fl_S_70 hp (by decide) rfl rfl ?_
  refine V_icmpge (pc := 9) C (dk k_S_nearOfCellar 7 rfl) 41 rfl (by first | assumption | exact hR _ _ | exact ⟨by omega, by omega⟩) (by first | assumption | exact hR _ _ | exact ⟨by omega, by omega⟩) (fun h1 => ?_) (fun h1 => ?_)
  · skip
    refine V_iload_n (pc := 41) C (dk k_S_nearOfCellar 23 rfl) rfl ?_
    refine V_iret (pc := 42) C E (dk k_S_nearOfCellar 24 rfl) ?_
    obtain rfl : i = pN π := by omega
    exact ⟨rfl, rfl⟩
  · skip
    obtain ⟨gN, gP⟩ := fT i (by omega) (by omega)
    refine V_aload_n (pc := 12) C (dk k_S_nearOfCellar 8 rfl) rfl ?_
    refine V_getr (pc := 13) (o2 := s + 4) C (dk k_S_nearOfCellar 9 rfl) fl_S_21 hs (by decide) rfl (by decide) rfl ?_
    refine V_iload_n (pc := 16) C (dk k_S_nearOfCellar 10 rfl) rfl ?_
    refine V_callS (pc := 17) C (dk k_S_nearOfCellar 11 rfl) lk_S_44 cm_F_at sm_F_at (c_at _ _ _ (s + 4) 8 _ hs_4 (by decide) (by omega) (by omega)) rfl rfl (Nat.le_of_ble_eq_true rfl) (Rm.mono hRm (by decide) (by decide)) ?_
    refine V_iconst (pc := 20) C (dk k_S_nearOfCellar 12 rfl) rfl ?_
    refine V_icmpne (pc := 21) C (dk k_S_nearOfCellar 13 rfl) 35 rfl (by first | assumption | exact hR _ _ | exact ⟨by omega, by omega⟩) (by first | assumption | exact hR _ _ | exact ⟨by omega, by omega⟩) (fun h2 => ?_) (fun h2 => ?_)
    · skip
      refine V_iinc (pc := 35) C (dk k_S_nearOfCellar 21 rfl) (by rw [hXN]; decide) rfl ?_
      dsimp only [lst, lstL, lz, kill, Fin.val, Nat.reduceAdd]
      refine V_goto (pc := 38) C (dk k_S_nearOfCellar 22 rfl) 4 rfl ?_
      refine V_eq (ih (i + 1) (by omega) (by omega)) ?_ rfl rfl
      show _ = [some (vR s), some (vR p), some (vI (sm (fun t => if sP x t = 1 then sN x t else 0) i + (fun t => if sP x t = 1 then sN x t else 0) (i : Int))), some (vI ((i : Int) + 1))]
      dsimp only
      first | rw [if_pos (by omega), gN] | rw [if_neg (by omega), Int.add_zero]
    · skip
      refine V_iload_n (pc := 24) C (dk k_S_nearOfCellar 14 rfl) rfl ?_
      refine V_aload_n (pc := 25) C (dk k_S_nearOfCellar 15 rfl) rfl ?_
      refine V_getr (pc := 26) (o2 := s + 3) C (dk k_S_nearOfCellar 16 rfl) fl_S_18 hs (by decide) rfl (by decide) rfl ?_
      refine V_iload_n (pc := 29) C (dk k_S_nearOfCellar 17 rfl) rfl ?_
      refine V_callS (pc := 30) C (dk k_S_nearOfCellar 18 rfl) lk_S_44 cm_F_at sm_F_at (c_at _ _ _ (s + 3) 8 _ hs_3 (by decide) (by omega) (by omega)) rfl rfl (Nat.le_of_ble_eq_true rfl) (Rm.mono hRm (by decide) (by decide)) ?_
      refine V_iadd (pc := 33) C (dk k_S_nearOfCellar 19 rfl) ?_
      refine V_istore_n (pc := 34) C (dk k_S_nearOfCellar 20 rfl) (by rw [hXN]; decide) ?_
      dsimp only [lst, lstL, lz, kill, Fin.val, Nat.reduceAdd]
      refine V_iinc (pc := 35) C (dk k_S_nearOfCellar 21 rfl) (by rw [hXN]; decide) rfl ?_
      dsimp only [lst, lstL, lz, kill, Fin.val, Nat.reduceAdd]
      refine V_goto (pc := 38) C (dk k_S_nearOfCellar 22 rfl) 4 rfl ?_
      refine V_eq (ih (i + 1) (by omega) (by omega)) ?_ rfl rfl
      show _ = [some (vR s), some (vR p), some (vI (sm (fun t => if sP x t = 1 then sN x t else 0) i + (fun t => if sP x t = 1 then sN x t else 0) (i : Int))), some (vI ((i : Int) + 1))]
      dsimp only
      first | rw [if_pos (by omega), gN] | rw [if_neg (by omega), Int.add_zero]

def i_S_rueOfAll : List (Nat × (Instr × Nat)) := [(0, (.iconst 0, 1)), (1, (.istore_n 2, 1)), (2, (.iconst 0, 1)), (3, (.istore_n 3, 1)), (4, (.iload_n 3, 1)), (5, (.aload_n 1, 1)), (6, (.getfield 87, 3)), (9, (.if_icmp .ge 20, 3)), (12, (.iload_n 2, 1)), (13, (.aload_n 0, 1)), (14, (.getfield 15, 3)), (17, (.iload_n 3, 1)), (18, (.invokestatic 44, 3)), (21, (.iadd, 1)), (22, (.istore_n 2, 1)), (23, (.iinc 3 1, 3)), (26, (.goto (-22), 3)), (29, (.iload_n 2, 1)), (30, (.ireturn, 1))]
theorem k_S_rueOfAll : i_S_rueOfAll.all (fun q => decide (decode b_S_rueOfAll q.1 = .ok q.2)) = true := by decide +kernel

set_option maxHeartbeats 1000000 in
set_option maxRecDepth 20000 in
theorem c_S_rueOfAll (l : Launch) (G : GE) (σ : Wd) (s p : Nat) (π : PL) (x : ST) (j : Int) (hπ : PlR σ p π) (ok : PLok π) (hx : StR σ s π x) (xk : STok π x j) (hj : j ≤ 200) : Ct l G y_S_rueOfAll b_S_rueOfAll 4 (some (.int)) 1 21 [vR s, vR p] σ (Dt (some (vI (sm (fun q => sR x q) (pP π)))) σ) := by
  refine Ct.of cm_S_rueOfAll (Nat.le_of_ble_eq_true rfl) ?_
  intro X hXl hXG hXN hRm C E
  subst hXl; subst hXG
  show V X 0 [some (vR s), some (vR p), none, none] [] σ
  refine V_R (fun hR => ?_)
  have hπ0 := hπ
  have hx0 := hx
  obtain ⟨hp, e0, e2, e7, e10, eT, eX⟩ := hπ
  obtain ⟨hp_1, hp_2, hp_3, hp_4, hp_5, hp_6⟩ := kd_P hp
  have ⟨k1, k2, k3, k4, k5, k6, kT, kX⟩ := ok
  obtain ⟨hs, f0, f1, fQ, fT⟩ := hx
  obtain ⟨hs_1, hs_2, hs_3, hs_4⟩ := kd_S hs
  have ⟨x1, x2, x3, x4, xQ, xT⟩ := xk
  refine V_iconst (pc := 0) C (dk k_S_rueOfAll 0 rfl) rfl ?_
  refine V_istore_n (pc := 1) C (dk k_S_rueOfAll 1 rfl) (by rw [hXN]; decide) ?_
  dsimp only [lst, lstL, lz, kill, Fin.val, Nat.reduceAdd]
  refine V_iconst (pc := 2) C (dk k_S_rueOfAll 2 rfl) rfl ?_
  refine V_istore_n (pc := 3) C (dk k_S_rueOfAll 3 rfl) (by rw [hXN]; decide) ?_
  dsimp only [lst, lstL, lz, kill, Fin.val, Nat.reduceAdd]
  refine V_eq (V_loop (fun i : Nat => i ≤ pP π) (fun i => [some (vR s), some (vR p), some (vI (sm (fun q => sR x q) i)), some (vI (i : Int))]) (fun _ => σ) (fun i => pP π - i) (fun i hi ih => ?_) 0 (Nat.zero_le _)) rfl rfl rfl
  refine V_iload_n (pc := 4) C (dk k_S_rueOfAll 4 rfl) rfl ?_
  refine V_aload_n (pc := 5) C (dk k_S_rueOfAll 5 rfl) rfl ?_
  refine V_geti (pc := 6) (ji := 0) C (dk k_S_rueOfAll 6 rfl) fl_S_87 hp (by decide) rfl rfl ?_
  refine V_icmpge (pc := 9) C (dk k_S_rueOfAll 7 rfl) 29 rfl (by first | assumption | exact hR _ _ | exact ⟨by omega, by omega⟩) (by first | assumption | exact hR _ _ | exact ⟨by omega, by omega⟩) (fun h1 => ?_) (fun h1 => ?_)
  · skip
    refine V_iload_n (pc := 29) C (dk k_S_rueOfAll 17 rfl) rfl ?_
    refine V_iret (pc := 30) C E (dk k_S_rueOfAll 18 rfl) ?_
    obtain rfl : i = pP π := by omega
    exact ⟨rfl, rfl⟩
  · skip
    obtain ⟨gG, gR⟩ := fQ i (by omega) (by omega)
    refine V_iload_n (pc := 12) C (dk k_S_rueOfAll 8 rfl) rfl ?_
    refine V_aload_n (pc := 13) C (dk k_S_rueOfAll 9 rfl) rfl ?_
    refine V_getr (pc := 14) (o2 := s + 2) C (dk k_S_rueOfAll 10 rfl) fl_S_15 hs (by decide) rfl (by decide) rfl ?_
    refine V_iload_n (pc := 17) C (dk k_S_rueOfAll 11 rfl) rfl ?_
    refine V_callS (pc := 18) C (dk k_S_rueOfAll 12 rfl) lk_S_44 cm_F_at sm_F_at (c_at _ _ _ (s + 2) 5 _ hs_2 (by decide) (by omega) (by omega)) rfl rfl (Nat.le_of_ble_eq_true rfl) (Rm.mono hRm (by decide) (by decide)) ?_
    refine V_iadd (pc := 21) C (dk k_S_rueOfAll 13 rfl) ?_
    refine V_istore_n (pc := 22) C (dk k_S_rueOfAll 14 rfl) (by rw [hXN]; decide) ?_
    dsimp only [lst, lstL, lz, kill, Fin.val, Nat.reduceAdd]
    refine V_iinc (pc := 23) C (dk k_S_rueOfAll 15 rfl) (by rw [hXN]; decide) rfl ?_
    dsimp only [lst, lstL, lz, kill, Fin.val, Nat.reduceAdd]
    refine V_goto (pc := 26) C (dk k_S_rueOfAll 16 rfl) 4 rfl ?_
    refine V_eq (ih (i + 1) (by omega) (by omega)) ?_ rfl rfl
    show _ = [some (vR s), some (vR p), some (vI (sm (fun q => sR x q) i + sR x (i : Int))), some (vI ((i : Int) + 1))]
    rw [gR]

def i_S_howMany : List (Nat × (Instr × Nat)) := [(0, (.iconst 0, 1)), (1, (.istore_n 3, 1)), (2, (.iconst 0, 1)), (3, (.istore 4, 2)), (5, (.iload 4, 2)), (7, (.aload_n 1, 1)), (8, (.getfield 70, 3)), (11, (.if_icmp .ge 25, 3)), (14, (.aload_n 0, 1)), (15, (.getfield 21, 3)), (18, (.iload 4, 2)), (20, (.invokestatic 44, 3)), (23, (.iload_n 2, 1)), (24, (.if_icmp .ne 6, 3)), (27, (.iinc 3 1, 3)), (30, (.iinc 4 1, 3)), (33, (.goto (-28), 3)), (36, (.iload_n 3, 1)), (37, (.ireturn, 1))]
theorem k_S_howMany : i_S_howMany.all (fun q => decide (decode b_S_howMany q.1 = .ok q.2)) = true := by decide +kernel

set_option maxHeartbeats 1000000 in
set_option maxRecDepth 20000 in
theorem c_S_howMany (l : Launch) (G : GE) (σ : Wd) (s p : Nat) (π : PL) (x : ST) (j : Int) (hπ : PlR σ p π) (ok : PLok π) (hx : StR σ s π x) (xk : STok π x j) (hj : j ≤ 200) (k : Int) (hk : inR k) : Ct l G y_S_howMany b_S_howMany 5 (some (.int)) 1 21 [vR s, vR p, vI k] σ (Dt (some (vI (sm (fun t => if sP x t = k then 1 else 0) (pN π)))) σ) := by
  refine Ct.of cm_S_howMany (Nat.le_of_ble_eq_true rfl) ?_
  intro X hXl hXG hXN hRm C E
  subst hXl; subst hXG
  have ⟨hk_1, hk_2⟩ := hk
  show V X 0 [some (vR s), some (vR p), some (vI k), none, none] [] σ
  refine V_R (fun hR => ?_)
  have hπ0 := hπ
  have hx0 := hx
  obtain ⟨hp, e0, e2, e7, e10, eT, eX⟩ := hπ
  obtain ⟨hp_1, hp_2, hp_3, hp_4, hp_5, hp_6⟩ := kd_P hp
  have ⟨k1, k2, k3, k4, k5, k6, kT, kX⟩ := ok
  obtain ⟨hs, f0, f1, fQ, fT⟩ := hx
  obtain ⟨hs_1, hs_2, hs_3, hs_4⟩ := kd_S hs
  have ⟨x1, x2, x3, x4, xQ, xT⟩ := xk
  refine V_iconst (pc := 0) C (dk k_S_howMany 0 rfl) rfl ?_
  refine V_istore_n (pc := 1) C (dk k_S_howMany 1 rfl) (by rw [hXN]; decide) ?_
  dsimp only [lst, lstL, lz, kill, Fin.val, Nat.reduceAdd]
  refine V_iconst (pc := 2) C (dk k_S_howMany 2 rfl) rfl ?_
  refine V_istore (pc := 3) C (dk k_S_howMany 3 rfl) (by rw [hXN]; decide) ?_
  dsimp only [lst, lstL, lz, kill, Fin.val, Nat.reduceAdd]
  refine V_eq (V_loop (fun i : Nat => i ≤ pN π) (fun i => [some (vR s), some (vR p), some (vI k), some (vI (sm (fun t => if sP x t = k then 1 else 0) i)), some (vI (i : Int))]) (fun _ => σ) (fun i => pN π - i) (fun i hi ih => ?_) 0 (Nat.zero_le _)) rfl rfl rfl
  refine V_iload (pc := 5) C (dk k_S_howMany 4 rfl) rfl ?_
  refine V_aload_n (pc := 7) C (dk k_S_howMany 5 rfl) rfl ?_
  refine V_geti (pc := 8) (ji := 2) C (dk k_S_howMany 6 rfl) fl_S_70 hp (by decide) rfl rfl ?_
  refine V_icmpge (pc := 11) C (dk k_S_howMany 7 rfl) 36 rfl (by first | assumption | exact hR _ _ | exact ⟨by omega, by omega⟩) (by first | assumption | exact hR _ _ | exact ⟨by omega, by omega⟩) (fun h1 => ?_) (fun h1 => ?_)
  · skip
    refine V_iload_n (pc := 36) C (dk k_S_howMany 17 rfl) rfl ?_
    refine V_iret (pc := 37) C E (dk k_S_howMany 18 rfl) ?_
    obtain rfl : i = pN π := by omega
    exact ⟨rfl, rfl⟩
  · skip
    obtain ⟨gN, gP⟩ := fT i (by omega) (by omega)
    refine V_aload_n (pc := 14) C (dk k_S_howMany 8 rfl) rfl ?_
    refine V_getr (pc := 15) (o2 := s + 4) C (dk k_S_howMany 9 rfl) fl_S_21 hs (by decide) rfl (by decide) rfl ?_
    refine V_iload (pc := 18) C (dk k_S_howMany 10 rfl) rfl ?_
    refine V_callS (pc := 20) C (dk k_S_howMany 11 rfl) lk_S_44 cm_F_at sm_F_at (c_at _ _ _ (s + 4) 8 _ hs_4 (by decide) (by omega) (by omega)) rfl rfl (Nat.le_of_ble_eq_true rfl) (Rm.mono hRm (by decide) (by decide)) ?_
    refine V_iload_n (pc := 23) C (dk k_S_howMany 12 rfl) rfl ?_
    refine V_icmpne (pc := 24) C (dk k_S_howMany 13 rfl) 30 rfl (by first | assumption | exact hR _ _ | exact ⟨by omega, by omega⟩) (by first | assumption | exact hR _ _ | exact ⟨by omega, by omega⟩) (fun h2 => ?_) (fun h2 => ?_)
    · skip
      refine V_iinc (pc := 30) C (dk k_S_howMany 15 rfl) (by rw [hXN]; decide) rfl ?_
      dsimp only [lst, lstL, lz, kill, Fin.val, Nat.reduceAdd]
      refine V_goto (pc := 33) C (dk k_S_howMany 16 rfl) 5 rfl ?_
      refine V_eq (ih (i + 1) (by omega) (by omega)) ?_ rfl rfl
      show _ = [some (vR s), some (vR p), some (vI k), some (vI (sm (fun t => if sP x t = k then 1 else 0) i + (fun t => if sP x t = k then 1 else 0) (i : Int))), some (vI ((i : Int) + 1))]
      dsimp only
      first | rw [if_pos (by omega)] | rw [if_neg (by omega), Int.add_zero]
    · skip
      refine V_iinc (pc := 27) C (dk k_S_howMany 14 rfl) (by rw [hXN]; decide) rfl ?_
      dsimp only [lst, lstL, lz, kill, Fin.val, Nat.reduceAdd]
      refine V_iinc (pc := 30) C (dk k_S_howMany 15 rfl) (by rw [hXN]; decide) rfl ?_
      dsimp only [lst, lstL, lz, kill, Fin.val, Nat.reduceAdd]
      refine V_goto (pc := 33) C (dk k_S_howMany 16 rfl) 5 rfl ?_
      refine V_eq (ih (i + 1) (by omega) (by omega)) ?_ rfl rfl
      show _ = [some (vR s), some (vR p), some (vI k), some (vI (sm (fun t => if sP x t = k then 1 else 0) i + (fun t => if sP x t = k then 1 else 0) (i : Int))), some (vI ((i : Int) + 1))]
      dsimp only
      first | rw [if_pos (by omega)] | rw [if_neg (by omega), Int.add_zero]
end
section
/-- the answer is this, and of the world behind this holds -/
abbrev Rt (r : Option AV) (Q : Wd → Prop) : Option AV → Wd → Prop := fun r' σ' => r' = r ∧ Q σ'
section VC2
variable {X : KX} {cc : ByteArray} {own : String} {pc : Nat} {ls : List (Option AV)} {st : List AV} {σ : Wd}
theorem V_callVr (C : Cx X cc own) {index nL2 n rF rL o ci N : Nat} {T : u_T} {y : MethodName} {b : ByteArray} {ret : Option FieldType} {as rest : List AV} {v : AV} {Q : Wd → Prop} (d : decode cc pc = .ok (.invokevirtual index, 3)) (lk : LK own index y) (cm : CMs y b nL2 ret n) (vm : VM y) (hM : Ct (xL X) (xG X) y b nL2 ret rF rL (vR o :: as) σ (Rt (some v) Q))
    (hk : kd o = ci) (hcl : CL[ci]? = some (y.cls, T, N)) (hn : as.length = n) (hst : st = as.reverse ++ vR o :: rest) (hroom : (rest.map avc).sum ≤ 8) (hRm : Rm X (rF + 1) (8 + (nL2 + 11) + rL)) (k : ∀ σ1, Q σ1 → V X (pc + 3) ls (v :: rest) σ1) : V X pc ls st σ :=
  V_callVg C d lk cm vm hM hk hcl hn hst hroom hRm (fun r σ' h => by obtain ⟨rfl, h⟩ := h; exact k _ h)
theorem V_callV0r (C : Cx X cc own) {index nL2 n rF rL o ci N : Nat} {T : u_T} {y : MethodName} {b : ByteArray} {ret : Option FieldType} {as rest : List AV} {Q : Wd → Prop} (d : decode cc pc = .ok (.invokevirtual index, 3)) (lk : LK own index y) (cm : CMs y b nL2 ret n) (vm : VM y) (hM : Ct (xL X) (xG X) y b nL2 ret rF rL (vR o :: as) σ (Rt none Q))
    (hk : kd o = ci) (hcl : CL[ci]? = some (y.cls, T, N)) (hn : as.length = n) (hst : st = as.reverse ++ vR o :: rest) (hroom : (rest.map avc).sum ≤ 8) (hRm : Rm X (rF + 1) (8 + (nL2 + 11) + rL)) (k : ∀ σ1, Q σ1 → V X (pc + 3) ls rest σ1) : V X pc ls st σ :=
  V_callVg C d lk cm vm hM hk hcl hn hst hroom hRm (fun r σ' h => by obtain ⟨rfl, h⟩ := h; exact k _ h)
theorem V_callSr (C : Cx X cc own) {index nL2 n rF rL : Nat} {y : MethodName} {b : ByteArray} {ret : Option FieldType} {as rest : List AV} {v : AV} {Q : Wd → Prop} (d : decode cc pc = .ok (.invokestatic index, 3)) (lk : LK own index y) (cm : CMs y b nL2 ret n) (sm : SM y) (hM : Ct (xL X) (xG X) y b nL2 ret rF rL as σ (Rt (some v) Q))
    (hn : as.length = n) (hst : st = as.reverse ++ rest) (hroom : (rest.map avc).sum ≤ 8) (hRm : Rm X (rF + 1) (8 + (nL2 + 11) + rL)) (k : ∀ σ1, Q σ1 → V X (pc + 3) ls (v :: rest) σ1) : V X pc ls st σ :=
  V_callSg C d lk cm sm hM hn hst hroom hRm (fun r σ' h => by obtain ⟨rfl, h⟩ := h; exact k _ h)
theorem V_callS0r (C : Cx X cc own) {index nL2 n rF rL : Nat} {y : MethodName} {b : ByteArray} {ret : Option FieldType} {as rest : List AV} {Q : Wd → Prop} (d : decode cc pc = .ok (.invokestatic index, 3)) (lk : LK own index y) (cm : CMs y b nL2 ret n) (sm : SM y) (hM : Ct (xL X) (xG X) y b nL2 ret rF rL as σ (Rt none Q))
    (hn : as.length = n) (hst : st = as.reverse ++ rest) (hroom : (rest.map avc).sum ≤ 8) (hRm : Rm X (rF + 1) (8 + (nL2 + 11) + rL)) (k : ∀ σ1, Q σ1 → V X (pc + 3) ls rest σ1) : V X pc ls st σ :=
  V_callSg C d lk cm sm hM hn hst hroom hRm (fun r σ' h => by obtain ⟨rfl, h⟩ := h; exact k _ h)
end VC2
/-- nothing but the rows from s on, n of them, is written -/
def Fr (s n : Nat) (σ σ' : Wd) : Prop := ∀ k, (k < s ∨ s + n ≤ k) → σ' k = σ k
theorem up_row (σ : Wd) {a k : Nat} (i x : Int) (h : k ≠ a) : up σ a i x k = σ k := by
  funext b; unfold up; rw [if_neg (fun q => h q.1)]
theorem Fr.rf (s n : Nat) (σ : Wd) : Fr s n σ σ := fun _ _ => rfl
theorem Fr.tr {s n : Nat} {σ τ ρ : Wd} (h : Fr s n σ τ) (h2 : Fr s n τ ρ) : Fr s n σ ρ := fun k hk => (h2 k hk).trans (h k hk)
theorem Fr.up {s n a : Nat} {σ τ : Wd} (i x : Int) (h : Fr s n σ τ) (h1 : s ≤ a) (h2 : a < s + n) : Fr s n σ (up τ a i x) := fun k hk => by rw [up_row _ _ _ (by omega)]; exact h k hk
theorem Fr.wide {s n s2 n2 : Nat} {σ τ : Wd} (h : Fr s n σ τ) (h1 : s2 ≤ s) (h2 : s + n ≤ s2 + n2) : Fr s2 n2 σ τ := fun k hk => h k (by omega)
def fu (f : Int → Int) (i v : Int) : Int → Int := fun a => if a = i then v else f a
theorem PlR.fr {σ σ' : Wd} {p : Nat} {π : PL} (h : PlR σ p π) (hf : ∀ k, p ≤ k → k < p + 7 → σ' k = σ k) : PlR σ' p π := by
  obtain ⟨h0, h1, h2, h3, h4, h5, h6⟩ := h
  refine ⟨h0, ?_, ?_, ?_, ?_, fun t a b => ?_, fun r a b => ?_⟩
  · rw [hf p (by omega) (by omega)]; exact h1
  · rw [hf p (by omega) (by omega)]; exact h2
  · rw [hf p (by omega) (by omega)]; exact h3
  · rw [hf p (by omega) (by omega)]; exact h4
  · rw [hf (p + 2) (by omega) (by omega), hf (p + 3) (by omega) (by omega), hf (p + 5) (by omega) (by omega)]; exact h5 t a b
  · rw [hf (p + 6) (by omega) (by omega)]; exact h6 r a b
theorem StR.fr {σ σ' : Wd} {s : Nat} {π : PL} {x : ST} (h : StR σ s π x) (hf : ∀ k, s ≤ k → k < s + 5 → σ' k = σ k) : StR σ' s π x := by
  obtain ⟨h0, h1, h2, h3, h4⟩ := h
  refine ⟨h0, ?_, ?_, fun q a b => ?_, fun t a b => ?_⟩
  · rw [hf s (by omega) (by omega)]; exact h1
  · rw [hf s (by omega) (by omega)]; exact h2
  · rw [hf (s + 1) (by omega) (by omega), hf (s + 2) (by omega) (by omega)]; exact h3 q a b
  · rw [hf (s + 3) (by omega) (by omega), hf (s + 4) (by omega) (by omega)]; exact h4 t a b
/-- plans lie ahead of the stands -/
theorem kd_PS {p s : Nat} (hp : kd p = 5) (hs : kd s = 7) : p + 7 ≤ s := by
  have key : ∀ a b : Fin NO, kd a.val = 5 → kd b.val = 7 → a.val + 7 ≤ b.val := by decide +kernel
  exact key ⟨p, kd_lt hp (by decide)⟩ ⟨s, kd_lt hs (by decide)⟩ hp hs
theorem PlR.st {σ σ' : Wd} {p s : Nat} {π : PL} (h : PlR σ p π) (hs : kd s = 7) (hf : Fr s 5 σ σ') : PlR σ' p π :=
  h.fr (fun k h1 h2 => hf k (Or.inl (by have := kd_PS h.1 hs; omega)))
theorem StR.cg {σ : Wd} {s : Nat} {π : PL} {x y : ST} (h : StR σ s π x) (h1 : sD x = sD y) (h2 : sM x = sM y) (h3 : ∀ q : Int, 0 ≤ q → q < pP π → sG x q = sG y q ∧ sR x q = sR y q) (h4 : ∀ t : Int, 0 ≤ t → t < pN π → sN x t = sN y t ∧ sP x t = sP y t) : StR σ s π y := by
  obtain ⟨g0, g1, g2, g3, g4⟩ := h
  refine ⟨g0, g1.trans h1, g2.trans h2, fun q a b => ?_, fun t a b => ?_⟩
  · rw [← (h3 q a b).1, ← (h3 q a b).2]; exact g3 q a b
  · rw [← (h4 t a b).1, ← (h4 t a b).2]; exact g4 t a b

theorem StR.upD {σ : Wd} {s : Nat} {π : PL} {x : ST} (h : StR σ s π x) (v : Int) : StR (up σ s 0 v) s π (v, (sM x, (sG x, (sR x, (sN x, sP x))))) := by
  obtain ⟨h0, h1, h2, h3, h4⟩ := h
  refine ⟨h0, ?_, ?_, fun q a b => ?_, fun t a b => ?_⟩
  · show up σ s 0 v s 0 = _
    unfold up; split
    · first | rfl | omega
    · first | exact h1 | (exfalso; omega)
  · show up σ s 0 v s 1 = _
    unfold up; split
    · first | rfl | omega
    · first | exact h2 | (exfalso; omega)
  · obtain ⟨g1, g2⟩ := h3 q a b
    constructor
    · show up σ s 0 v (s + 1) q = sG x q
      unfold up; first | (rw [if_neg (by omega)]; exact g1) | (simp only [true_and]; rw [g1])
    · show up σ s 0 v (s + 2) q = sR x q
      unfold up; first | (rw [if_neg (by omega)]; exact g2) | (simp only [true_and]; rw [g2])
  · obtain ⟨g1, g2⟩ := h4 t a b
    constructor
    · show up σ s 0 v (s + 3) t = sN x t
      unfold up; first | (rw [if_neg (by omega)]; exact g1) | (simp only [true_and]; rw [g1])
    · show up σ s 0 v (s + 4) t = sP x t
      unfold up; first | (rw [if_neg (by omega)]; exact g2) | (simp only [true_and]; rw [g2])
theorem StR.upM {σ : Wd} {s : Nat} {π : PL} {x : ST} (h : StR σ s π x) (v : Int) : StR (up σ s 1 v) s π (sD x, (v, (sG x, (sR x, (sN x, sP x))))) := by
  obtain ⟨h0, h1, h2, h3, h4⟩ := h
  refine ⟨h0, ?_, ?_, fun q a b => ?_, fun t a b => ?_⟩
  · show up σ s 1 v s 0 = _
    unfold up; split
    · first | rfl | omega
    · first | exact h1 | (exfalso; omega)
  · show up σ s 1 v s 1 = _
    unfold up; split
    · first | rfl | omega
    · first | exact h2 | (exfalso; omega)
  · obtain ⟨g1, g2⟩ := h3 q a b
    constructor
    · show up σ s 1 v (s + 1) q = sG x q
      unfold up; first | (rw [if_neg (by omega)]; exact g1) | (simp only [true_and]; rw [g1])
    · show up σ s 1 v (s + 2) q = sR x q
      unfold up; first | (rw [if_neg (by omega)]; exact g2) | (simp only [true_and]; rw [g2])
  · obtain ⟨g1, g2⟩ := h4 t a b
    constructor
    · show up σ s 1 v (s + 3) t = sN x t
      unfold up; first | (rw [if_neg (by omega)]; exact g1) | (simp only [true_and]; rw [g1])
    · show up σ s 1 v (s + 4) t = sP x t
      unfold up; first | (rw [if_neg (by omega)]; exact g2) | (simp only [true_and]; rw [g2])
theorem StR.upG {σ : Wd} {s : Nat} {π : PL} {x : ST} (h : StR σ s π x) (i v : Int) : StR (up σ (s + 1) i v) s π (sD x, (sM x, (fu (sG x) i v, (sR x, (sN x, sP x))))) := by
  obtain ⟨h0, h1, h2, h3, h4⟩ := h
  refine ⟨h0, ?_, ?_, fun q a b => ?_, fun t a b => ?_⟩
  · show up σ (s + 1) i v s 0 = _
    unfold up; split
    · first | rfl | omega
    · first | exact h1 | (exfalso; omega)
  · show up σ (s + 1) i v s 1 = _
    unfold up; split
    · first | rfl | omega
    · first | exact h2 | (exfalso; omega)
  · obtain ⟨g1, g2⟩ := h3 q a b
    constructor
    · show up σ (s + 1) i v (s + 1) q = fu (sG x) i v q
      unfold up fu; first | (rw [if_neg (by omega)]; exact g1) | (simp only [true_and]; rw [g1])
    · show up σ (s + 1) i v (s + 2) q = sR x q
      unfold up; first | (rw [if_neg (by omega)]; exact g2) | (simp only [true_and]; rw [g2])
  · obtain ⟨g1, g2⟩ := h4 t a b
    constructor
    · show up σ (s + 1) i v (s + 3) t = sN x t
      unfold up; first | (rw [if_neg (by omega)]; exact g1) | (simp only [true_and]; rw [g1])
    · show up σ (s + 1) i v (s + 4) t = sP x t
      unfold up; first | (rw [if_neg (by omega)]; exact g2) | (simp only [true_and]; rw [g2])
theorem StR.upR {σ : Wd} {s : Nat} {π : PL} {x : ST} (h : StR σ s π x) (i v : Int) : StR (up σ (s + 2) i v) s π (sD x, (sM x, (sG x, (fu (sR x) i v, (sN x, sP x))))) := by
  obtain ⟨h0, h1, h2, h3, h4⟩ := h
  refine ⟨h0, ?_, ?_, fun q a b => ?_, fun t a b => ?_⟩
  · show up σ (s + 2) i v s 0 = _
    unfold up; split
    · first | rfl | omega
    · first | exact h1 | (exfalso; omega)
  · show up σ (s + 2) i v s 1 = _
    unfold up; split
    · first | rfl | omega
    · first | exact h2 | (exfalso; omega)
  · obtain ⟨g1, g2⟩ := h3 q a b
    constructor
    · show up σ (s + 2) i v (s + 1) q = sG x q
      unfold up; first | (rw [if_neg (by omega)]; exact g1) | (simp only [true_and]; rw [g1])
    · show up σ (s + 2) i v (s + 2) q = fu (sR x) i v q
      unfold up fu; first | (rw [if_neg (by omega)]; exact g2) | (simp only [true_and]; rw [g2])
  · obtain ⟨g1, g2⟩ := h4 t a b
    constructor
    · show up σ (s + 2) i v (s + 3) t = sN x t
      unfold up; first | (rw [if_neg (by omega)]; exact g1) | (simp only [true_and]; rw [g1])
    · show up σ (s + 2) i v (s + 4) t = sP x t
      unfold up; first | (rw [if_neg (by omega)]; exact g2) | (simp only [true_and]; rw [g2])
theorem StR.upN {σ : Wd} {s : Nat} {π : PL} {x : ST} (h : StR σ s π x) (i v : Int) : StR (up σ (s + 3) i v) s π (sD x, (sM x, (sG x, (sR x, (fu (sN x) i v, sP x))))) := by
  obtain ⟨h0, h1, h2, h3, h4⟩ := h
  refine ⟨h0, ?_, ?_, fun q a b => ?_, fun t a b => ?_⟩
  · show up σ (s + 3) i v s 0 = _
    unfold up; split
    · first | rfl | omega
    · first | exact h1 | (exfalso; omega)
  · show up σ (s + 3) i v s 1 = _
    unfold up; split
    · first | rfl | omega
    · first | exact h2 | (exfalso; omega)
  · obtain ⟨g1, g2⟩ := h3 q a b
    constructor
    · show up σ (s + 3) i v (s + 1) q = sG x q
      unfold up; first | (rw [if_neg (by omega)]; exact g1) | (simp only [true_and]; rw [g1])
    · show up σ (s + 3) i v (s + 2) q = sR x q
      unfold up; first | (rw [if_neg (by omega)]; exact g2) | (simp only [true_and]; rw [g2])
  · obtain ⟨g1, g2⟩ := h4 t a b
    constructor
    · show up σ (s + 3) i v (s + 3) t = fu (sN x) i v t
      unfold up fu; first | (rw [if_neg (by omega)]; exact g1) | (simp only [true_and]; rw [g1])
    · show up σ (s + 3) i v (s + 4) t = sP x t
      unfold up; first | (rw [if_neg (by omega)]; exact g2) | (simp only [true_and]; rw [g2])
theorem StR.upP {σ : Wd} {s : Nat} {π : PL} {x : ST} (h : StR σ s π x) (i v : Int) : StR (up σ (s + 4) i v) s π (sD x, (sM x, (sG x, (sR x, (sN x, fu (sP x) i v))))) := by
  obtain ⟨h0, h1, h2, h3, h4⟩ := h
  refine ⟨h0, ?_, ?_, fun q a b => ?_, fun t a b => ?_⟩
  · show up σ (s + 4) i v s 0 = _
    unfold up; split
    · first | rfl | omega
    · first | exact h1 | (exfalso; omega)
  · show up σ (s + 4) i v s 1 = _
    unfold up; split
    · first | rfl | omega
    · first | exact h2 | (exfalso; omega)
  · obtain ⟨g1, g2⟩ := h3 q a b
    constructor
    · show up σ (s + 4) i v (s + 1) q = sG x q
      unfold up; first | (rw [if_neg (by omega)]; exact g1) | (simp only [true_and]; rw [g1])
    · show up σ (s + 4) i v (s + 2) q = sR x q
      unfold up; first | (rw [if_neg (by omega)]; exact g2) | (simp only [true_and]; rw [g2])
  · obtain ⟨g1, g2⟩ := h4 t a b
    constructor
    · show up σ (s + 4) i v (s + 3) t = sN x t
      unfold up; first | (rw [if_neg (by omega)]; exact g1) | (simp only [true_and]; rw [g1])
    · show up σ (s + 4) i v (s + 4) t = fu (sP x) i v t
      unfold up fu; first | (rw [if_neg (by omega)]; exact g2) | (simp only [true_and]; rw [g2])
def sellX (π : PL) (x : ST) (t : Int) : ST := (sD x, (sM x - prc π x t, (fu (sG x) (pO π t) (sG x (pO π t) + prc π x t), (sR x, (sN x, fu (sP x) t 1)))))
def buyX (π : PL) (x : ST) (t : Int) : ST := (sD x, (sM x + prc π x t, (fu (sG x) (pO π t) (sG x (pO π t) - prc π x t), (sR x, (sN x, fu (sP x) t 0)))))
def nxN (π : PL) (x : ST) (t : Int) : Int := if sP x t = 1 then nx (pK π t) (sN x t) (sD x) else sN x t
def nxP (π : PL) (x : ST) (t : Int) : Int := if sP x t = 1 then (if nx (pK π t) (sN x t) (sD x) = 0 then 2 else 1) else sP x t
def nxR (π : PL) (x : ST) (q : Int) (n : Nat) : Int := sR x q + sm (fun t => if nxP π x t ≠ 0 ∧ pO π t = q then pU π t else 0) n
def dayX (π : PL) (x : ST) : ST := (sD x + 1, (sM x, (sG x, (fun q => nxR π x q (pN π), (nxN π x, nxP π x)))))
/-- a day, as far as the thing i -/
def dayI (π : PL) (x : ST) (i : Nat) : ST := (sD x, (sM x, (sG x, (fun q => nxR π x q i, (fun t => if t < i then nxN π x t else sN x t, fun t => if t < i then nxP π x t else sP x t)))))

def i_S_payPerson : List (Nat × (Instr × Nat)) := [(0, (.aload_n 0, 1)), (1, (.dup, 1)), (2, (.getfield 33, 3)), (5, (.iload_n 2, 1)), (6, (.isub, 1)), (7, (.putfield 33, 3)), (10, (.aload_n 0, 1)), (11, (.getfield 9, 3)), (14, (.iload_n 1, 1)), (15, (.aload_n 0, 1)), (16, (.getfield 9, 3)), (19, (.iload_n 1, 1)), (20, (.invokestatic 44, 3)), (23, (.iload_n 2, 1)), (24, (.iadd, 1)), (25, (.invokestatic 40, 3)), (28, (.return_, 1))]
theorem k_S_payPerson : i_S_payPerson.all (fun q => decide (decode b_S_payPerson q.1 = .ok q.2)) = true := by decide +kernel

set_option maxHeartbeats 1000000 in
set_option maxRecDepth 20000 in
theorem c_S_payPerson (l : Launch) (G : GE) (σ : Wd) (s : Nat) (q v : Int) (hs : kd s = 7) (hq0 : 0 ≤ q) (hq1 : q < 5) (hv : inR v) (h1 : inR (σ s 1 - v)) (h2 : inR (σ (s + 1) q + v)) : Ct l G y_S_payPerson b_S_payPerson 3 (none) 1 22 [vR s, vI q, vI v] σ (Dt none (up (up σ s 1 (σ s 1 - v)) (s + 1) q (σ (s + 1) q + v))) := by
  refine Ct.of cm_S_payPerson (Nat.le_of_ble_eq_true rfl) ?_
  intro X hXl hXG hXN hRm C E
  subst hXl; subst hXG
  have ⟨hv_1, hv_2⟩ := hv
  have ⟨h1_1, h1_2⟩ := h1
  show V X 0 [some (vR s), some (vI q), some (vI v)] [] σ
  refine V_R (fun hR => ?_)
  obtain ⟨hs_1, hs_2, hs_3, hs_4⟩ := kd_S hs
  refine V_aload_n (pc := 0) C (dk k_S_payPerson 0 rfl) rfl ?_
  refine V_dupR (pc := 1) C (dk k_S_payPerson 1 rfl) ?_
  refine V_geti (pc := 2) (ji := 1) C (dk k_S_payPerson 2 rfl) fl_S_33 hs (by decide) rfl rfl ?_
  refine V_iload_n (pc := 5) C (dk k_S_payPerson 3 rfl) rfl ?_
  refine V_isub (pc := 6) C (dk k_S_payPerson 4 rfl) ?_
  refine V_puti (pc := 7) (ji := 1) C (dk k_S_payPerson 5 rfl) fl_S_33 fw_7_1 hs (by decide) rfl rfl h1 ?_
  refine V_R (fun hR => ?_)
  refine V_aload_n (pc := 10) C (dk k_S_payPerson 6 rfl) rfl ?_
  refine V_getr (pc := 11) (o2 := s + 1) C (dk k_S_payPerson 7 rfl) fl_S_9 hs (by decide) rfl (by decide) rfl ?_
  refine V_iload_n (pc := 14) C (dk k_S_payPerson 8 rfl) rfl ?_
  refine V_aload_n (pc := 15) C (dk k_S_payPerson 9 rfl) rfl ?_
  refine V_getr (pc := 16) (o2 := s + 1) C (dk k_S_payPerson 10 rfl) fl_S_9 hs (by decide) rfl (by decide) rfl ?_
  refine V_iload_n (pc := 19) C (dk k_S_payPerson 11 rfl) rfl ?_
  have e1 : up σ s 1 (σ s 1 - v) (s + 1) q = σ (s + 1) q := up_ne1 _ _ _ _ (by omega)
  refine V_callS (pc := 20) C (dk k_S_payPerson 12 rfl) lk_S_44 cm_F_at sm_F_at (c_at _ _ _ (s + 1) 5 q hs_1 (by decide) hq0 (by omega)) rfl rfl (Nat.le_of_ble_eq_true rfl) (Rm.mono hRm (by decide) (by decide)) ?_
  refine V_iload_n (pc := 23) C (dk k_S_payPerson 13 rfl) rfl ?_
  refine V_iadd (pc := 24) C (dk k_S_payPerson 14 rfl) ?_
  refine V_callS0 (pc := 25) C (dk k_S_payPerson 15 rfl) lk_S_40 cm_F_put sm_F_put (c_put _ _ _ (s + 1) 5 q _ hs_1 (by decide) hq0 (by omega) (by rw [e1]; exact h2)) rfl rfl (Nat.le_of_ble_eq_true rfl) (Rm.mono hRm (by decide) (by decide)) ?_
  refine V_R (fun hR => ?_)
  refine V_vret (pc := 28) C E (dk k_S_payPerson 16 rfl) ?_
  exact ⟨rfl, by rw [e1]⟩

def i_S_moveToCellar : List (Nat × (Instr × Nat)) := [(0, (.aload_n 0, 1)), (1, (.aload_n 1, 1)), (2, (.getfield 63, 3)), (5, (.iload_n 2, 1)), (6, (.invokestatic 44, 3)), (9, (.aload_n 0, 1)), (10, (.aload_n 1, 1)), (11, (.iload_n 2, 1)), (12, (.invokevirtual 59, 3)), (15, (.invokevirtual 66, 3)), (18, (.aload_n 0, 1)), (19, (.getfield 21, 3)), (22, (.iload_n 2, 1)), (23, (.iconst 1, 1)), (24, (.invokestatic 40, 3)), (27, (.return_, 1))]
theorem k_S_moveToCellar : i_S_moveToCellar.all (fun q => decide (decode b_S_moveToCellar q.1 = .ok q.2)) = true := by decide +kernel

set_option maxHeartbeats 1000000 in
set_option maxRecDepth 20000 in
theorem c_S_moveToCellar (l : Launch) (G : GE) (σ : Wd) (s p : Nat) (π : PL) (x : ST) (j t : Int) (hπ : PlR σ p π) (ok : PLok π) (hx : StR σ s π x) (xk : STok π x j) (hj : j ≤ 200) (ht0 : 0 ≤ t) (ht1 : t < pN π) (hpr : prc π x t ≤ sM x) : Ct l G y_S_moveToCellar b_S_moveToCellar 3 (none) 3 64 [vR s, vR p, vI t] σ (Rt none (fun σ' => StR σ' s π (sellX π x t) ∧ Fr s 5 σ σ')) := by
  refine Ct.of cm_S_moveToCellar (Nat.le_of_ble_eq_true rfl) ?_
  intro X hXl hXG hXN hRm C E
  subst hXl; subst hXG
  show V X 0 [some (vR s), some (vR p), some (vI t)] [] σ
  refine V_R (fun hR => ?_)
  have hπ0 := hπ
  have hx0 := hx
  obtain ⟨hp, e0, e2, e7, e10, eT, eX⟩ := hπ
  obtain ⟨hp_1, hp_2, hp_3, hp_4, hp_5, hp_6⟩ := kd_P hp
  have ⟨k1, k2, k3, k4, k5, k6, kT, kX⟩ := ok
  obtain ⟨hs, f0, f1, fQ, fT⟩ := hx
  obtain ⟨hs_1, hs_2, hs_3, hs_4⟩ := kd_S hs
  have ⟨x1, x2, x3, x4, xQ, xT⟩ := xk
  obtain ⟨fN, fP⟩ := fT t ht0 ht1
  obtain ⟨tO, tK, tU⟩ := eT t ht0 ht1
  obtain ⟨kO0, kO1, kK0, kK1, kU0, kU1⟩ := kT t ht0 ht1
  obtain ⟨xN0, xN1, xP0, xP1, xPN⟩ := xT t ht0 ht1
  have ⟨hpr0, hpr1⟩ := prc_b ok xk ht0 ht1
  obtain ⟨fG, fR⟩ := fQ _ kO0 kO1
  obtain ⟨xG0, xG1, xR0, xR1⟩ := xQ _ kO0 kO1
  refine V_aload_n (pc := 0) C (dk k_S_moveToCellar 0 rfl) rfl ?_
  refine V_aload_n (pc := 1) C (dk k_S_moveToCellar 1 rfl) rfl ?_
  refine V_getr (pc := 2) (o2 := p + 2) C (dk k_S_moveToCellar 2 rfl) fl_S_63 hp (by decide) rfl (by decide) rfl ?_
  refine V_iload_n (pc := 5) C (dk k_S_moveToCellar 3 rfl) rfl ?_
  refine V_callS (pc := 6) C (dk k_S_moveToCellar 4 rfl) lk_S_44 cm_F_at sm_F_at (c_at _ _ _ (p + 2) 8 t hp_2 (by decide) ht0 (by omega)) rfl rfl (Nat.le_of_ble_eq_true rfl) (Rm.mono hRm (by decide) (by decide)) ?_
  rw [tO]
  refine V_aload_n (pc := 9) C (dk k_S_moveToCellar 5 rfl) rfl ?_
  refine V_aload_n (pc := 10) C (dk k_S_moveToCellar 6 rfl) rfl ?_
  refine V_iload_n (pc := 11) C (dk k_S_moveToCellar 7 rfl) rfl ?_
  refine V_callV (pc := 12) C (dk k_S_moveToCellar 8 rfl) lk_S_59 cm_S_price vm_S_price (c_S_price _ _ _ s p π x j t hπ0 ok hx0 xk hj ht0 ht1) hs rfl rfl rfl (Nat.le_of_ble_eq_true rfl) (Rm.mono hRm (by decide) (by decide)) ?_
  refine V_callV0 (pc := 15) C (dk k_S_moveToCellar 9 rfl) lk_S_66 cm_S_payPerson vm_S_payPerson (c_S_payPerson _ _ _ s (pO π t) (prc π x t) hs kO0 (by omega) ⟨by omega, by omega⟩ ⟨by omega, by omega⟩ ⟨by omega, by omega⟩) hs rfl rfl rfl (Nat.le_of_ble_eq_true rfl) (Rm.mono hRm (by decide) (by decide)) ?_
  refine V_R (fun hR => ?_)
  refine V_aload_n (pc := 18) C (dk k_S_moveToCellar 10 rfl) rfl ?_
  refine V_getr (pc := 19) (o2 := s + 4) C (dk k_S_moveToCellar 11 rfl) fl_S_21 hs (by decide) rfl (by decide) rfl ?_
  refine V_iload_n (pc := 22) C (dk k_S_moveToCellar 12 rfl) rfl ?_
  refine V_iconst (pc := 23) C (dk k_S_moveToCellar 13 rfl) rfl ?_
  refine V_callS0 (pc := 24) C (dk k_S_moveToCellar 14 rfl) lk_S_40 cm_F_put sm_F_put (c_put _ _ _ (s + 4) 8 t 1 hs_4 (by decide) ht0 (by omega) ⟨by decide, by decide⟩) rfl rfl (Nat.le_of_ble_eq_true rfl) (Rm.mono hRm (by decide) (by decide)) ?_
  refine V_R (fun hR => ?_)
  refine V_vret (pc := 27) C E (dk k_S_moveToCellar 15 rfl) ?_
  refine ⟨rfl, ?_, (((Fr.rf s 5 σ).up _ _ (by omega) (by omega)).up _ _ (by omega) (by omega)).up _ _ (by omega) (by omega)⟩
  have e := ((hx0.upM (σ s 1 - (prc π x t))).upG (pO π t) (σ (s + 1) (pO π t) + (prc π x t))).upP t 1
  rw [f1, fG] at e ⊢
  first | exact e | (simp only [Int.sub_neg, ← Int.sub_eq_add_neg] at e ⊢; exact e)

def i_S_moveToPerson : List (Nat × (Instr × Nat)) := [(0, (.aload_n 0, 1)), (1, (.aload_n 1, 1)), (2, (.getfield 63, 3)), (5, (.iload_n 2, 1)), (6, (.invokestatic 44, 3)), (9, (.aload_n 0, 1)), (10, (.aload_n 1, 1)), (11, (.iload_n 2, 1)), (12, (.invokevirtual 59, 3)), (15, (.ineg, 1)), (16, (.invokevirtual 66, 3)), (19, (.aload_n 0, 1)), (20, (.getfield 21, 3)), (23, (.iload_n 2, 1)), (24, (.iconst 0, 1)), (25, (.invokestatic 40, 3)), (28, (.return_, 1))]
theorem k_S_moveToPerson : i_S_moveToPerson.all (fun q => decide (decode b_S_moveToPerson q.1 = .ok q.2)) = true := by decide +kernel

set_option maxHeartbeats 1000000 in
set_option maxRecDepth 20000 in
theorem c_S_moveToPerson (l : Launch) (G : GE) (σ : Wd) (s p : Nat) (π : PL) (x : ST) (j t : Int) (hπ : PlR σ p π) (ok : PLok π) (hx : StR σ s π x) (xk : STok π x j) (hj : j ≤ 200) (ht0 : 0 ≤ t) (ht1 : t < pN π) (hpr : prc π x t ≤ sG x (pO π t)) : Ct l G y_S_moveToPerson b_S_moveToPerson 3 (none) 3 64 [vR s, vR p, vI t] σ (Rt none (fun σ' => StR σ' s π (buyX π x t) ∧ Fr s 5 σ σ')) := by
  refine Ct.of cm_S_moveToPerson (Nat.le_of_ble_eq_true rfl) ?_
  intro X hXl hXG hXN hRm C E
  subst hXl; subst hXG
  show V X 0 [some (vR s), some (vR p), some (vI t)] [] σ
  refine V_R (fun hR => ?_)
  have hπ0 := hπ
  have hx0 := hx
  obtain ⟨hp, e0, e2, e7, e10, eT, eX⟩ := hπ
  obtain ⟨hp_1, hp_2, hp_3, hp_4, hp_5, hp_6⟩ := kd_P hp
  have ⟨k1, k2, k3, k4, k5, k6, kT, kX⟩ := ok
  obtain ⟨hs, f0, f1, fQ, fT⟩ := hx
  obtain ⟨hs_1, hs_2, hs_3, hs_4⟩ := kd_S hs
  have ⟨x1, x2, x3, x4, xQ, xT⟩ := xk
  obtain ⟨fN, fP⟩ := fT t ht0 ht1
  obtain ⟨tO, tK, tU⟩ := eT t ht0 ht1
  obtain ⟨kO0, kO1, kK0, kK1, kU0, kU1⟩ := kT t ht0 ht1
  obtain ⟨xN0, xN1, xP0, xP1, xPN⟩ := xT t ht0 ht1
  have ⟨hpr0, hpr1⟩ := prc_b ok xk ht0 ht1
  obtain ⟨fG, fR⟩ := fQ _ kO0 kO1
  obtain ⟨xG0, xG1, xR0, xR1⟩ := xQ _ kO0 kO1
  refine V_aload_n (pc := 0) C (dk k_S_moveToPerson 0 rfl) rfl ?_
  refine V_aload_n (pc := 1) C (dk k_S_moveToPerson 1 rfl) rfl ?_
  refine V_getr (pc := 2) (o2 := p + 2) C (dk k_S_moveToPerson 2 rfl) fl_S_63 hp (by decide) rfl (by decide) rfl ?_
  refine V_iload_n (pc := 5) C (dk k_S_moveToPerson 3 rfl) rfl ?_
  refine V_callS (pc := 6) C (dk k_S_moveToPerson 4 rfl) lk_S_44 cm_F_at sm_F_at (c_at _ _ _ (p + 2) 8 t hp_2 (by decide) ht0 (by omega)) rfl rfl (Nat.le_of_ble_eq_true rfl) (Rm.mono hRm (by decide) (by decide)) ?_
  rw [tO]
  refine V_aload_n (pc := 9) C (dk k_S_moveToPerson 5 rfl) rfl ?_
  refine V_aload_n (pc := 10) C (dk k_S_moveToPerson 6 rfl) rfl ?_
  refine V_iload_n (pc := 11) C (dk k_S_moveToPerson 7 rfl) rfl ?_
  refine V_callV (pc := 12) C (dk k_S_moveToPerson 8 rfl) lk_S_59 cm_S_price vm_S_price (c_S_price _ _ _ s p π x j t hπ0 ok hx0 xk hj ht0 ht1) hs rfl rfl rfl (Nat.le_of_ble_eq_true rfl) (Rm.mono hRm (by decide) (by decide)) ?_
  refine V_ineg (pc := 15) C (dk k_S_moveToPerson 9 rfl) ?_
  refine V_callV0 (pc := 16) C (dk k_S_moveToPerson 10 rfl) lk_S_66 cm_S_payPerson vm_S_payPerson (c_S_payPerson _ _ _ s (pO π t) (-prc π x t) hs kO0 (by omega) ⟨by omega, by omega⟩ ⟨by omega, by omega⟩ ⟨by omega, by omega⟩) hs rfl rfl rfl (Nat.le_of_ble_eq_true rfl) (Rm.mono hRm (by decide) (by decide)) ?_
  refine V_R (fun hR => ?_)
  refine V_aload_n (pc := 19) C (dk k_S_moveToPerson 11 rfl) rfl ?_
  refine V_getr (pc := 20) (o2 := s + 4) C (dk k_S_moveToPerson 12 rfl) fl_S_21 hs (by decide) rfl (by decide) rfl ?_
  refine V_iload_n (pc := 23) C (dk k_S_moveToPerson 13 rfl) rfl ?_
  refine V_iconst (pc := 24) C (dk k_S_moveToPerson 14 rfl) rfl ?_
  refine V_callS0 (pc := 25) C (dk k_S_moveToPerson 15 rfl) lk_S_40 cm_F_put sm_F_put (c_put _ _ _ (s + 4) 8 t 0 hs_4 (by decide) ht0 (by omega) ⟨by decide, by decide⟩) rfl rfl (Nat.le_of_ble_eq_true rfl) (Rm.mono hRm (by decide) (by decide)) ?_
  refine V_R (fun hR => ?_)
  refine V_vret (pc := 28) C E (dk k_S_moveToPerson 16 rfl) ?_
  refine ⟨rfl, ?_, (((Fr.rf s 5 σ).up _ _ (by omega) (by omega)).up _ _ (by omega) (by omega)).up _ _ (by omega) (by omega)⟩
  have e := ((hx0.upM (σ s 1 - (-prc π x t))).upG (pO π t) (σ (s + 1) (pO π t) + (-prc π x t))).upP t 0
  rw [f1, fG] at e ⊢
  first | exact e | (simp only [Int.sub_neg, ← Int.sub_eq_add_neg] at e ⊢; exact e)

def i_S_goOn : List (Nat × (Instr × Nat)) := [(0, (.aload_n 1, 1)), (1, (.getfield 80, 3)), (4, (.iload_n 2, 1)), (5, (.invokestatic 44, 3)), (8, (.aload_n 0, 1)), (9, (.getfield 18, 3)), (12, (.iload_n 2, 1)), (13, (.invokestatic 44, 3)), (16, (.aload_n 0, 1)), (17, (.getfield 24, 3)), (20, (.invokestatic 83, 3)), (23, (.istore_n 3, 1)), (24, (.aload_n 0, 1)), (25, (.getfield 18, 3)), (28, (.iload_n 2, 1)), (29, (.iload_n 3, 1)), (30, (.invokestatic 40, 3)), (33, (.iload_n 3, 1)), (34, (.ifCond .ne 12, 3)), (37, (.aload_n 0, 1)), (38, (.getfield 21, 3)), (41, (.iload_n 2, 1)), (42, (.iconst 2, 1)), (43, (.invokestatic 40, 3)), (46, (.return_, 1))]
theorem k_S_goOn : i_S_goOn.all (fun q => decide (decode b_S_goOn q.1 = .ok q.2)) = true := by decide +kernel

set_option maxHeartbeats 1000000 in
set_option maxRecDepth 20000 in
theorem c_S_goOn (l : Launch) (G : GE) (σ : Wd) (s p : Nat) (π : PL) (x : ST) (t : Int) (hπ : PlR σ p π) (ok : PLok π) (hx : StR σ s π x) (hd0 : 0 ≤ sD x) (ht0 : 0 ≤ t) (ht1 : t < pN π) (hn1 : sN x t ≤ 99) : Ct l G y_S_goOn b_S_goOn 4 (none) 2 48 [vR s, vR p, vI t] σ (Rt none (fun σ' => StR σ' s π (sD x, (sM x, (sG x, (sR x, (fu (sN x) t (nx (pK π t) (sN x t) (sD x)), if nx (pK π t) (sN x t) (sD x) = 0 then fu (sP x) t 2 else sP x))))) ∧ Fr s 5 σ σ')) := by
  refine Ct.of cm_S_goOn (Nat.le_of_ble_eq_true rfl) ?_
  intro X hXl hXG hXN hRm C E
  subst hXl; subst hXG
  show V X 0 [some (vR s), some (vR p), some (vI t), none] [] σ
  refine V_R (fun hR => ?_)
  have hπ0 := hπ
  have hx0 := hx
  obtain ⟨hp, e0, e2, e7, e10, eT, eX⟩ := hπ
  obtain ⟨hp_1, hp_2, hp_3, hp_4, hp_5, hp_6⟩ := kd_P hp
  have ⟨k1, k2, k3, k4, k5, k6, kT, kX⟩ := ok
  obtain ⟨hs, f0, f1, fQ, fT⟩ := hx
  obtain ⟨hs_1, hs_2, hs_3, hs_4⟩ := kd_S hs
  obtain ⟨fN, fP⟩ := fT t ht0 ht1
  obtain ⟨tO, tK, tU⟩ := eT t ht0 ht1
  obtain ⟨kO0, kO1, kK0, kK1, kU0, kU1⟩ := kT t ht0 ht1
  have hnx : inR (nx (pK π t) (sN x t) (sD x)) := by unfold nx; constructor <;> (repeat' split) <;> omega
  refine V_aload_n (pc := 0) C (dk k_S_goOn 0 rfl) rfl ?_
  refine V_getr (pc := 1) (o2 := p + 3) C (dk k_S_goOn 1 rfl) fl_S_80 hp (by decide) rfl (by decide) rfl ?_
  refine V_iload_n (pc := 4) C (dk k_S_goOn 2 rfl) rfl ?_
  refine V_callS (pc := 5) C (dk k_S_goOn 3 rfl) lk_S_44 cm_F_at sm_F_at (c_at _ _ _ (p + 3) 8 t hp_3 (by decide) ht0 (by omega)) rfl rfl (Nat.le_of_ble_eq_true rfl) (Rm.mono hRm (by decide) (by decide)) ?_
  refine V_aload_n (pc := 8) C (dk k_S_goOn 4 rfl) rfl ?_
  refine V_getr (pc := 9) (o2 := s + 3) C (dk k_S_goOn 5 rfl) fl_S_18 hs (by decide) rfl (by decide) rfl ?_
  refine V_iload_n (pc := 12) C (dk k_S_goOn 6 rfl) rfl ?_
  refine V_callS (pc := 13) C (dk k_S_goOn 7 rfl) lk_S_44 cm_F_at sm_F_at (c_at _ _ _ (s + 3) 8 t hs_3 (by decide) ht0 (by omega)) rfl rfl (Nat.le_of_ble_eq_true rfl) (Rm.mono hRm (by decide) (by decide)) ?_
  refine V_aload_n (pc := 16) C (dk k_S_goOn 8 rfl) rfl ?_
  refine V_geti (pc := 17) (ji := 0) C (dk k_S_goOn 9 rfl) fl_S_24 hs (by decide) rfl rfl ?_
  rw [tK, fN, f0]
  refine V_callS (pc := 20) C (dk k_S_goOn 10 rfl) lk_S_83 cm_F_nearNextDay sm_F_nearNextDay (c_F_nearNextDay _ _ _ (pK π t) (sN x t) (sD x) ⟨by omega, by omega⟩ (by rw [← fN]; exact hR _ _) (by rw [← f0]; exact hR _ _) (by omega) hd0) rfl rfl (Nat.le_of_ble_eq_true rfl) (Rm.mono hRm (by decide) (by decide)) ?_
  refine V_istore_n (pc := 23) C (dk k_S_goOn 11 rfl) (by rw [hXN]; decide) ?_
  dsimp only [lst, lstL, lz, kill, Fin.val, Nat.reduceAdd]
  refine V_aload_n (pc := 24) C (dk k_S_goOn 12 rfl) rfl ?_
  refine V_getr (pc := 25) (o2 := s + 3) C (dk k_S_goOn 13 rfl) fl_S_18 hs (by decide) rfl (by decide) rfl ?_
  refine V_iload_n (pc := 28) C (dk k_S_goOn 14 rfl) rfl ?_
  refine V_iload_n (pc := 29) C (dk k_S_goOn 15 rfl) rfl ?_
  refine V_callS0 (pc := 30) C (dk k_S_goOn 16 rfl) lk_S_40 cm_F_put sm_F_put (c_put _ _ _ (s + 3) 8 t _ hs_3 (by decide) ht0 (by omega) hnx) rfl rfl (Nat.le_of_ble_eq_true rfl) (Rm.mono hRm (by decide) (by decide)) ?_
  refine V_R (fun hR => ?_)
  refine V_iload_n (pc := 33) C (dk k_S_goOn 17 rfl) rfl ?_
  refine V_ifne (pc := 34) C (dk k_S_goOn 18 rfl) 46 rfl hnx (fun h1 => ?_) (fun h1 => ?_)
  · skip
    refine V_vret (pc := 46) C E (dk k_S_goOn 24 rfl) ?_
    first | (rw [if_pos (by assumption)]; exact ⟨rfl, (hx0.upN t _).upP t 2, ((Fr.rf s 5 σ).up _ _ (by omega) (by omega)).up _ _ (by omega) (by omega)⟩) | (rw [if_neg (by assumption)]; exact ⟨rfl, hx0.upN t _, (Fr.rf s 5 σ).up _ _ (by omega) (by omega)⟩)
  · skip
    refine V_aload_n (pc := 37) C (dk k_S_goOn 19 rfl) rfl ?_
    refine V_getr (pc := 38) (o2 := s + 4) C (dk k_S_goOn 20 rfl) fl_S_21 hs (by decide) rfl (by decide) rfl ?_
    refine V_iload_n (pc := 41) C (dk k_S_goOn 21 rfl) rfl ?_
    refine V_iconst (pc := 42) C (dk k_S_goOn 22 rfl) rfl ?_
    refine V_callS0 (pc := 43) C (dk k_S_goOn 23 rfl) lk_S_40 cm_F_put sm_F_put (c_put _ _ _ (s + 4) 8 t 2 hs_4 (by decide) ht0 (by omega) ⟨by decide, by decide⟩) rfl rfl (Nat.le_of_ble_eq_true rfl) (Rm.mono hRm (by decide) (by decide)) ?_
    refine V_R (fun hR => ?_)
    refine V_vret (pc := 46) C E (dk k_S_goOn 24 rfl) ?_
    first | (rw [if_pos (by assumption)]; exact ⟨rfl, (hx0.upN t _).upP t 2, ((Fr.rf s 5 σ).up _ _ (by omega) (by omega)).up _ _ (by omega) (by omega)⟩) | (rw [if_neg (by assumption)]; exact ⟨rfl, hx0.upN t _, (Fr.rf s 5 σ).up _ _ (by omega) (by omega)⟩)
end
section
theorem sm_b (f : Int → Int) (c : Int) (hc : 0 ≤ c) : ∀ n : Nat, (∀ t : Int, 0 ≤ t → t < n → 0 ≤ f t ∧ f t ≤ c) → 0 ≤ sm f n ∧ sm f n ≤ c * n
  | 0, _ => by simp [sm]
  | n + 1, h => by
    obtain ⟨h1, h2⟩ := sm_b f c hc n (fun t a b => h t a (by omega))
    obtain ⟨h3, h4⟩ := h n (by omega) (by omega)
    show 0 ≤ sm f n + f n ∧ sm f n + f n ≤ c * ((n + 1 : Nat) : Int)
    have e : c * ((n + 1 : Nat) : Int) = c * n + c := by rw [Int.natCast_add, Int.mul_add]; simp
    omega
theorem sm_cg (f g : Int → Int) : ∀ n : Nat, (∀ t : Int, 0 ≤ t → t < n → f t = g t) → sm f n = sm g n
  | 0, _ => rfl
  | n + 1, h => by
    show sm f n + f n = sm g n + g n
    rw [sm_cg f g n (fun t a b => h t a (by omega)), h n (by omega) (by omega)]
theorem nxR_b {π : PL} {x : ST} {j q : Int} {n : Nat} (ok : PLok π) (xk : STok π x j) (h0 : 0 ≤ q) (h1 : q < pP π) (hn : n ≤ pN π) : 0 ≤ nxR π x q n ∧ nxR π x q n ≤ sR x q + 20 * n := by
  obtain ⟨k1, k2, k3, k4, k5, k6, kT, kX⟩ := ok
  obtain ⟨x1, x2, x3, x4, xQ, xT⟩ := xk
  obtain ⟨b1, b2⟩ := sm_b (fun t => if nxP π x t ≠ 0 ∧ pO π t = q then pU π t else 0) 20 (by omega) n (fun t a b => by
    obtain ⟨-, -, -, -, c1, c2⟩ := kT t a (by omega)
    split <;> omega)
  have := xQ q h0 h1
  unfold nxR
  omega
/-- within a day: the thing i has gone on, its rue isn't counted yet -/
def dayM (π : PL) (x : ST) (i : Nat) : ST := (sD x, (sM x, (sG x, (fun q => nxR π x q i, (fun t => if t < i + 1 then nxN π x t else sN x t, fun t => if t < i + 1 then nxP π x t else sP x t)))))
theorem dayI_N (π : PL) (x : ST) (i : Nat) : sN (dayI π x i) (i : Int) = sN x i := if_neg (by omega)
theorem dayI_P (π : PL) (x : ST) (i : Nat) : sP (dayI π x i) (i : Int) = sP x i := if_neg (by omega)
theorem dayM_P (π : PL) (x : ST) (i : Nat) : sP (dayM π x i) (i : Int) = nxP π x i := if_pos (by omega)
theorem dayM_A {π : PL} {x : ST} {i s : Nat} {τ : Wd} (hp : sP x i = 1) (h : StR τ s π (sD (dayI π x i), (sM (dayI π x i), (sG (dayI π x i), (sR (dayI π x i), (fu (sN (dayI π x i)) i (nx (pK π i) (sN (dayI π x i) i) (sD (dayI π x i))), if nx (pK π i) (sN (dayI π x i) i) (sD (dayI π x i)) = 0 then fu (sP (dayI π x i)) i 2 else sP (dayI π x i))))))) : StR τ s π (dayM π x i) := by
  refine h.cg rfl rfl (fun q a b => ⟨rfl, rfl⟩) (fun t a b => ?_)
  rw [dayI_N]
  have e1 : nxN π x i = nx (pK π i) (sN x i) (sD x) := if_pos hp
  have e2 : nxP π x i = if nx (pK π i) (sN x i) (sD x) = 0 then 2 else 1 := if_pos hp
  by_cases ht : t = i
  · subst ht
    constructor
    · show fu _ _ _ _ = if (i : Int) < i + 1 then nxN π x i else sN x i
      unfold fu; rw [if_pos rfl, if_pos (by omega), e1]; rfl
    · show (if nx (pK π i) (sN x i) (sD x) = 0 then fu (sP (dayI π x i)) i 2 else sP (dayI π x i)) (i : Int) = (if (i : Int) < i + 1 then nxP π x i else sP x i)
      by_cases hz : nx (pK π i) (sN x i) (sD x) = 0
      · rw [if_pos hz] at e2 ⊢; rw [if_pos (show (i : Int) < i + 1 by omega), e2]; unfold fu; rw [if_pos rfl]
      · rw [if_neg hz] at e2 ⊢; rw [if_pos (show (i : Int) < i + 1 by omega), e2, dayI_P, hp]
  · have e3 : ∀ z : Int, (if t < (i : Int) + 1 then z else sN x t) = if t < (i : Int) then z else sN x t := fun z => by
      by_cases h : t < (i : Int)
      · rw [if_pos h, if_pos (by omega)]
      · rw [if_neg h, if_neg (by omega)]
    have e4 : ∀ z : Int, (if t < (i : Int) + 1 then z else sP x t) = if t < (i : Int) then z else sP x t := fun z => by
      by_cases h : t < (i : Int)
      · rw [if_pos h, if_pos (by omega)]
      · rw [if_neg h, if_neg (by omega)]
    constructor
    · show fu _ _ _ _ = if t < (i : Int) + 1 then nxN π x t else sN x t
      unfold fu; rw [if_neg ht, e3]; rfl
    · show (if nx (pK π i) (sN x i) (sD x) = 0 then fu (sP (dayI π x i)) i 2 else sP (dayI π x i)) t = (if t < (i : Int) + 1 then nxP π x t else sP x t)
      rw [e4]
      by_cases hz : nx (pK π i) (sN x i) (sD x) = 0
      · rw [if_pos hz]; show (if t = (i : Int) then _ else _) = _; rw [if_neg ht]; rfl
      · rw [if_neg hz]; rfl
theorem dayM_B {π : PL} {x : ST} {i s : Nat} {τ : Wd} (hp : ¬ sP x i = 1) (h : StR τ s π (dayI π x i)) : StR τ s π (dayM π x i) := by
  have e1 : nxN π x i = sN x i := if_neg hp
  have e2 : nxP π x i = sP x i := if_neg hp
  refine h.cg rfl rfl (fun q a b => ⟨rfl, rfl⟩) (fun t a b => ?_)
  by_cases ht : t = i
  · subst ht
    exact ⟨by rw [dayI_N]; show _ = if (i : Int) < i + 1 then nxN π x i else sN x i; rw [if_pos (by omega), e1], by rw [dayI_P, dayM_P, e2]⟩
  · constructor
    · show (if t < (i : Int) then _ else _) = if t < (i : Int) + 1 then _ else _
      by_cases h : t < (i : Int)
      · rw [if_pos h, if_pos (by omega)]
      · rw [if_neg h, if_neg (by omega)]
    · show (if t < (i : Int) then _ else _) = if t < (i : Int) + 1 then _ else _
      by_cases h : t < (i : Int)
      · rw [if_pos h, if_pos (by omega)]
      · rw [if_neg h, if_neg (by omega)]
theorem nxR_s (π : PL) (x : ST) (q : Int) (i : Nat) : nxR π x q (i + 1) = nxR π x q i + (if nxP π x i ≠ 0 ∧ pO π i = q then pU π i else 0) := by
  unfold nxR; show _ + (_ + _) = _; rw [Int.add_assoc]
theorem dayN_A {π : PL} {x : ST} {i s : Nat} {τ : Wd} (hne : nxP π x i ≠ 0) (h : StR τ s π (dayM π x i)) : StR (up τ (s + 2) (pO π i) (nxR π x (pO π i) i + pU π i)) s π (dayI π x (i + 1)) := by
  refine (h.upR _ _).cg rfl rfl (fun q a b => ⟨rfl, ?_⟩) (fun t a b => ⟨rfl, rfl⟩)
  show fu _ _ _ _ = nxR π x q (i + 1)
  rw [nxR_s]
  unfold fu
  by_cases hq : q = pO π i
  · rw [if_pos hq, if_pos ⟨hne, hq.symm⟩, hq]
  · rw [if_neg hq, if_neg (fun z => hq z.2.symm), Int.add_zero]; rfl
theorem dayN_B {π : PL} {x : ST} {i s : Nat} {τ : Wd} (heq : nxP π x i = 0) (h : StR τ s π (dayM π x i)) : StR τ s π (dayI π x (i + 1)) := by
  refine h.cg rfl rfl (fun q a b => ⟨rfl, ?_⟩) (fun t a b => ⟨rfl, rfl⟩)
  show nxR π x q i = nxR π x q (i + 1)
  rw [nxR_s, if_neg (fun z => z.1 heq), Int.add_zero]
theorem dayI_0 (π : PL) (x : ST) {s : Nat} {τ : Wd} (h : StR τ s π x) : StR τ s π (dayI π x 0) := by
  refine h.cg rfl rfl (fun q a b => ⟨rfl, ?_⟩) (fun t a b => ⟨?_, ?_⟩)
  · show _ = nxR π x q 0; unfold nxR sm; omega
  · show _ = if t < ((0 : Nat) : Int) then _ else _; rw [if_neg (by omega)]
  · show _ = if t < ((0 : Nat) : Int) then _ else _; rw [if_neg (by omega)]
theorem dayI_N' {π : PL} {x : ST} {s : Nat} {τ : Wd} (h : StR τ s π (dayI π x (pN π))) (v : Int) (hv : v = sD x + 1) : StR (up τ s 0 v) s π (dayX π x) := by
  subst hv
  refine (h.upD _).cg rfl rfl (fun q a b => ⟨rfl, rfl⟩) (fun t a b => ⟨?_, ?_⟩)
  · show (if t < _ then _ else _) = _; rw [if_pos b]; rfl
  · show (if t < _ then _ else _) = _; rw [if_pos b]; rfl

def i_S_passDay : List (Nat × (Instr × Nat)) := [(0, (.iconst 0, 1)), (1, (.istore_n 2, 1)), (2, (.iload_n 2, 1)), (3, (.aload_n 1, 1)), (4, (.getfield 70, 3)), (7, (.if_icmp .ge 72, 3)), (10, (.aload_n 0, 1)), (11, (.getfield 21, 3)), (14, (.iload_n 2, 1)), (15, (.invokestatic 44, 3)), (18, (.iconst 1, 1)), (19, (.if_icmp .ne 9, 3)), (22, (.aload_n 0, 1)), (23, (.aload_n 1, 1)), (24, (.iload_n 2, 1)), (25, (.invokevirtual 73, 3)), (28, (.aload_n 0, 1)), (29, (.getfield 21, 3)), (32, (.iload_n 2, 1)), (33, (.invokestatic 44, 3)), (36, (.ifCond .eq 37, 3)), (39, (.aload_n 1, 1)), (40, (.getfield 63, 3)), (43, (.iload_n 2, 1)), (44, (.invokestatic 44, 3)), (47, (.istore_n 3, 1)), (48, (.aload_n 0, 1)), (49, (.getfield 15, 3)), (52, (.iload_n 3, 1)), (53, (.aload_n 0, 1)), (54, (.getfield 15, 3)), (57, (.iload_n 3, 1)), (58, (.invokestatic 44, 3)), (61, (.aload_n 1, 1)), (62, (.getfield 77, 3)), (65, (.iload_n 2, 1)), (66, (.invokestatic 44, 3)), (69, (.iadd, 1)), (70, (.invokestatic 40, 3)), (73, (.iinc 2 1, 3)), (76, (.goto (-74), 3)), (79, (.aload_n 0, 1)), (80, (.dup, 1)), (81, (.getfield 24, 3)), (84, (.iconst 1, 1)), (85, (.iadd, 1)), (86, (.putfield 24, 3)), (89, (.return_, 1))]
theorem k_S_passDay : i_S_passDay.all (fun q => decide (decode b_S_passDay q.1 = .ok q.2)) = true := by decide +kernel

set_option maxHeartbeats 1000000 in
set_option maxRecDepth 20000 in
theorem c_S_passDay (l : Launch) (G : GE) (σ : Wd) (s p : Nat) (π : PL) (x : ST) (j : Int) (hπ : PlR σ p π) (ok : PLok π) (hx : StR σ s π x) (xk : STok π x j) (hj : j ≤ 200) : Ct l G y_S_passDay b_S_passDay 4 (none) 3 71 [vR s, vR p] σ (Rt none (fun σ' => StR σ' s π (dayX π x) ∧ Fr s 5 σ σ')) := by
  refine Ct.of cm_S_passDay (Nat.le_of_ble_eq_true rfl) ?_
  intro X hXl hXG hXN hRm C E
  subst hXl; subst hXG
  show V X 0 [some (vR s), some (vR p), none, none] [] σ
  refine V_R (fun hR => ?_)
  have hπ0 := hπ
  have hx0 := hx
  obtain ⟨hp, e0, e2, e7, e10, eT, eX⟩ := hπ
  obtain ⟨hp_1, hp_2, hp_3, hp_4, hp_5, hp_6⟩ := kd_P hp
  have ⟨k1, k2, k3, k4, k5, k6, kT, kX⟩ := ok
  obtain ⟨hs, f0, f1, fQ, fT⟩ := hx
  obtain ⟨hs_1, hs_2, hs_3, hs_4⟩ := kd_S hs
  have ⟨x1, x2, x3, x4, xQ, xT⟩ := xk
  refine V_iconst (pc := 0) C (dk k_S_passDay 0 rfl) rfl ?_
  refine V_istore_n (pc := 1) C (dk k_S_passDay 1 rfl) (by rw [hXN]; decide) ?_
  dsimp only [lst, lstL, lz, kill, Fin.val, Nat.reduceAdd]
  refine V_eq (V_loop (fun q : Nat × Wd => q.1 ≤ pN π ∧ StR q.2 s π (dayI π x q.1) ∧ Fr s 5 σ q.2) (fun q => [some (vR s), some (vR p), some (vI (q.1 : Int)), none]) (fun q => q.2) (fun q => pN π - q.1) (fun q hq ih => ?_) (0, σ) ⟨Nat.zero_le _, dayI_0 π x hx0, Fr.rf _ _ _⟩) rfl rfl rfl
  obtain ⟨i, τ⟩ := q
  obtain ⟨hi, hx1, hfr⟩ := hq
  dsimp only at hi hx1 hfr ih ⊢
  refine V_R (fun hR => ?_)
  have hπ1 := hπ0.st hs hfr
  obtain ⟨-, g0, g2, g7, g10, gT, gX⟩ := id hπ1
  obtain ⟨-, q0, q1, qQ, qT⟩ := id hx1
  refine V_iload_n (pc := 2) C (dk k_S_passDay 2 rfl) rfl ?_
  refine V_aload_n (pc := 3) C (dk k_S_passDay 3 rfl) rfl ?_
  refine V_geti (pc := 4) (ji := 2) C (dk k_S_passDay 4 rfl) fl_S_70 hp (by decide) rfl rfl ?_
  refine V_icmpge (pc := 7) C (dk k_S_passDay 5 rfl) 79 rfl (by first | assumption | exact hR _ _ | exact ⟨by omega, by omega⟩) (by first | assumption | exact hR _ _ | exact ⟨by omega, by omega⟩) (fun h1 => ?_) (fun h1 => ?_)
  · skip
    have qd : sD (dayI π x i) = sD x := rfl
    refine V_aload_n (pc := 79) C (dk k_S_passDay 41 rfl) rfl ?_
    refine V_dupR (pc := 80) C (dk k_S_passDay 42 rfl) ?_
    refine V_geti (pc := 81) (ji := 0) C (dk k_S_passDay 43 rfl) fl_S_24 hs (by decide) rfl rfl ?_
    refine V_iconst (pc := 84) C (dk k_S_passDay 44 rfl) rfl ?_
    refine V_iadd (pc := 85) C (dk k_S_passDay 45 rfl) ?_
    refine V_puti (pc := 86) (ji := 0) C (dk k_S_passDay 46 rfl) fl_S_24 fw_7_0 hs (by decide) rfl rfl ⟨by omega, by omega⟩ ?_
    refine V_R (fun hR => ?_)
    refine V_vret (pc := 89) C E (dk k_S_passDay 47 rfl) ?_
    obtain rfl : i = pN π := by omega
    refine ⟨rfl, dayI_N' hx1 _ (by rw [q0]; rfl), hfr.up _ _ (by omega) (by omega)⟩
  · skip
    obtain ⟨gN, gP⟩ := qT i (by omega) (by omega)
    rw [dayI_N] at gN
    rw [dayI_P] at gP
    obtain ⟨xN0, xN1, xP0, xP1, xPN⟩ := xT i (by omega) (by omega)
    obtain ⟨kO0, kO1, kK0, kK1, kU0, kU1⟩ := kT i (by omega) (by omega)
    refine V_aload_n (pc := 10) C (dk k_S_passDay 6 rfl) rfl ?_
    refine V_getr (pc := 11) (o2 := s + 4) C (dk k_S_passDay 7 rfl) fl_S_21 hs (by decide) rfl (by decide) rfl ?_
    refine V_iload_n (pc := 14) C (dk k_S_passDay 8 rfl) rfl ?_
    refine V_callS (pc := 15) C (dk k_S_passDay 9 rfl) lk_S_44 cm_F_at sm_F_at (c_at _ _ _ (s + 4) 8 i hs_4 (by decide) (by omega) (by omega)) rfl rfl (Nat.le_of_ble_eq_true rfl) (Rm.mono hRm (by decide) (by decide)) ?_
    refine V_iconst (pc := 18) C (dk k_S_passDay 10 rfl) rfl ?_
    refine V_icmpne (pc := 19) C (dk k_S_passDay 11 rfl) 28 rfl (by first | assumption | exact hR _ _ | exact ⟨by omega, by omega⟩) (by first | assumption | exact hR _ _ | exact ⟨by omega, by omega⟩) (fun h2 => ?_) (fun h2 => ?_)
    · skip
      first | (have hy := dayM_A (by omega) hq1.1; have hfr2 := hfr.tr hq1.2) | (have hy := dayM_B (by omega) hx1; have hfr2 := hfr)
      have hπ2 := hπ0.st hs hfr2
      obtain ⟨-, -, -, -, -, rT, -⟩ := id hπ2
      obtain ⟨rO, rK, rU⟩ := rT i (by omega) (by omega)
      obtain ⟨-, -, -, yQ, yT⟩ := id hy
      have yP := (yT i (by omega) (by omega)).2
      rw [dayM_P] at yP
      have yR := (yQ (pO π i) kO0 kO1).2
      have yR : _ = nxR π x (pO π i) i := yR
      have ⟨nb0, nb1⟩ := nxR_b ok xk kO0 kO1 (show i ≤ pN π by omega)
      have nb2 := (xQ _ kO0 kO1).2.2.2
      refine V_aload_n (pc := 28) C (dk k_S_passDay 16 rfl) rfl ?_
      refine V_getr (pc := 29) (o2 := s + 4) C (dk k_S_passDay 17 rfl) fl_S_21 hs (by decide) rfl (by decide) rfl ?_
      refine V_iload_n (pc := 32) C (dk k_S_passDay 18 rfl) rfl ?_
      refine V_callS (pc := 33) C (dk k_S_passDay 19 rfl) lk_S_44 cm_F_at sm_F_at (c_at _ _ _ (s + 4) 8 i hs_4 (by decide) (by omega) (by omega)) rfl rfl (Nat.le_of_ble_eq_true rfl) (Rm.mono hRm (by decide) (by decide)) ?_
      refine V_ifeq (pc := 36) C (dk k_S_passDay 20 rfl) 73 rfl (by first | assumption | exact hR _ _ | exact ⟨by omega, by omega⟩) (fun h3 => ?_) (fun h3 => ?_)
      · skip
        refine V_iinc (pc := 73) C (dk k_S_passDay 39 rfl) (by rw [hXN]; decide) rfl ?_
        dsimp only [lst, lstL, lz, kill, Fin.val, Nat.reduceAdd]
        refine V_goto (pc := 76) C (dk k_S_passDay 40 rfl) 2 rfl ?_
        try (refine V_fg 3 ?_; dsimp only [fg])
        first | exact ih (i + 1, _) ⟨by dsimp only; omega, dayN_A (by omega) hy, (hfr2.up _ _ (by omega) (by omega))⟩ (by dsimp only; omega) | exact ih (i + 1, _) ⟨by dsimp only; omega, dayN_B (by omega) hy, hfr2⟩ (by dsimp only; omega)
      · skip
        refine V_aload_n (pc := 39) C (dk k_S_passDay 21 rfl) rfl ?_
        refine V_getr (pc := 40) (o2 := p + 2) C (dk k_S_passDay 22 rfl) fl_S_63 hp (by decide) rfl (by decide) rfl ?_
        refine V_iload_n (pc := 43) C (dk k_S_passDay 23 rfl) rfl ?_
        refine V_callS (pc := 44) C (dk k_S_passDay 24 rfl) lk_S_44 cm_F_at sm_F_at (c_at _ _ _ (p + 2) 8 i hp_2 (by decide) (by omega) (by omega)) rfl rfl (Nat.le_of_ble_eq_true rfl) (Rm.mono hRm (by decide) (by decide)) ?_
        rw [rO]
        refine V_istore_n (pc := 47) C (dk k_S_passDay 25 rfl) (by rw [hXN]; decide) ?_
        dsimp only [lst, lstL, lz, kill, Fin.val, Nat.reduceAdd]
        refine V_aload_n (pc := 48) C (dk k_S_passDay 26 rfl) rfl ?_
        refine V_getr (pc := 49) (o2 := s + 2) C (dk k_S_passDay 27 rfl) fl_S_15 hs (by decide) rfl (by decide) rfl ?_
        refine V_iload_n (pc := 52) C (dk k_S_passDay 28 rfl) rfl ?_
        refine V_aload_n (pc := 53) C (dk k_S_passDay 29 rfl) rfl ?_
        refine V_getr (pc := 54) (o2 := s + 2) C (dk k_S_passDay 30 rfl) fl_S_15 hs (by decide) rfl (by decide) rfl ?_
        refine V_iload_n (pc := 57) C (dk k_S_passDay 31 rfl) rfl ?_
        refine V_callS (pc := 58) C (dk k_S_passDay 32 rfl) lk_S_44 cm_F_at sm_F_at (c_at _ _ _ (s + 2) 5 (pO π i) hs_2 (by decide) kO0 (by omega)) rfl rfl (Nat.le_of_ble_eq_true rfl) (Rm.mono hRm (by decide) (by decide)) ?_
        refine V_aload_n (pc := 61) C (dk k_S_passDay 33 rfl) rfl ?_
        refine V_getr (pc := 62) (o2 := p + 5) C (dk k_S_passDay 34 rfl) fl_S_77 hp (by decide) rfl (by decide) rfl ?_
        refine V_iload_n (pc := 65) C (dk k_S_passDay 35 rfl) rfl ?_
        refine V_callS (pc := 66) C (dk k_S_passDay 36 rfl) lk_S_44 cm_F_at sm_F_at (c_at _ _ _ (p + 5) 8 i hp_5 (by decide) (by omega) (by omega)) rfl rfl (Nat.le_of_ble_eq_true rfl) (Rm.mono hRm (by decide) (by decide)) ?_
        refine V_iadd (pc := 69) C (dk k_S_passDay 37 rfl) ?_
        rw [yR, rU]
        refine V_callS0 (pc := 70) C (dk k_S_passDay 38 rfl) lk_S_40 cm_F_put sm_F_put (c_put _ _ _ (s + 2) 5 (pO π i) (nxR π x (pO π i) i + pU π i) hs_2 (by decide) kO0 (by omega) ⟨by omega, by omega⟩) rfl rfl (Nat.le_of_ble_eq_true rfl) (Rm.mono hRm (by decide) (by decide)) ?_
        refine V_R (fun hR => ?_)
        refine V_iinc (pc := 73) C (dk k_S_passDay 39 rfl) (by rw [hXN]; decide) rfl ?_
        dsimp only [lst, lstL, lz, kill, Fin.val, Nat.reduceAdd]
        refine V_goto (pc := 76) C (dk k_S_passDay 40 rfl) 2 rfl ?_
        try (refine V_fg 3 ?_; dsimp only [fg])
        first | exact ih (i + 1, _) ⟨by dsimp only; omega, dayN_A (by omega) hy, (hfr2.up _ _ (by omega) (by omega))⟩ (by dsimp only; omega) | exact ih (i + 1, _) ⟨by dsimp only; omega, dayN_B (by omega) hy, hfr2⟩ (by dsimp only; omega)
    · skip
      refine V_aload_n (pc := 22) C (dk k_S_passDay 12 rfl) rfl ?_
      refine V_aload_n (pc := 23) C (dk k_S_passDay 13 rfl) rfl ?_
      refine V_iload_n (pc := 24) C (dk k_S_passDay 14 rfl) rfl ?_
      refine V_callV0r (pc := 25) C (dk k_S_passDay 15 rfl) lk_S_73 cm_S_goOn vm_S_goOn (c_S_goOn _ _ _ s p π (dayI π x i) i hπ1 ok hx1 x1 (by omega) (by omega) (by rw [dayI_N]; omega)) hs rfl rfl rfl (Nat.le_of_ble_eq_true rfl) (Rm.mono hRm (by decide) (by decide)) (fun τ1 hq1 => ?_)
      refine V_R (fun hR => ?_)
      first | (have hy := dayM_A (by omega) hq1.1; have hfr2 := hfr.tr hq1.2) | (have hy := dayM_B (by omega) hx1; have hfr2 := hfr)
      have hπ2 := hπ0.st hs hfr2
      obtain ⟨-, -, -, -, -, rT, -⟩ := id hπ2
      obtain ⟨rO, rK, rU⟩ := rT i (by omega) (by omega)
      obtain ⟨-, -, -, yQ, yT⟩ := id hy
      have yP := (yT i (by omega) (by omega)).2
      rw [dayM_P] at yP
      have yR := (yQ (pO π i) kO0 kO1).2
      have yR : _ = nxR π x (pO π i) i := yR
      have ⟨nb0, nb1⟩ := nxR_b ok xk kO0 kO1 (show i ≤ pN π by omega)
      have nb2 := (xQ _ kO0 kO1).2.2.2
      refine V_aload_n (pc := 28) C (dk k_S_passDay 16 rfl) rfl ?_
      refine V_getr (pc := 29) (o2 := s + 4) C (dk k_S_passDay 17 rfl) fl_S_21 hs (by decide) rfl (by decide) rfl ?_
      refine V_iload_n (pc := 32) C (dk k_S_passDay 18 rfl) rfl ?_
      refine V_callS (pc := 33) C (dk k_S_passDay 19 rfl) lk_S_44 cm_F_at sm_F_at (c_at _ _ _ (s + 4) 8 i hs_4 (by decide) (by omega) (by omega)) rfl rfl (Nat.le_of_ble_eq_true rfl) (Rm.mono hRm (by decide) (by decide)) ?_
      refine V_ifeq (pc := 36) C (dk k_S_passDay 20 rfl) 73 rfl (by first | assumption | exact hR _ _ | exact ⟨by omega, by omega⟩) (fun h4 => ?_) (fun h4 => ?_)
      · skip
        refine V_iinc (pc := 73) C (dk k_S_passDay 39 rfl) (by rw [hXN]; decide) rfl ?_
        dsimp only [lst, lstL, lz, kill, Fin.val, Nat.reduceAdd]
        refine V_goto (pc := 76) C (dk k_S_passDay 40 rfl) 2 rfl ?_
        try (refine V_fg 3 ?_; dsimp only [fg])
        first | exact ih (i + 1, _) ⟨by dsimp only; omega, dayN_A (by omega) hy, (hfr2.up _ _ (by omega) (by omega))⟩ (by dsimp only; omega) | exact ih (i + 1, _) ⟨by dsimp only; omega, dayN_B (by omega) hy, hfr2⟩ (by dsimp only; omega)
      · skip
        refine V_aload_n (pc := 39) C (dk k_S_passDay 21 rfl) rfl ?_
        refine V_getr (pc := 40) (o2 := p + 2) C (dk k_S_passDay 22 rfl) fl_S_63 hp (by decide) rfl (by decide) rfl ?_
        refine V_iload_n (pc := 43) C (dk k_S_passDay 23 rfl) rfl ?_
        refine V_callS (pc := 44) C (dk k_S_passDay 24 rfl) lk_S_44 cm_F_at sm_F_at (c_at _ _ _ (p + 2) 8 i hp_2 (by decide) (by omega) (by omega)) rfl rfl (Nat.le_of_ble_eq_true rfl) (Rm.mono hRm (by decide) (by decide)) ?_
        rw [rO]
        refine V_istore_n (pc := 47) C (dk k_S_passDay 25 rfl) (by rw [hXN]; decide) ?_
        dsimp only [lst, lstL, lz, kill, Fin.val, Nat.reduceAdd]
        refine V_aload_n (pc := 48) C (dk k_S_passDay 26 rfl) rfl ?_
        refine V_getr (pc := 49) (o2 := s + 2) C (dk k_S_passDay 27 rfl) fl_S_15 hs (by decide) rfl (by decide) rfl ?_
        refine V_iload_n (pc := 52) C (dk k_S_passDay 28 rfl) rfl ?_
        refine V_aload_n (pc := 53) C (dk k_S_passDay 29 rfl) rfl ?_
        refine V_getr (pc := 54) (o2 := s + 2) C (dk k_S_passDay 30 rfl) fl_S_15 hs (by decide) rfl (by decide) rfl ?_
        refine V_iload_n (pc := 57) C (dk k_S_passDay 31 rfl) rfl ?_
        refine V_callS (pc := 58) C (dk k_S_passDay 32 rfl) lk_S_44 cm_F_at sm_F_at (c_at _ _ _ (s + 2) 5 (pO π i) hs_2 (by decide) kO0 (by omega)) rfl rfl (Nat.le_of_ble_eq_true rfl) (Rm.mono hRm (by decide) (by decide)) ?_
        refine V_aload_n (pc := 61) C (dk k_S_passDay 33 rfl) rfl ?_
        refine V_getr (pc := 62) (o2 := p + 5) C (dk k_S_passDay 34 rfl) fl_S_77 hp (by decide) rfl (by decide) rfl ?_
        refine V_iload_n (pc := 65) C (dk k_S_passDay 35 rfl) rfl ?_
        refine V_callS (pc := 66) C (dk k_S_passDay 36 rfl) lk_S_44 cm_F_at sm_F_at (c_at _ _ _ (p + 5) 8 i hp_5 (by decide) (by omega) (by omega)) rfl rfl (Nat.le_of_ble_eq_true rfl) (Rm.mono hRm (by decide) (by decide)) ?_
        refine V_iadd (pc := 69) C (dk k_S_passDay 37 rfl) ?_
        rw [yR, rU]
        refine V_callS0 (pc := 70) C (dk k_S_passDay 38 rfl) lk_S_40 cm_F_put sm_F_put (c_put _ _ _ (s + 2) 5 (pO π i) (nxR π x (pO π i) i + pU π i) hs_2 (by decide) kO0 (by omega) ⟨by omega, by omega⟩) rfl rfl (Nat.le_of_ble_eq_true rfl) (Rm.mono hRm (by decide) (by decide)) ?_
        refine V_R (fun hR => ?_)
        refine V_iinc (pc := 73) C (dk k_S_passDay 39 rfl) (by rw [hXN]; decide) rfl ?_
        dsimp only [lst, lstL, lz, kill, Fin.val, Nat.reduceAdd]
        refine V_goto (pc := 76) C (dk k_S_passDay 40 rfl) 2 rfl ?_
        try (refine V_fg 3 ?_; dsimp only [fg])
        first | exact ih (i + 1, _) ⟨by dsimp only; omega, dayN_A (by omega) hy, (hfr2.up _ _ (by omega) (by omega))⟩ (by dsimp only; omega) | exact ih (i + 1, _) ⟨by dsimp only; omega, dayN_B (by omega) hy, hfr2⟩ (by dsimp only; omega)

/-- a stand copied: as far as its rows go -/
theorem StR.copy {σ τ : Wd} {s o : Nat} {π : PL} {x : ST} (hs : kd s = 7) (ok : PLok π) (h : StR σ o π x) (h0 : τ s 0 = σ o 0) (h1 : τ s 1 = σ o 1) (h2 : ∀ i : Int, 0 ≤ i → i < 5 → τ (s + 1) i = σ (o + 1) i ∧ τ (s + 2) i = σ (o + 2) i) (h3 : ∀ i : Int, 0 ≤ i → i < 8 → τ (s + 3) i = σ (o + 3) i ∧ τ (s + 4) i = σ (o + 4) i) : StR τ s π x := by
  obtain ⟨g0, g1, g2, g3, g4⟩ := h
  obtain ⟨k1, k2, k3, -⟩ := ok
  refine ⟨hs, h0.trans g1, h1.trans g2, fun q a b => ?_, fun t a b => ?_⟩
  · rw [(h2 q a (by omega)).1, (h2 q a (by omega)).2]; exact g3 q a b
  · rw [(h3 t a (by omega)).1, (h3 t a (by omega)).2]; exact g4 t a b
theorem cpw_row (σ : Wd) (a b k : Nat) (n : Int) (h : k ≠ b) : cpw σ a b n k = σ k := by
  funext i; unfold cpw; rw [if_neg (fun q => h q.1)]
theorem cpw_ne (σ : Wd) (a b k : Nat) (n i : Int) (h : k ≠ b) : cpw σ a b n k i = σ k i := by
  unfold cpw; rw [if_neg (fun q => h q.1)]
theorem cpw_in (σ : Wd) (a b : Nat) (n i : Int) (h0 : 0 ≤ i) (h1 : i < n) : cpw σ a b n b i = σ a i := by
  unfold cpw; rw [if_pos ⟨rfl, h0, h1⟩]
/-- two stands don't overlap -/
theorem kd_SS {s o : Nat} (hs : kd s = 7) (ho : kd o = 7) : s = o ∨ s + 5 ≤ o ∨ o + 5 ≤ s := by
  have key : ∀ a b : Fin NO, kd a.val = 7 → kd b.val = 7 → a.val = b.val ∨ a.val + 5 ≤ b.val ∨ b.val + 5 ≤ a.val := by decide +kernel
  exact key ⟨s, kd_lt hs (by decide)⟩ ⟨o, kd_lt ho (by decide)⟩ hs ho

def i_S_copyFrom : List (Nat × (Instr × Nat)) := [(0, (.aload_n 0, 1)), (1, (.aload_n 1, 1)), (2, (.getfield 24, 3)), (5, (.putfield 24, 3)), (8, (.aload_n 0, 1)), (9, (.aload_n 1, 1)), (10, (.getfield 33, 3)), (13, (.putfield 33, 3)), (16, (.aload_n 1, 1)), (17, (.getfield 9, 3)), (20, (.aload_n 0, 1)), (21, (.getfield 9, 3)), (24, (.invokestatic 35, 3)), (27, (.aload_n 1, 1)), (28, (.getfield 15, 3)), (31, (.aload_n 0, 1)), (32, (.getfield 15, 3)), (35, (.invokestatic 35, 3)), (38, (.aload_n 1, 1)), (39, (.getfield 18, 3)), (42, (.aload_n 0, 1)), (43, (.getfield 18, 3)), (46, (.invokestatic 35, 3)), (49, (.aload_n 1, 1)), (50, (.getfield 21, 3)), (53, (.aload_n 0, 1)), (54, (.getfield 21, 3)), (57, (.invokestatic 35, 3)), (60, (.return_, 1))]
theorem k_S_copyFrom : i_S_copyFrom.all (fun q => decide (decode b_S_copyFrom q.1 = .ok q.2)) = true := by decide +kernel

set_option maxHeartbeats 1000000 in
set_option maxRecDepth 20000 in
theorem c_S_copyFrom (l : Launch) (G : GE) (σ : Wd) (s o : Nat) (hs : kd s = 7) (ho : kd o = 7) (hso : s ≠ o) : Ct l G y_S_copyFrom b_S_copyFrom 2 (none) 2 44 [vR s, vR o] σ (Rt none (fun σ' => (σ' s 0 = σ o 0 ∧ σ' s 1 = σ o 1 ∧ (∀ i : Int, 0 ≤ i → i < 5 → σ' (s + 1) i = σ (o + 1) i ∧ σ' (s + 2) i = σ (o + 2) i) ∧ (∀ i : Int, 0 ≤ i → i < 8 → σ' (s + 3) i = σ (o + 3) i ∧ σ' (s + 4) i = σ (o + 4) i)) ∧ Fr s 5 σ σ')) := by
  refine Ct.of cm_S_copyFrom (Nat.le_of_ble_eq_true rfl) ?_
  intro X hXl hXG hXN hRm C E
  subst hXl; subst hXG
  show V X 0 [some (vR s), some (vR o)] [] σ
  refine V_R (fun hR => ?_)
  obtain ⟨hs_1, hs_2, hs_3, hs_4⟩ := kd_S hs
  obtain ⟨ho_1, ho_2, ho_3, ho_4⟩ := kd_S ho
  have hd := kd_SS hs ho
  refine V_aload_n (pc := 0) C (dk k_S_copyFrom 0 rfl) rfl ?_
  refine V_aload_n (pc := 1) C (dk k_S_copyFrom 1 rfl) rfl ?_
  refine V_geti (pc := 2) (ji := 0) C (dk k_S_copyFrom 2 rfl) fl_S_24 ho (by decide) rfl rfl ?_
  refine V_puti (pc := 5) (ji := 0) C (dk k_S_copyFrom 3 rfl) fl_S_24 fw_7_0 hs (by decide) rfl rfl (by first | assumption | exact hR _ _ | exact ⟨by omega, by omega⟩) ?_
  refine V_R (fun hR => ?_)
  refine V_aload_n (pc := 8) C (dk k_S_copyFrom 4 rfl) rfl ?_
  refine V_aload_n (pc := 9) C (dk k_S_copyFrom 5 rfl) rfl ?_
  refine V_geti (pc := 10) (ji := 1) C (dk k_S_copyFrom 6 rfl) fl_S_33 ho (by decide) rfl rfl ?_
  refine V_puti (pc := 13) (ji := 1) C (dk k_S_copyFrom 7 rfl) fl_S_33 fw_7_1 hs (by decide) rfl rfl (by first | assumption | exact hR _ _ | exact ⟨by omega, by omega⟩) ?_
  refine V_R (fun hR => ?_)
  refine V_aload_n (pc := 16) C (dk k_S_copyFrom 8 rfl) rfl ?_
  refine V_getr (pc := 17) (o2 := o + 1) C (dk k_S_copyFrom 9 rfl) fl_S_9 ho (by decide) rfl (by decide) rfl ?_
  refine V_aload_n (pc := 20) C (dk k_S_copyFrom 10 rfl) rfl ?_
  refine V_getr (pc := 21) (o2 := s + 1) C (dk k_S_copyFrom 11 rfl) fl_S_9 hs (by decide) rfl (by decide) rfl ?_
  refine V_callS0 (pc := 24) C (dk k_S_copyFrom 12 rfl) lk_S_35 cm_F_copyRow sm_F_copyRow (c_F_copyRow _ _ _ (o + 1) (s + 1) 5 ho_1 hs_1 (by decide) (by omega)) rfl rfl (Nat.le_of_ble_eq_true rfl) (Rm.mono hRm (by decide) (by decide)) ?_
  refine V_R (fun hR => ?_)
  refine V_aload_n (pc := 27) C (dk k_S_copyFrom 13 rfl) rfl ?_
  refine V_getr (pc := 28) (o2 := o + 2) C (dk k_S_copyFrom 14 rfl) fl_S_15 ho (by decide) rfl (by decide) rfl ?_
  refine V_aload_n (pc := 31) C (dk k_S_copyFrom 15 rfl) rfl ?_
  refine V_getr (pc := 32) (o2 := s + 2) C (dk k_S_copyFrom 16 rfl) fl_S_15 hs (by decide) rfl (by decide) rfl ?_
  refine V_callS0 (pc := 35) C (dk k_S_copyFrom 17 rfl) lk_S_35 cm_F_copyRow sm_F_copyRow (c_F_copyRow _ _ _ (o + 2) (s + 2) 5 ho_2 hs_2 (by decide) (by omega)) rfl rfl (Nat.le_of_ble_eq_true rfl) (Rm.mono hRm (by decide) (by decide)) ?_
  refine V_R (fun hR => ?_)
  refine V_aload_n (pc := 38) C (dk k_S_copyFrom 18 rfl) rfl ?_
  refine V_getr (pc := 39) (o2 := o + 3) C (dk k_S_copyFrom 19 rfl) fl_S_18 ho (by decide) rfl (by decide) rfl ?_
  refine V_aload_n (pc := 42) C (dk k_S_copyFrom 20 rfl) rfl ?_
  refine V_getr (pc := 43) (o2 := s + 3) C (dk k_S_copyFrom 21 rfl) fl_S_18 hs (by decide) rfl (by decide) rfl ?_
  refine V_callS0 (pc := 46) C (dk k_S_copyFrom 22 rfl) lk_S_35 cm_F_copyRow sm_F_copyRow (c_F_copyRow _ _ _ (o + 3) (s + 3) 8 ho_3 hs_3 (by decide) (by omega)) rfl rfl (Nat.le_of_ble_eq_true rfl) (Rm.mono hRm (by decide) (by decide)) ?_
  refine V_R (fun hR => ?_)
  refine V_aload_n (pc := 49) C (dk k_S_copyFrom 23 rfl) rfl ?_
  refine V_getr (pc := 50) (o2 := o + 4) C (dk k_S_copyFrom 24 rfl) fl_S_21 ho (by decide) rfl (by decide) rfl ?_
  refine V_aload_n (pc := 53) C (dk k_S_copyFrom 25 rfl) rfl ?_
  refine V_getr (pc := 54) (o2 := s + 4) C (dk k_S_copyFrom 26 rfl) fl_S_21 hs (by decide) rfl (by decide) rfl ?_
  refine V_callS0 (pc := 57) C (dk k_S_copyFrom 27 rfl) lk_S_35 cm_F_copyRow sm_F_copyRow (c_F_copyRow _ _ _ (o + 4) (s + 4) 8 ho_4 hs_4 (by decide) (by omega)) rfl rfl (Nat.le_of_ble_eq_true rfl) (Rm.mono hRm (by decide) (by decide)) ?_
  refine V_R (fun hR => ?_)
  refine V_vret (pc := 60) C E (dk k_S_copyFrom 28 rfl) ?_
  refine ⟨rfl, ⟨?_, ?_, fun i a b => ⟨?_, ?_⟩, fun i a b => ⟨?_, ?_⟩⟩, fun k hk => ?_⟩
  all_goals (first | (simp (disch := omega) only [cpw_ne, cpw_in, up_ne1, up_ne2, up_at]; done) | (funext i; simp (disch := omega) only [cpw_ne, cpw_in, up_ne1, up_ne2, up_at]; done))
end
section
theorem kq_0 : kd 0 = 8 := by decide +kernel
theorem kq_1 : kd 1 = 2 := by decide +kernel
theorem kq_2 : kd 2 = 2000 + 200 := by decide +kernel
theorem kq_3 : kd 3 = 6 := by decide +kernel
theorem kq_4 : kd 4 = 1000 + 4 := by decide +kernel
theorem kq_5 : kd 5 = 5 := by decide +kernel
theorem kq_6 : kd 6 = 1000 + 5 := by decide +kernel
theorem kq_7 : kd 7 = 1000 + 8 := by decide +kernel
theorem kq_8 : kd 8 = 1000 + 8 := by decide +kernel
theorem kq_9 : kd 9 = 1000 + 8 := by decide +kernel
theorem kq_10 : kd 10 = 1000 + 8 := by decide +kernel
theorem kq_11 : kd 11 = 1000 + 12 := by decide +kernel
theorem kq_12 : kd 12 = 5 := by decide +kernel
theorem kq_13 : kd 13 = 1000 + 5 := by decide +kernel
theorem kq_14 : kd 14 = 1000 + 8 := by decide +kernel
theorem kq_15 : kd 15 = 1000 + 8 := by decide +kernel
theorem kq_16 : kd 16 = 1000 + 8 := by decide +kernel
theorem kq_17 : kd 17 = 1000 + 8 := by decide +kernel
theorem kq_18 : kd 18 = 1000 + 12 := by decide +kernel
theorem kq_19 : kd 19 = 7 := by decide +kernel
theorem kq_20 : kd 20 = 1000 + 5 := by decide +kernel
theorem kq_21 : kd 21 = 1000 + 5 := by decide +kernel
theorem kq_22 : kd 22 = 1000 + 8 := by decide +kernel
theorem kq_23 : kd 23 = 1000 + 8 := by decide +kernel
theorem kq_24 : kd 24 = 7 := by decide +kernel
theorem kq_25 : kd 25 = 1000 + 5 := by decide +kernel
theorem kq_26 : kd 26 = 1000 + 5 := by decide +kernel
theorem kq_27 : kd 27 = 1000 + 8 := by decide +kernel
theorem kq_28 : kd 28 = 1000 + 8 := by decide +kernel
theorem kq_29 : kd 29 = 4 := by decide +kernel
theorem kq_30 : kd 30 = 3000 := by decide +kernel
theorem kq_31 : kd 31 = 7 := by decide +kernel
theorem kq_32 : kd 32 = 1000 + 5 := by decide +kernel
theorem kq_33 : kd 33 = 1000 + 5 := by decide +kernel
theorem kq_34 : kd 34 = 1000 + 8 := by decide +kernel
theorem kq_35 : kd 35 = 1000 + 8 := by decide +kernel
theorem kq_36 : kd 36 = 7 := by decide +kernel
theorem kq_37 : kd 37 = 1000 + 5 := by decide +kernel
theorem kq_38 : kd 38 = 1000 + 5 := by decide +kernel
theorem kq_39 : kd 39 = 1000 + 8 := by decide +kernel
theorem kq_40 : kd 40 = 1000 + 8 := by decide +kernel
theorem kq_41 : kd 41 = 7 := by decide +kernel
theorem kq_42 : kd 42 = 1000 + 5 := by decide +kernel
theorem kq_43 : kd 43 = 1000 + 5 := by decide +kernel
theorem kq_44 : kd 44 = 1000 + 8 := by decide +kernel
theorem kq_45 : kd 45 = 1000 + 8 := by decide +kernel
theorem kq_46 : kd 46 = 7 := by decide +kernel
theorem kq_47 : kd 47 = 1000 + 5 := by decide +kernel
theorem kq_48 : kd 48 = 1000 + 5 := by decide +kernel
theorem kq_49 : kd 49 = 1000 + 8 := by decide +kernel
theorem kq_50 : kd 50 = 1000 + 8 := by decide +kernel
theorem kq_51 : kd 51 = 7 := by decide +kernel
theorem kq_52 : kd 52 = 1000 + 5 := by decide +kernel
theorem kq_53 : kd 53 = 1000 + 5 := by decide +kernel
theorem kq_54 : kd 54 = 1000 + 8 := by decide +kernel
theorem kq_55 : kd 55 = 1000 + 8 := by decide +kernel
theorem kq_56 : kd 56 = 7 := by decide +kernel
theorem kq_57 : kd 57 = 1000 + 5 := by decide +kernel
theorem kq_58 : kd 58 = 1000 + 5 := by decide +kernel
theorem kq_59 : kd 59 = 1000 + 8 := by decide +kernel
theorem kq_60 : kd 60 = 1000 + 8 := by decide +kernel
theorem kq_61 : kd 61 = 7 := by decide +kernel
theorem kq_62 : kd 62 = 1000 + 5 := by decide +kernel
theorem kq_63 : kd 63 = 1000 + 5 := by decide +kernel
theorem kq_64 : kd 64 = 1000 + 8 := by decide +kernel
theorem kq_65 : kd 65 = 1000 + 8 := by decide +kernel
theorem kq_66 : kd 66 = 7 := by decide +kernel
theorem kq_67 : kd 67 = 1000 + 5 := by decide +kernel
theorem kq_68 : kd 68 = 1000 + 5 := by decide +kernel
theorem kq_69 : kd 69 = 1000 + 8 := by decide +kernel
theorem kq_70 : kd 70 = 1000 + 8 := by decide +kernel
theorem kq_71 : kd 71 = 4 := by decide +kernel
theorem kq_72 : kd 72 = 3000 := by decide +kernel
theorem kq_73 : kd 73 = 7 := by decide +kernel
theorem kq_74 : kd 74 = 1000 + 5 := by decide +kernel
theorem kq_75 : kd 75 = 1000 + 5 := by decide +kernel
theorem kq_76 : kd 76 = 1000 + 8 := by decide +kernel
theorem kq_77 : kd 77 = 1000 + 8 := by decide +kernel
theorem kq_78 : kd 78 = 7 := by decide +kernel
theorem kq_79 : kd 79 = 1000 + 5 := by decide +kernel
theorem kq_80 : kd 80 = 1000 + 5 := by decide +kernel
theorem kq_81 : kd 81 = 1000 + 8 := by decide +kernel
theorem kq_82 : kd 82 = 1000 + 8 := by decide +kernel
theorem kq_83 : kd 83 = 7 := by decide +kernel
theorem kq_84 : kd 84 = 1000 + 5 := by decide +kernel
theorem kq_85 : kd 85 = 1000 + 5 := by decide +kernel
theorem kq_86 : kd 86 = 1000 + 8 := by decide +kernel
theorem kq_87 : kd 87 = 1000 + 8 := by decide +kernel
theorem kq_88 : kd 88 = 7 := by decide +kernel
theorem kq_89 : kd 89 = 1000 + 5 := by decide +kernel
theorem kq_90 : kd 90 = 1000 + 5 := by decide +kernel
theorem kq_91 : kd 91 = 1000 + 8 := by decide +kernel
theorem kq_92 : kd 92 = 1000 + 8 := by decide +kernel
theorem kq_93 : kd 93 = 7 := by decide +kernel
theorem kq_94 : kd 94 = 1000 + 5 := by decide +kernel
theorem kq_95 : kd 95 = 1000 + 5 := by decide +kernel
theorem kq_96 : kd 96 = 1000 + 8 := by decide +kernel
theorem kq_97 : kd 97 = 1000 + 8 := by decide +kernel
theorem kq_98 : kd 98 = 7 := by decide +kernel
theorem kq_99 : kd 99 = 1000 + 5 := by decide +kernel
theorem kq_100 : kd 100 = 1000 + 5 := by decide +kernel
theorem kq_101 : kd 101 = 1000 + 8 := by decide +kernel
theorem kq_102 : kd 102 = 1000 + 8 := by decide +kernel
theorem kq_103 : kd 103 = 7 := by decide +kernel
theorem kq_104 : kd 104 = 1000 + 5 := by decide +kernel
theorem kq_105 : kd 105 = 1000 + 5 := by decide +kernel
theorem kq_106 : kd 106 = 1000 + 8 := by decide +kernel
theorem kq_107 : kd 107 = 1000 + 8 := by decide +kernel
theorem kq_108 : kd 108 = 7 := by decide +kernel
theorem kq_109 : kd 109 = 1000 + 5 := by decide +kernel
theorem kq_110 : kd 110 = 1000 + 5 := by decide +kernel
theorem kq_111 : kd 111 = 1000 + 8 := by decide +kernel
theorem kq_112 : kd 112 = 1000 + 8 := by decide +kernel
theorem kq_113 : kd 113 = 3 := by decide +kernel
theorem kq_114 : kd 114 = 1000 + 6 := by decide +kernel
theorem kq_115 : kd 115 = 1000 + 6 := by decide +kernel
theorem kq_116 : kd 116 = 1000 + 6 := by decide +kernel
theorem kq_117 : kd 117 = 0 := by decide +kernel
theorem kq_118 : kd 118 = 1000 + 8 := by decide +kernel
theorem kq_119 : kd 119 = 1000 + 8 := by decide +kernel
theorem kq_120 : kd 120 = 1000 + 256 := by decide +kernel
theorem kq_121 : kd 121 = 1000 + 256 := by decide +kernel
theorem kq_122 : kd 122 = 1 := by decide +kernel
theorem kq_123 : kd 123 = 1000 + 8 := by decide +kernel
theorem kq_124 : kd 124 = 1000 + 5 := by decide +kernel
theorem kq_125 : kd 125 = 1000 + 5 := by decide +kernel
theorem kq_126 : kd 126 = 1000 + 108 := by decide +kernel
theorem kq_127 : kd 127 = 1000 + 8 := by decide +kernel
theorem kq_128 : kd 128 = 9 := by decide +kernel
theorem kq_129 : kd 129 = 1000 + 12 := by decide +kernel
theorem kq_130 : kd 130 = 1000 + 8 := by decide +kernel
theorem kq_131 : kd 131 = 1000 + 8 := by decide +kernel
theorem kq_132 : kd 132 = 1000 + 8 := by decide +kernel
theorem kq_133 : kd 133 = 1000 + 5 := by decide +kernel
theorem kq_134 : kd 134 = 1000 + 5 := by decide +kernel
theorem kq_135 : kd 135 = 1000 + 8 := by decide +kernel
theorem kq_136 : kd 136 = 1000 + 8 := by decide +kernel
theorem kq_137 : kd 137 = 1000 + 6 := by decide +kernel
theorem kq_138 : kd 138 = 1000 + 6 := by decide +kernel
theorem kq_139 : kd 139 = 1000 + 6 := by decide +kernel
theorem kq_140 : kd 140 = 1000 + 200 := by decide +kernel
theorem kq_141 : kd 141 = 1000 + 5 := by decide +kernel
theorem kq_142 : kd 142 = 1000 + 32 := by decide +kernel
theorem kq_143 : kd 143 = 1000 + 12 := by decide +kernel
theorem kq_144 : kd 144 = 1000 + 224 := by decide +kernel
theorem kq_145 : kd 145 = 1000 + 28 := by decide +kernel
theorem kq_146 : kd 146 = 1000 + 8 := by decide +kernel
theorem kq_147 : kd 147 = 1000 + 8 := by decide +kernel
theorem kq_148 : kd 148 = 1000 + 256 := by decide +kernel
theorem kq_149 : kd 149 = 1000 + 56 := by decide +kernel
/-- a row with 0 in it, as far as n -/
def zpw (σ : Wd) (b : Nat) (n : Int) : Wd := fun k i => if k = b ∧ 0 ≤ i ∧ i < n then 0 else σ k i
theorem zpw_0 (σ : Wd) (b : Nat) : zpw σ b 0 = σ := by
  funext k i; unfold zpw; rw [if_neg (by omega)]
theorem zpw_s (σ : Wd) (b : Nat) (i : Int) (h0 : 0 ≤ i) : up (zpw σ b i) b i 0 = zpw σ b (i + 1) := by
  funext k j
  unfold up zpw
  by_cases hk : k = b
  · by_cases hj : j = i
    · rw [if_pos ⟨hk, hj⟩, if_pos ⟨hk, by omega, by omega⟩]
    · rw [if_neg (fun q => hj q.2)]
      by_cases h2 : 0 ≤ j ∧ j < i
      · rw [if_pos ⟨hk, h2⟩, if_pos ⟨hk, by omega, by omega⟩]
      · rw [if_neg (fun q => h2 q.2), if_neg (fun q => h2 ⟨q.2.1, by omega⟩)]
  · rw [if_neg (fun q => hk q.1), if_neg (fun q => hk q.1), if_neg (fun q => hk q.1)]
theorem zpw_ne (σ : Wd) (b k : Nat) (n i : Int) (h : k ≠ b) : zpw σ b n k i = σ k i := by
  unfold zpw; rw [if_neg (fun q => h q.1)]
theorem zpw_in (σ : Wd) (b : Nat) (n i : Int) (h0 : 0 ≤ i) (h1 : i < n) : zpw σ b n b i = 0 := by
  unfold zpw; rw [if_pos ⟨rfl, h0, h1⟩]
theorem p2_b {i : Int} (h0 : 0 ≤ i) (h : i ≤ 8) : 1 ≤ (2 : Int) ^ i.toNat ∧ (2 : Int) ^ i.toNat ≤ 256 := by
  have key : ∀ n : Fin 9, 1 ≤ (2 : Int) ^ n.val ∧ (2 : Int) ^ n.val ≤ 256 := by decide
  have := key ⟨i.toNat, by omega⟩
  exact this
/-- a set of the first things, as bits -/
def bs (c : Int → Bool) (n : Nat) : Int := sm (fun t => if c t then 2 ^ t.toNat else 0) n
theorem bs_b (c : Int → Bool) : ∀ n : Nat, 0 ≤ bs c n ∧ bs c n < 2 ^ n
  | 0 => by simp [bs, sm]
  | n + 1 => by
    obtain ⟨h1, h2⟩ := bs_b c n
    have e : bs c (n + 1) = bs c n + (if c n then 2 ^ (n : Int).toNat else 0) := rfl
    rw [e, Int.pow_succ, Int.toNat_natCast]
    split <;> omega
theorem bs_s (c : Int → Bool) (n : Nat) : bs c (n + 1) = bs c n + (if c n then 2 ^ n else 0) := by
  show sm _ n + (if c n then 2 ^ (n : Int).toNat else 0) = sm _ n + _
  rw [Int.toNat_natCast]
theorem bs_or (c : Int → Bool) (n : Nat) : (((bs c n).toNat ||| ((1 : Int) * 2 ^ (n : Int).toNat).toNat : Nat) : Int) = bs c n + 2 ^ n := by
  obtain ⟨h1, h2⟩ := bs_b c n
  obtain ⟨b, hb⟩ := Int.eq_ofNat_of_zero_le h1
  rw [hb] at h2 ⊢
  have h3 : b < 2 ^ n := by
    have : ((b : Nat) : Int) < ((2 ^ n : Nat) : Int) := by rw [Int.natCast_pow]; exact h2
    omega
  have h4 : ((1 : Int) * 2 ^ (n : Int).toNat).toNat = 2 ^ n := by
    rw [Int.one_mul, Int.toNat_natCast]
    have : (2 : Int) ^ n = ((2 ^ n : Nat) : Int) := by rw [Int.natCast_pow]; rfl
    rw [this, Int.toNat_natCast]
  rw [h4, Int.toNat_natCast, Nat.or_comm]
  have h5 := Nat.two_pow_add_eq_or_of_lt h3 1
  rw [Nat.mul_one] at h5
  rw [← h5, Int.natCast_add, Int.natCast_pow, Int.add_comm]; rfl
theorem bs_p8 {n : Nat} (h : n < 8) : (1 : Int) * 2 ^ (n : Int).toNat < 2147483648 ∧ 0 ≤ (1 : Int) * 2 ^ (n : Int).toNat := by
  have := p2_b (i := n) (by omega) (by omega)
  omega
theorem bs_256 (c : Int → Bool) {n : Nat} (h : n ≤ 8) : 0 ≤ bs c n ∧ bs c n < 256 := by
  have h1 := bs_b c n
  have h2 := p2_b (i := n) (by omega) (by omega)
  rw [Int.toNat_natCast] at h2
  omega

def i_S_begin : List (Nat × (Instr × Nat)) := [(0, (.aload_n 0, 1)), (1, (.iconst 0, 1)), (2, (.putfield 24, 3)), (5, (.aload_n 0, 1)), (6, (.aload_n 1, 1)), (7, (.getfield 28, 3)), (10, (.putfield 33, 3)), (13, (.aload_n 1, 1)), (14, (.getfield 34, 3)), (17, (.aload_n 0, 1)), (18, (.getfield 9, 3)), (21, (.invokestatic 35, 3)), (24, (.aload_n 1, 1)), (25, (.getfield 39, 3)), (28, (.aload_n 0, 1)), (29, (.getfield 18, 3)), (32, (.invokestatic 35, 3)), (35, (.iconst 0, 1)), (36, (.istore_n 2, 1)), (37, (.iload_n 2, 1)), (38, (.iconst 5, 1)), (39, (.if_icmp .ge 18, 3)), (42, (.aload_n 0, 1)), (43, (.getfield 15, 3)), (46, (.iload_n 2, 1)), (47, (.iconst 0, 1)), (48, (.invokestatic 40, 3)), (51, (.iinc 2 1, 3)), (54, (.goto (-17), 3)), (57, (.iconst 0, 1)), (58, (.istore_n 2, 1)), (59, (.iload_n 2, 1)), (60, (.bipush 8, 2)), (62, (.if_icmp .ge 18, 3)), (65, (.aload_n 0, 1)), (66, (.getfield 21, 3)), (69, (.iload_n 2, 1)), (70, (.iconst 0, 1)), (71, (.invokestatic 40, 3)), (74, (.iinc 2 1, 3)), (77, (.goto (-18), 3)), (80, (.return_, 1))]
theorem k_S_begin : i_S_begin.all (fun q => decide (decode b_S_begin q.1 = .ok q.2)) = true := by decide +kernel

set_option maxHeartbeats 1000000 in
set_option maxRecDepth 20000 in
theorem c_S_begin (l : Launch) (G : GE) (σ : Wd) (s p : Nat) (hs : kd s = 7) (hp : kd p = 5) : Ct l G y_S_begin b_S_begin 3 (none) 2 44 [vR s, vR p] σ (Rt none (fun σ' => (σ' s 0 = 0 ∧ σ' s 1 = σ p 9 ∧ (∀ i : Int, 0 ≤ i → i < 5 → σ' (s + 1) i = σ (p + 1) i ∧ σ' (s + 2) i = 0) ∧ (∀ i : Int, 0 ≤ i → i < 8 → σ' (s + 3) i = σ (p + 4) i ∧ σ' (s + 4) i = 0)) ∧ Fr s 5 σ σ')) := by
  refine Ct.of cm_S_begin (Nat.le_of_ble_eq_true rfl) ?_
  intro X hXl hXG hXN hRm C E
  subst hXl; subst hXG
  show V X 0 [some (vR s), some (vR p), none] [] σ
  refine V_R (fun hR => ?_)
  obtain ⟨hs_1, hs_2, hs_3, hs_4⟩ := kd_S hs
  obtain ⟨hp_1, hp_2, hp_3, hp_4, hp_5, hp_6⟩ := kd_P hp
  have hd := kd_PS hp hs
  refine V_aload_n (pc := 0) C (dk k_S_begin 0 rfl) rfl ?_
  refine V_iconst (pc := 1) C (dk k_S_begin 1 rfl) rfl ?_
  refine V_puti (pc := 2) (ji := 0) C (dk k_S_begin 2 rfl) fl_S_24 fw_7_0 hs (by decide) rfl rfl R0 ?_
  refine V_R (fun hR => ?_)
  refine V_aload_n (pc := 5) C (dk k_S_begin 3 rfl) rfl ?_
  refine V_aload_n (pc := 6) C (dk k_S_begin 4 rfl) rfl ?_
  refine V_geti (pc := 7) (ji := 9) C (dk k_S_begin 5 rfl) fl_S_28 hp (by decide) rfl rfl ?_
  refine V_puti (pc := 10) (ji := 1) C (dk k_S_begin 6 rfl) fl_S_33 fw_7_1 hs (by decide) rfl rfl (hR _ _) ?_
  refine V_R (fun hR => ?_)
  refine V_aload_n (pc := 13) C (dk k_S_begin 7 rfl) rfl ?_
  refine V_getr (pc := 14) (o2 := p + 1) C (dk k_S_begin 8 rfl) fl_S_34 hp (by decide) rfl (by decide) rfl ?_
  refine V_aload_n (pc := 17) C (dk k_S_begin 9 rfl) rfl ?_
  refine V_getr (pc := 18) (o2 := s + 1) C (dk k_S_begin 10 rfl) fl_S_9 hs (by decide) rfl (by decide) rfl ?_
  refine V_callS0 (pc := 21) C (dk k_S_begin 11 rfl) lk_S_35 cm_F_copyRow sm_F_copyRow (c_F_copyRow _ _ _ (p + 1) (s + 1) 5 hp_1 hs_1 (by decide) (by omega)) rfl rfl (Nat.le_of_ble_eq_true rfl) (Rm.mono hRm (by decide) (by decide)) ?_
  refine V_R (fun hR => ?_)
  refine V_aload_n (pc := 24) C (dk k_S_begin 12 rfl) rfl ?_
  refine V_getr (pc := 25) (o2 := p + 4) C (dk k_S_begin 13 rfl) fl_S_39 hp (by decide) rfl (by decide) rfl ?_
  refine V_aload_n (pc := 28) C (dk k_S_begin 14 rfl) rfl ?_
  refine V_getr (pc := 29) (o2 := s + 3) C (dk k_S_begin 15 rfl) fl_S_18 hs (by decide) rfl (by decide) rfl ?_
  refine V_callS0 (pc := 32) C (dk k_S_begin 16 rfl) lk_S_35 cm_F_copyRow sm_F_copyRow (c_F_copyRow _ _ _ (p + 4) (s + 3) 8 hp_4 hs_3 (by decide) (by omega)) rfl rfl (Nat.le_of_ble_eq_true rfl) (Rm.mono hRm (by decide) (by decide)) ?_
  refine V_R (fun hR => ?_)
  generalize hτ : cpw _ (p + 4) (s + 3) _ = τ at hR ⊢
  refine V_iconst (pc := 35) C (dk k_S_begin 17 rfl) rfl ?_
  refine V_istore_n (pc := 36) C (dk k_S_begin 18 rfl) (by rw [hXN]; decide) ?_
  dsimp only [lst, lstL, lz, kill, Fin.val, Nat.reduceAdd]
  refine V_eq (V_loop (fun i : Int => 0 ≤ i ∧ i ≤ 5) (fun i => [some (vR s), some (vR p), some (vI i)]) (fun i => zpw τ (s + 2) i) (fun i => (5 - i).toNat) (fun i hi ih => ?_) 0 ⟨by omega, by omega⟩) rfl rfl (zpw_0 τ (s + 2)).symm
  obtain ⟨hi0, hi1⟩ := hi
  refine V_iload_n (pc := 37) C (dk k_S_begin 19 rfl) rfl ?_
  refine V_iconst (pc := 38) C (dk k_S_begin 20 rfl) rfl ?_
  refine V_icmpge (pc := 39) C (dk k_S_begin 21 rfl) 57 rfl (by first | exact hR _ _ | with_reducible assumption | exact ⟨by omega, by omega⟩) (by first | exact hR _ _ | with_reducible assumption | exact ⟨by omega, by omega⟩) (fun h1 => ?_) (fun h1 => ?_)
  · skip
    obtain rfl : i = 5 := by omega
    refine V_iconst (pc := 57) C (dk k_S_begin 29 rfl) rfl ?_
    refine V_istore_n (pc := 58) C (dk k_S_begin 30 rfl) (by rw [hXN]; decide) ?_
    dsimp only [lst, lstL, lz, kill, Fin.val, Nat.reduceAdd]
    refine V_eq (V_loop (fun i : Int => 0 ≤ i ∧ i ≤ 8) (fun i => [some (vR s), some (vR p), some (vI i)]) (fun i => zpw (zpw τ (s + 2) 5) (s + 4) i) (fun i => (8 - i).toNat) (fun i hi ih => ?_) 0 ⟨by omega, by omega⟩) rfl rfl (zpw_0 _ (s + 4)).symm
    obtain ⟨hi0, hi1⟩ := hi
    refine V_iload_n (pc := 59) C (dk k_S_begin 31 rfl) rfl ?_
    refine V_bipush (pc := 60) (n' := 8) C (dk k_S_begin 32 rfl) rfl ?_
    refine V_icmpge (pc := 62) C (dk k_S_begin 33 rfl) 80 rfl (by first | exact hR _ _ | with_reducible assumption | exact ⟨by omega, by omega⟩) (by first | exact hR _ _ | with_reducible assumption | exact ⟨by omega, by omega⟩) (fun h2 => ?_) (fun h2 => ?_)
    · skip
      refine V_vret (pc := 80) C E (dk k_S_begin 41 rfl) ?_
      obtain rfl : i = 8 := by omega
      subst hτ
      refine ⟨rfl, ⟨?_, ?_, fun i a b => ⟨?_, ?_⟩, fun i a b => ⟨?_, ?_⟩⟩, fun k hk => ?_⟩
      all_goals (first | (simp (disch := omega) only [zpw_ne, zpw_in, cpw_ne, cpw_in, up_ne1, up_ne2, up_at]; done) | (funext i; simp (disch := omega) only [zpw_ne, cpw_ne, up_ne1, up_ne2]; done))
    · skip
      refine V_aload_n (pc := 65) C (dk k_S_begin 34 rfl) rfl ?_
      refine V_getr (pc := 66) (o2 := s + 4) C (dk k_S_begin 35 rfl) fl_S_21 hs (by decide) rfl (by decide) rfl ?_
      refine V_iload_n (pc := 69) C (dk k_S_begin 36 rfl) rfl ?_
      refine V_iconst (pc := 70) C (dk k_S_begin 37 rfl) rfl ?_
      refine V_callS0 (pc := 71) C (dk k_S_begin 38 rfl) lk_S_40 cm_F_put sm_F_put (c_put _ _ _ (s + 4) 8 i 0 hs_4 (by decide) hi0 (by omega) R0) rfl rfl (Nat.le_of_ble_eq_true rfl) (Rm.mono hRm (by decide) (by decide)) ?_
      refine V_R (fun hR => ?_)
      refine V_iinc (pc := 74) C (dk k_S_begin 39 rfl) (by rw [hXN]; decide) rfl ?_
      dsimp only [lst, lstL, lz, kill, Fin.val, Nat.reduceAdd]
      refine V_goto (pc := 77) C (dk k_S_begin 40 rfl) 59 rfl ?_
      rw [zpw_s _ (s + 4) i hi0]
      exact ih (i + 1) ⟨by omega, by omega⟩ (by omega)
  · skip
    refine V_aload_n (pc := 42) C (dk k_S_begin 22 rfl) rfl ?_
    refine V_getr (pc := 43) (o2 := s + 2) C (dk k_S_begin 23 rfl) fl_S_15 hs (by decide) rfl (by decide) rfl ?_
    refine V_iload_n (pc := 46) C (dk k_S_begin 24 rfl) rfl ?_
    refine V_iconst (pc := 47) C (dk k_S_begin 25 rfl) rfl ?_
    refine V_callS0 (pc := 48) C (dk k_S_begin 26 rfl) lk_S_40 cm_F_put sm_F_put (c_put _ _ _ (s + 2) 5 i 0 hs_2 (by decide) hi0 (by omega) R0) rfl rfl (Nat.le_of_ble_eq_true rfl) (Rm.mono hRm (by decide) (by decide)) ?_
    refine V_R (fun hR => ?_)
    refine V_iinc (pc := 51) C (dk k_S_begin 27 rfl) (by rw [hXN]; decide) rfl ?_
    dsimp only [lst, lstL, lz, kill, Fin.val, Nat.reduceAdd]
    refine V_goto (pc := 54) C (dk k_S_begin 28 rfl) 37 rfl ?_
    rw [zpw_s τ (s + 2) i hi0]
    exact ih (i + 1) ⟨by omega, by omega⟩ (by omega)

def i_S_thingsWith : List (Nat × (Instr × Nat)) := [(0, (.iconst 0, 1)), (1, (.istore_n 3, 1)), (2, (.iconst 0, 1)), (3, (.istore 4, 2)), (5, (.iload 4, 2)), (7, (.aload_n 1, 1)), (8, (.getfield 70, 3)), (11, (.if_icmp .ge 41, 3)), (14, (.aload_n 1, 1)), (15, (.getfield 63, 3)), (18, (.iload 4, 2)), (20, (.invokestatic 44, 3)), (23, (.iload_n 2, 1)), (24, (.if_icmp .ne 22, 3)), (27, (.aload_n 0, 1)), (28, (.getfield 21, 3)), (31, (.iload 4, 2)), (33, (.invokestatic 44, 3)), (36, (.ifCond .ne 10, 3)), (39, (.iload_n 3, 1)), (40, (.iconst 1, 1)), (41, (.iload 4, 2)), (43, (.ishl, 1)), (44, (.ior, 1)), (45, (.istore_n 3, 1)), (46, (.iinc 4 1, 3)), (49, (.goto (-44), 3)), (52, (.iload_n 3, 1)), (53, (.ireturn, 1))]
theorem k_S_thingsWith : i_S_thingsWith.all (fun q => decide (decode b_S_thingsWith q.1 = .ok q.2)) = true := by decide +kernel

set_option maxHeartbeats 1000000 in
set_option maxRecDepth 20000 in
theorem c_S_thingsWith (l : Launch) (G : GE) (σ : Wd) (s p : Nat) (π : PL) (x : ST) (j : Int) (hπ : PlR σ p π) (ok : PLok π) (hx : StR σ s π x) (xk : STok π x j) (hj : j ≤ 200) (q : Int) (hq : inR q) : Ct l G y_S_thingsWith b_S_thingsWith 5 (some (.int)) 1 21 [vR s, vR p, vI q] σ (Dt (some (vI (bs (fun t => decide (pO π t = q ∧ sP x t = 0)) (pN π)))) σ) := by
  refine Ct.of cm_S_thingsWith (Nat.le_of_ble_eq_true rfl) ?_
  intro X hXl hXG hXN hRm C E
  subst hXl; subst hXG
  have ⟨hq_1, hq_2⟩ := hq
  show V X 0 [some (vR s), some (vR p), some (vI q), none, none] [] σ
  refine V_R (fun hR => ?_)
  have hπ0 := hπ
  have hx0 := hx
  obtain ⟨hp, e0, e2, e7, e10, eT, eX⟩ := hπ
  obtain ⟨hp_1, hp_2, hp_3, hp_4, hp_5, hp_6⟩ := kd_P hp
  have ⟨k1, k2, k3, k4, k5, k6, kT, kX⟩ := ok
  obtain ⟨hs, f0, f1, fQ, fT⟩ := hx
  obtain ⟨hs_1, hs_2, hs_3, hs_4⟩ := kd_S hs
  have ⟨x1, x2, x3, x4, xQ, xT⟩ := xk
  refine V_iconst (pc := 0) C (dk k_S_thingsWith 0 rfl) rfl ?_
  refine V_istore_n (pc := 1) C (dk k_S_thingsWith 1 rfl) (by rw [hXN]; decide) ?_
  dsimp only [lst, lstL, lz, kill, Fin.val, Nat.reduceAdd]
  refine V_iconst (pc := 2) C (dk k_S_thingsWith 2 rfl) rfl ?_
  refine V_istore (pc := 3) C (dk k_S_thingsWith 3 rfl) (by rw [hXN]; decide) ?_
  dsimp only [lst, lstL, lz, kill, Fin.val, Nat.reduceAdd]
  refine V_eq (V_loop (fun i : Nat => i ≤ pN π) (fun i => [some (vR s), some (vR p), some (vI q), some (vI (bs (fun t => decide (pO π t = q ∧ sP x t = 0)) i)), some (vI (i : Int))]) (fun _ => σ) (fun i => pN π - i) (fun i hi ih => ?_) 0 (Nat.zero_le _)) rfl rfl rfl
  have hb := bs_256 (fun t => decide (pO π t = q ∧ sP x t = 0)) (show i ≤ 8 by omega)
  refine V_iload (pc := 5) C (dk k_S_thingsWith 4 rfl) rfl ?_
  refine V_aload_n (pc := 7) C (dk k_S_thingsWith 5 rfl) rfl ?_
  refine V_geti (pc := 8) (ji := 2) C (dk k_S_thingsWith 6 rfl) fl_S_70 hp (by decide) rfl rfl ?_
  refine V_icmpge (pc := 11) C (dk k_S_thingsWith 7 rfl) 52 rfl (by first | exact hR _ _ | with_reducible assumption | exact ⟨by omega, by omega⟩) (by first | exact hR _ _ | with_reducible assumption | exact ⟨by omega, by omega⟩) (fun h1 => ?_) (fun h1 => ?_)
  · skip
    refine V_iload_n (pc := 52) C (dk k_S_thingsWith 27 rfl) rfl ?_
    refine V_iret (pc := 53) C E (dk k_S_thingsWith 28 rfl) ?_
    obtain rfl : i = pN π := by omega
    exact ⟨rfl, rfl⟩
  · skip
    obtain ⟨gN, gP⟩ := fT i (by omega) (by omega)
    obtain ⟨gO, gK, gU⟩ := eT i (by omega) (by omega)
    have hp8 := bs_p8 (show i < 8 by omega)
    refine V_aload_n (pc := 14) C (dk k_S_thingsWith 8 rfl) rfl ?_
    refine V_getr (pc := 15) (o2 := p + 2) C (dk k_S_thingsWith 9 rfl) fl_S_63 hp (by decide) rfl (by decide) rfl ?_
    refine V_iload (pc := 18) C (dk k_S_thingsWith 10 rfl) rfl ?_
    refine V_callS (pc := 20) C (dk k_S_thingsWith 11 rfl) lk_S_44 cm_F_at sm_F_at (c_at _ _ _ (p + 2) 8 i hp_2 (by decide) (by omega) (by omega)) rfl rfl (Nat.le_of_ble_eq_true rfl) (Rm.mono hRm (by decide) (by decide)) ?_
    refine V_iload_n (pc := 23) C (dk k_S_thingsWith 12 rfl) rfl ?_
    refine V_icmpne (pc := 24) C (dk k_S_thingsWith 13 rfl) 46 rfl (by first | exact hR _ _ | with_reducible assumption | exact ⟨by omega, by omega⟩) (by first | exact hR _ _ | with_reducible assumption | exact ⟨by omega, by omega⟩) (fun h2 => ?_) (fun h2 => ?_)
    · skip
      refine V_iinc (pc := 46) C (dk k_S_thingsWith 25 rfl) (by rw [hXN]; decide) rfl ?_
      dsimp only [lst, lstL, lz, kill, Fin.val, Nat.reduceAdd]
      refine V_goto (pc := 49) C (dk k_S_thingsWith 26 rfl) 5 rfl ?_
      refine V_eq (ih (i + 1) (by omega) (by omega)) ?_ rfl rfl
      show _ = [some (vR s), some (vR p), some (vI q), some (vI (bs (fun t => decide (pO π t = q ∧ sP x t = 0)) (i + 1))), some (vI ((i : Int) + 1))]
      rw [bs_s]
      first | rw [if_pos (decide_eq_true ⟨by omega, by omega⟩), bs_or] | rw [if_neg (fun z => by have := of_decide_eq_true z; omega), Int.add_zero]
    · skip
      refine V_aload_n (pc := 27) C (dk k_S_thingsWith 14 rfl) rfl ?_
      refine V_getr (pc := 28) (o2 := s + 4) C (dk k_S_thingsWith 15 rfl) fl_S_21 hs (by decide) rfl (by decide) rfl ?_
      refine V_iload (pc := 31) C (dk k_S_thingsWith 16 rfl) rfl ?_
      refine V_callS (pc := 33) C (dk k_S_thingsWith 17 rfl) lk_S_44 cm_F_at sm_F_at (c_at _ _ _ (s + 4) 8 i hs_4 (by decide) (by omega) (by omega)) rfl rfl (Nat.le_of_ble_eq_true rfl) (Rm.mono hRm (by decide) (by decide)) ?_
      refine V_ifne (pc := 36) C (dk k_S_thingsWith 18 rfl) 46 rfl (by first | exact hR _ _ | with_reducible assumption | exact ⟨by omega, by omega⟩) (fun h3 => ?_) (fun h3 => ?_)
      · skip
        refine V_iinc (pc := 46) C (dk k_S_thingsWith 25 rfl) (by rw [hXN]; decide) rfl ?_
        dsimp only [lst, lstL, lz, kill, Fin.val, Nat.reduceAdd]
        refine V_goto (pc := 49) C (dk k_S_thingsWith 26 rfl) 5 rfl ?_
        refine V_eq (ih (i + 1) (by omega) (by omega)) ?_ rfl rfl
        show _ = [some (vR s), some (vR p), some (vI q), some (vI (bs (fun t => decide (pO π t = q ∧ sP x t = 0)) (i + 1))), some (vI ((i : Int) + 1))]
        rw [bs_s]
        first | rw [if_pos (decide_eq_true ⟨by omega, by omega⟩), bs_or] | rw [if_neg (fun z => by have := of_decide_eq_true z; omega), Int.add_zero]
      · skip
        refine V_iload_n (pc := 39) C (dk k_S_thingsWith 19 rfl) rfl ?_
        refine V_iconst (pc := 40) C (dk k_S_thingsWith 20 rfl) rfl ?_
        refine V_iload (pc := 41) C (dk k_S_thingsWith 21 rfl) rfl ?_
        refine V_ishl (pc := 43) C (dk k_S_thingsWith 22 rfl) (by omega) (by omega) (by omega) hp8.1 ?_
        refine V_ior (pc := 44) C (dk k_S_thingsWith 23 rfl) ⟨by omega, by omega⟩ ⟨by omega, by omega⟩ (by omega) (by omega) ?_
        refine V_istore_n (pc := 45) C (dk k_S_thingsWith 24 rfl) (by rw [hXN]; decide) ?_
        dsimp only [lst, lstL, lz, kill, Fin.val, Nat.reduceAdd]
        refine V_iinc (pc := 46) C (dk k_S_thingsWith 25 rfl) (by rw [hXN]; decide) rfl ?_
        dsimp only [lst, lstL, lz, kill, Fin.val, Nat.reduceAdd]
        refine V_goto (pc := 49) C (dk k_S_thingsWith 26 rfl) 5 rfl ?_
        refine V_eq (ih (i + 1) (by omega) (by omega)) ?_ rfl rfl
        show _ = [some (vR s), some (vR p), some (vI q), some (vI (bs (fun t => decide (pO π t = q ∧ sP x t = 0)) (i + 1))), some (vI ((i : Int) + 1))]
        rw [bs_s]
        first | rw [if_pos (decide_eq_true ⟨by omega, by omega⟩), bs_or] | rw [if_neg (fun z => by have := of_decide_eq_true z; omega), Int.add_zero]

def i_L_add : List (Nat × (Instr × Nat)) := [(0, (.aload_n 0, 1)), (1, (.getfield 15, 3)), (4, (.ifCond .lt 15, 3)), (7, (.aload_n 0, 1)), (8, (.getfield 15, 3)), (11, (.aload_n 0, 1)), (12, (.getfield 9, 3)), (15, (.arraylength, 1)), (16, (.if_icmp .lt 5, 3)), (19, (.iconst 0, 1)), (20, (.ireturn, 1)), (21, (.aload_n 0, 1)), (22, (.getfield 9, 3)), (25, (.aload_n 0, 1)), (26, (.getfield 15, 3)), (29, (.iload_n 1, 1)), (30, (.castore, 1)), (31, (.aload_n 0, 1)), (32, (.dup, 1)), (33, (.getfield 15, 3)), (36, (.iconst 1, 1)), (37, (.iadd, 1)), (38, (.putfield 15, 3)), (41, (.iconst 1, 1)), (42, (.ireturn, 1))]
theorem k_L_add : i_L_add.all (fun q => decide (decode b_L_add q.1 = .ok q.2)) = true := by decide +kernel

set_option maxHeartbeats 1000000 in
set_option maxRecDepth 20000 in
theorem c_L_add (l : Launch) (G : GE) (σ : Wd) (z : Int) (hz0 : 0 ≤ z) (hz1 : z < 65536) (h0 : 0 ≤ σ 1 1) (h1 : σ 1 1 ≤ 200) : Ct l G y_L_add b_L_add 2 (some (.boolean)) 0 0 [vR 1, vI z] σ (Dt (some (vI (if σ 1 1 < 200 then 1 else 0))) (if σ 1 1 < 200 then up (up σ 2 (σ 1 1) z) 1 1 (σ 1 1 + 1) else σ)) := by
  refine Ct.of cm_L_add (Nat.le_of_ble_eq_true rfl) ?_
  intro X hXl hXG hXN hRm C E
  subst hXl; subst hXG
  show V X 0 [some (vR 1), some (vI z)] [] σ
  refine V_R (fun hR => ?_)
  refine V_aload_n (pc := 0) C (dk k_L_add 0 rfl) rfl ?_
  refine V_geti (pc := 1) (ji := 1) C (dk k_L_add 1 rfl) fl_L_15 kq_1 (by decide) rfl rfl ?_
  refine V_iflt (pc := 4) C (dk k_L_add 2 rfl) 19 rfl (by first | exact hR _ _ | with_reducible assumption | exact ⟨by omega, by omega⟩) (fun h1 => ?_) (fun h1 => ?_)
  · skip
    refine V_iconst (pc := 19) C (dk k_L_add 9 rfl) rfl ?_
    refine V_zret (pc := 20) C (by first | exact Or.inl rfl | exact Or.inr rfl | (split <;> first | exact Or.inl rfl | exact Or.inr rfl) | omega) E (dk k_L_add 10 rfl) ?_
    first | (rw [if_pos (by assumption), if_pos (by assumption)]; exact ⟨rfl, rfl⟩) | (exfalso; omega) | (rw [if_neg (by omega), if_neg (by omega)]; exact ⟨rfl, rfl⟩)
  · skip
    refine V_aload_n (pc := 7) C (dk k_L_add 3 rfl) rfl ?_
    refine V_geti (pc := 8) (ji := 1) C (dk k_L_add 4 rfl) fl_L_15 kq_1 (by decide) rfl rfl ?_
    refine V_aload_n (pc := 11) C (dk k_L_add 5 rfl) rfl ?_
    refine V_getr (pc := 12) (o2 := 2) C (dk k_L_add 6 rfl) fl_L_9 kq_1 (by decide) rfl (by decide) rfl ?_
    refine V_alen (pc := 15) C (dk k_L_add 7 rfl) (n := 200) (Or.inr (Or.inl kq_2)) (by decide) rfl ?_
    refine V_icmplt (pc := 16) C (dk k_L_add 8 rfl) 21 rfl (by first | exact hR _ _ | with_reducible assumption | exact ⟨by omega, by omega⟩) (by first | exact hR _ _ | with_reducible assumption | exact ⟨by omega, by omega⟩) (fun h2 => ?_) (fun h2 => ?_)
    · skip
      refine V_aload_n (pc := 21) C (dk k_L_add 11 rfl) rfl ?_
      refine V_getr (pc := 22) (o2 := 2) C (dk k_L_add 12 rfl) fl_L_9 kq_1 (by decide) rfl (by decide) rfl ?_
      refine V_aload_n (pc := 25) C (dk k_L_add 13 rfl) rfl ?_
      refine V_geti (pc := 26) (ji := 1) C (dk k_L_add 14 rfl) fl_L_15 kq_1 (by decide) rfl rfl ?_
      refine V_iload_n (pc := 29) C (dk k_L_add 15 rfl) rfl ?_
      refine V_cast (pc := 30) C (dk k_L_add 16 rfl) kq_2 (by decide) (by omega) (by omega) (by omega) (by omega) ?_
      refine V_R (fun hR => ?_)
      refine V_aload_n (pc := 31) C (dk k_L_add 17 rfl) rfl ?_
      refine V_dupR (pc := 32) C (dk k_L_add 18 rfl) ?_
      refine V_geti (pc := 33) (ji := 1) C (dk k_L_add 19 rfl) fl_L_15 kq_1 (by decide) rfl rfl ?_
      have e1 : up σ 2 (σ 1 1) z 1 1 = σ 1 1 := up_ne1 _ _ _ _ (by decide)
      rw [e1]
      refine V_iconst (pc := 36) C (dk k_L_add 20 rfl) rfl ?_
      refine V_iadd (pc := 37) C (dk k_L_add 21 rfl) ?_
      refine V_puti (pc := 38) (ji := 1) C (dk k_L_add 22 rfl) fl_L_15 fw_2_1 kq_1 (by decide) rfl rfl ⟨by omega, by omega⟩ ?_
      refine V_R (fun hR => ?_)
      refine V_iconst (pc := 41) C (dk k_L_add 23 rfl) rfl ?_
      refine V_zret (pc := 42) C (by first | exact Or.inl rfl | exact Or.inr rfl | (split <;> first | exact Or.inl rfl | exact Or.inr rfl) | omega) E (dk k_L_add 24 rfl) ?_
      first | (rw [if_pos (by assumption), if_pos (by assumption)]; exact ⟨rfl, rfl⟩) | (exfalso; omega) | (rw [if_neg (by omega), if_neg (by omega)]; exact ⟨rfl, rfl⟩)
    · skip
      refine V_iconst (pc := 19) C (dk k_L_add 9 rfl) rfl ?_
      refine V_zret (pc := 20) C (by first | exact Or.inl rfl | exact Or.inr rfl | (split <;> first | exact Or.inl rfl | exact Or.inr rfl) | omega) E (dk k_L_add 10 rfl) ?_
      first | (rw [if_pos (by assumption), if_pos (by assumption)]; exact ⟨rfl, rfl⟩) | (exfalso; omega) | (rw [if_neg (by omega), if_neg (by omega)]; exact ⟨rfl, rfl⟩)

def i_L_letter : List (Nat × (Instr × Nat)) := [(0, (.iload_n 1, 1)), (1, (.ifCond .lt 29, 3)), (4, (.iload_n 1, 1)), (5, (.aload_n 0, 1)), (6, (.getfield 15, 3)), (9, (.if_icmp .ge 21, 3)), (12, (.iload_n 1, 1)), (13, (.aload_n 0, 1)), (14, (.getfield 9, 3)), (17, (.arraylength, 1)), (18, (.if_icmp .ge 12, 3)), (21, (.aload_n 0, 1)), (22, (.getfield 9, 3)), (25, (.iload_n 1, 1)), (26, (.caload, 1)), (27, (.goto 4, 3)), (30, (.iconst 0, 1)), (31, (.ireturn, 1))]
theorem k_L_letter : i_L_letter.all (fun q => decide (decode b_L_letter q.1 = .ok q.2)) = true := by decide +kernel

set_option maxHeartbeats 1000000 in
set_option maxRecDepth 20000 in
theorem c_L_letter (l : Launch) (G : GE) (σ : Wd) (i : Int) (hi : inR i) (h0 : 0 ≤ σ 1 1) (h1 : σ 1 1 ≤ 200) (hc : ∀ k : Int, 0 ≤ k → k < σ 1 1 → 0 ≤ σ 2 k ∧ σ 2 k < 65536) : Ct l G y_L_letter b_L_letter 2 (some (.char)) 0 0 [vR 1, vI i] σ (Dt (some (vI (if 0 ≤ i ∧ i < σ 1 1 then σ 2 i else 0))) σ) := by
  refine Ct.of cm_L_letter (Nat.le_of_ble_eq_true rfl) ?_
  intro X hXl hXG hXN hRm C E
  subst hXl; subst hXG
  have ⟨hi_1, hi_2⟩ := hi
  show V X 0 [some (vR 1), some (vI i)] [] σ
  refine V_R (fun hR => ?_)
  refine V_iload_n (pc := 0) C (dk k_L_letter 0 rfl) rfl ?_
  refine V_iflt (pc := 1) C (dk k_L_letter 1 rfl) 30 rfl (by first | exact hR _ _ | with_reducible assumption | exact ⟨by omega, by omega⟩) (fun h1 => ?_) (fun h1 => ?_)
  · skip
    refine V_iconst (pc := 30) C (dk k_L_letter 16 rfl) rfl ?_
    refine V_cret (pc := 31) C (by omega) (by omega) E (dk k_L_letter 17 rfl) ?_
    first | exact ⟨rfl, rfl⟩ | (refine ⟨?_, rfl⟩; first | (rw [if_pos (by omega)]; done) | (rw [if_neg (by omega)]; done))
  · skip
    refine V_iload_n (pc := 4) C (dk k_L_letter 2 rfl) rfl ?_
    refine V_aload_n (pc := 5) C (dk k_L_letter 3 rfl) rfl ?_
    refine V_geti (pc := 6) (ji := 1) C (dk k_L_letter 4 rfl) fl_L_15 kq_1 (by decide) rfl rfl ?_
    refine V_icmpge (pc := 9) C (dk k_L_letter 5 rfl) 30 rfl (by first | exact hR _ _ | with_reducible assumption | exact ⟨by omega, by omega⟩) (by first | exact hR _ _ | with_reducible assumption | exact ⟨by omega, by omega⟩) (fun h2 => ?_) (fun h2 => ?_)
    · skip
      refine V_iconst (pc := 30) C (dk k_L_letter 16 rfl) rfl ?_
      refine V_cret (pc := 31) C (by omega) (by omega) E (dk k_L_letter 17 rfl) ?_
      first | exact ⟨rfl, rfl⟩ | (refine ⟨?_, rfl⟩; first | (rw [if_pos (by omega)]; done) | (rw [if_neg (by omega)]; done))
    · skip
      refine V_iload_n (pc := 12) C (dk k_L_letter 6 rfl) rfl ?_
      refine V_aload_n (pc := 13) C (dk k_L_letter 7 rfl) rfl ?_
      refine V_getr (pc := 14) (o2 := 2) C (dk k_L_letter 8 rfl) fl_L_9 kq_1 (by decide) rfl (by decide) rfl ?_
      refine V_alen (pc := 17) C (dk k_L_letter 9 rfl) (n := 200) (Or.inr (Or.inl kq_2)) (by decide) rfl ?_
      refine V_icmpge (pc := 18) C (dk k_L_letter 10 rfl) 30 rfl (by first | exact hR _ _ | with_reducible assumption | exact ⟨by omega, by omega⟩) (by first | exact hR _ _ | with_reducible assumption | exact ⟨by omega, by omega⟩) (fun h3 => ?_) (fun h3 => ?_)
      · skip
        refine V_iconst (pc := 30) C (dk k_L_letter 16 rfl) rfl ?_
        refine V_cret (pc := 31) C (by omega) (by omega) E (dk k_L_letter 17 rfl) ?_
        first | exact ⟨rfl, rfl⟩ | (refine ⟨?_, rfl⟩; first | (rw [if_pos (by omega)]; done) | (rw [if_neg (by omega)]; done))
      · skip
        refine V_aload_n (pc := 21) C (dk k_L_letter 11 rfl) rfl ?_
        refine V_getr (pc := 22) (o2 := 2) C (dk k_L_letter 12 rfl) fl_L_9 kq_1 (by decide) rfl (by decide) rfl ?_
        refine V_iload_n (pc := 25) C (dk k_L_letter 13 rfl) rfl ?_
        refine V_cald (pc := 26) C (dk k_L_letter 14 rfl) kq_2 (by decide) (by omega) (by omega) ?_
        have hc2 := hc i (by omega) (by omega)
        refine V_goto (pc := 27) C (dk k_L_letter 15 rfl) 31 rfl ?_
        refine V_cret (pc := 31) C (by omega) (by omega) E (dk k_L_letter 17 rfl) ?_
        first | exact ⟨rfl, rfl⟩ | (refine ⟨?_, rfl⟩; first | (rw [if_pos (by omega)]; done) | (rw [if_neg (by omega)]; done))

def i_K_add : List (Nat × (Instr × Nat)) := [(0, (.aload_n 0, 1)), (1, (.getfield 21, 3)), (4, (.bipush 6, 2)), (6, (.if_icmp .lt 5, 3)), (9, (.iconst 0, 1)), (10, (.ireturn, 1)), (11, (.aload_n 0, 1)), (12, (.getfield 9, 3)), (15, (.aload_n 0, 1)), (16, (.getfield 21, 3)), (19, (.iload_n 1, 1)), (20, (.invokestatic 25, 3)), (23, (.aload_n 0, 1)), (24, (.getfield 15, 3)), (27, (.aload_n 0, 1)), (28, (.getfield 21, 3)), (31, (.iload_n 2, 1)), (32, (.invokestatic 25, 3)), (35, (.aload_n 0, 1)), (36, (.getfield 18, 3)), (39, (.aload_n 0, 1)), (40, (.getfield 21, 3)), (43, (.iload_n 3, 1)), (44, (.invokestatic 25, 3)), (47, (.aload_n 0, 1)), (48, (.dup, 1)), (49, (.getfield 21, 3)), (52, (.iconst 1, 1)), (53, (.iadd, 1)), (54, (.putfield 21, 3)), (57, (.iconst 1, 1)), (58, (.ireturn, 1))]
theorem k_K_add : i_K_add.all (fun q => decide (decode b_K_add q.1 = .ok q.2)) = true := by decide +kernel

set_option maxHeartbeats 1000000 in
set_option maxRecDepth 20000 in
theorem c_K_add (l : Launch) (G : GE) (σ : Wd) (t n v : Int) (ht : inR t) (hn : inR n) (hv : inR v) (h0 : 0 ≤ σ 113 3) (h1 : σ 113 3 ≤ 6) : Ct l G y_K_add b_K_add 4 (some (.boolean)) 1 22 [vR 113, vI t, vI n, vI v] σ (Dt (some (vI (if σ 113 3 < 6 then 1 else 0))) (if σ 113 3 < 6 then up (up (up (up σ 114 (σ 113 3) t) 115 (σ 113 3) n) 116 (σ 113 3) v) 113 3 (σ 113 3 + 1) else σ)) := by
  refine Ct.of cm_K_add (Nat.le_of_ble_eq_true rfl) ?_
  intro X hXl hXG hXN hRm C E
  subst hXl; subst hXG
  have ⟨ht_1, ht_2⟩ := ht
  have ⟨hn_1, hn_2⟩ := hn
  have ⟨hv_1, hv_2⟩ := hv
  show V X 0 [some (vR 113), some (vI t), some (vI n), some (vI v)] [] σ
  refine V_R (fun hR => ?_)
  refine V_aload_n (pc := 0) C (dk k_K_add 0 rfl) rfl ?_
  refine V_geti (pc := 1) (ji := 3) C (dk k_K_add 1 rfl) fl_K_21 kq_113 (by decide) rfl rfl ?_
  refine V_bipush (pc := 4) (n' := 6) C (dk k_K_add 2 rfl) rfl ?_
  refine V_icmplt (pc := 6) C (dk k_K_add 3 rfl) 11 rfl (by first | exact hR _ _ | with_reducible assumption | exact ⟨by omega, by omega⟩) (by first | exact hR _ _ | with_reducible assumption | exact ⟨by omega, by omega⟩) (fun h1 => ?_) (fun h1 => ?_)
  · skip
    refine V_aload_n (pc := 11) C (dk k_K_add 6 rfl) rfl ?_
    refine V_getr (pc := 12) (o2 := 114) C (dk k_K_add 7 rfl) fl_K_9 kq_113 (by decide) rfl (by decide) rfl ?_
    refine V_aload_n (pc := 15) C (dk k_K_add 8 rfl) rfl ?_
    refine V_geti (pc := 16) (ji := 3) C (dk k_K_add 9 rfl) fl_K_21 kq_113 (by decide) rfl rfl ?_
    refine V_iload_n (pc := 19) C (dk k_K_add 10 rfl) rfl ?_
    refine V_callS0 (pc := 20) C (dk k_K_add 11 rfl) lk_K_25 cm_F_put sm_F_put (c_put _ _ _ (114) 6 _ _ kq_114 (by decide) (by omega) (by omega) ht) rfl rfl (Nat.le_of_ble_eq_true rfl) (Rm.mono hRm (by decide) (by decide)) ?_
    refine V_R (fun hR => ?_)
    refine V_aload_n (pc := 23) C (dk k_K_add 12 rfl) rfl ?_
    refine V_getr (pc := 24) (o2 := 115) C (dk k_K_add 13 rfl) fl_K_15 kq_113 (by decide) rfl (by decide) rfl ?_
    refine V_aload_n (pc := 27) C (dk k_K_add 14 rfl) rfl ?_
    refine V_geti (pc := 28) (ji := 3) C (dk k_K_add 15 rfl) fl_K_21 kq_113 (by decide) rfl rfl ?_
    have e1 : up σ 114 (σ 113 3) t 113 3 = σ 113 3 := up_ne1 _ _ _ _ (by decide)
    rw [e1]
    refine V_iload_n (pc := 31) C (dk k_K_add 16 rfl) rfl ?_
    refine V_callS0 (pc := 32) C (dk k_K_add 17 rfl) lk_K_25 cm_F_put sm_F_put (c_put _ _ _ (115) 6 _ _ kq_115 (by decide) (by omega) (by omega) hn) rfl rfl (Nat.le_of_ble_eq_true rfl) (Rm.mono hRm (by decide) (by decide)) ?_
    refine V_R (fun hR => ?_)
    refine V_aload_n (pc := 35) C (dk k_K_add 18 rfl) rfl ?_
    refine V_getr (pc := 36) (o2 := 116) C (dk k_K_add 19 rfl) fl_K_18 kq_113 (by decide) rfl (by decide) rfl ?_
    refine V_aload_n (pc := 39) C (dk k_K_add 20 rfl) rfl ?_
    refine V_geti (pc := 40) (ji := 3) C (dk k_K_add 21 rfl) fl_K_21 kq_113 (by decide) rfl rfl ?_
    have e2 : up (up σ 114 (σ 113 3) t) 115 (σ 113 3) n 113 3 = σ 113 3 := (up_ne1 _ _ _ _ (by decide)).trans e1
    rw [e2]
    refine V_iload_n (pc := 43) C (dk k_K_add 22 rfl) rfl ?_
    refine V_callS0 (pc := 44) C (dk k_K_add 23 rfl) lk_K_25 cm_F_put sm_F_put (c_put _ _ _ (116) 6 _ _ kq_116 (by decide) (by omega) (by omega) hv) rfl rfl (Nat.le_of_ble_eq_true rfl) (Rm.mono hRm (by decide) (by decide)) ?_
    refine V_R (fun hR => ?_)
    refine V_aload_n (pc := 47) C (dk k_K_add 24 rfl) rfl ?_
    refine V_dupR (pc := 48) C (dk k_K_add 25 rfl) ?_
    refine V_geti (pc := 49) (ji := 3) C (dk k_K_add 26 rfl) fl_K_21 kq_113 (by decide) rfl rfl ?_
    have e3 : up (up (up σ 114 (σ 113 3) t) 115 (σ 113 3) n) 116 (σ 113 3) v 113 3 = σ 113 3 := (up_ne1 _ _ _ _ (by decide)).trans e2
    rw [e3]
    refine V_iconst (pc := 52) C (dk k_K_add 27 rfl) rfl ?_
    refine V_iadd (pc := 53) C (dk k_K_add 28 rfl) ?_
    refine V_puti (pc := 54) (ji := 3) C (dk k_K_add 29 rfl) fl_K_21 fw_3_3 kq_113 (by decide) rfl rfl ⟨by omega, by omega⟩ ?_
    refine V_R (fun hR => ?_)
    refine V_iconst (pc := 57) C (dk k_K_add 30 rfl) rfl ?_
    refine V_zret (pc := 58) C (by first | exact Or.inl rfl | exact Or.inr rfl | (split <;> first | exact Or.inl rfl | exact Or.inr rfl) | omega) E (dk k_K_add 31 rfl) ?_
    first | (rw [if_pos (by assumption), if_pos (by assumption)]; exact ⟨rfl, rfl⟩) | (rw [if_neg (by omega), if_neg (by omega)]; exact ⟨rfl, rfl⟩)
  · skip
    refine V_iconst (pc := 9) C (dk k_K_add 4 rfl) rfl ?_
    refine V_zret (pc := 10) C (by first | exact Or.inl rfl | exact Or.inr rfl | (split <;> first | exact Or.inl rfl | exact Or.inr rfl) | omega) E (dk k_K_add 5 rfl) ?_
    first | (rw [if_pos (by assumption), if_pos (by assumption)]; exact ⟨rfl, rfl⟩) | (rw [if_neg (by omega), if_neg (by omega)]; exact ⟨rfl, rfl⟩)

def i_M_slotAt : List (Nat × (Instr × Nat)) := [(0, (.iload_n 1, 1)), (1, (.ifCond .lt 21, 3)), (4, (.iload_n 1, 1)), (5, (.aload_n 0, 1)), (6, (.getfield 11, 3)), (9, (.arraylength, 1)), (10, (.if_icmp .ge 12, 3)), (13, (.aload_n 0, 1)), (14, (.getfield 11, 3)), (17, (.iload_n 1, 1)), (18, (.aaload, 1)), (19, (.goto 4, 3)), (22, (.aconst_null, 1)), (23, (.areturn, 1))]
theorem k_M_slotAt : i_M_slotAt.all (fun q => decide (decode b_M_slotAt q.1 = .ok q.2)) = true := by decide +kernel

set_option maxHeartbeats 1000000 in
set_option maxRecDepth 20000 in
theorem c_M_slotAt (l : Launch) (G : GE) (σ : Wd) (m : Nat) (i : Int) (hm : kd m = 4) (hi0 : 0 ≤ i) (hi1 : i < 8) : Ct l G y_M_slotAt b_M_slotAt 2 (some (.object "ForgoneShop$Stand")) 0 0 [vR m, vI i] σ (Dt (some (vR (m + 2 + 5 * i.toNat))) σ) := by
  refine Ct.of cm_M_slotAt (Nat.le_of_ble_eq_true rfl) ?_
  intro X hXl hXG hXN hRm C E
  subst hXl; subst hXG
  show V X 0 [some (vR m), some (vI i)] [] σ
  refine V_R (fun hR => ?_)
  obtain ⟨hm_1, hmj⟩ := kd_M hm
  refine V_iload_n (pc := 0) C (dk k_M_slotAt 0 rfl) rfl ?_
  refine V_iflt (pc := 1) C (dk k_M_slotAt 1 rfl) 22 rfl (by first | exact hR _ _ | with_reducible assumption | exact ⟨by omega, by omega⟩) (fun h1 => ?_) (fun h1 => ?_)
  · skip
    exfalso; omega
  · skip
    refine V_iload_n (pc := 4) C (dk k_M_slotAt 2 rfl) rfl ?_
    refine V_aload_n (pc := 5) C (dk k_M_slotAt 3 rfl) rfl ?_
    refine V_getr (pc := 6) (o2 := m + 1) C (dk k_M_slotAt 4 rfl) fl_M_11 hm (by decide) rfl (by decide) rfl ?_
    refine V_alen (pc := 9) C (dk k_M_slotAt 5 rfl) (n := 8) (Or.inr (Or.inr ⟨hm_1, rfl⟩)) (by decide) rfl ?_
    refine V_icmpge (pc := 10) C (dk k_M_slotAt 6 rfl) 22 rfl (by first | exact hR _ _ | with_reducible assumption | exact ⟨by omega, by omega⟩) (by first | exact hR _ _ | with_reducible assumption | exact ⟨by omega, by omega⟩) (fun h2 => ?_) (fun h2 => ?_)
    · skip
      exfalso; omega
    · skip
      refine V_aload_n (pc := 13) C (dk k_M_slotAt 7 rfl) rfl ?_
      refine V_getr (pc := 14) (o2 := m + 1) C (dk k_M_slotAt 8 rfl) fl_M_11 hm (by decide) rfl (by decide) rfl ?_
      refine V_iload_n (pc := 17) C (dk k_M_slotAt 9 rfl) rfl ?_
      refine V_aald (pc := 18) (o2 := m + 2 + 5 * i.toNat) C (dk k_M_slotAt 10 rfl) hm_1 (by omega) (by omega) (by omega) ?_
      refine V_goto (pc := 19) C (dk k_M_slotAt 11 rfl) 23 rfl ?_
      refine V_aret (pc := 23) C E (dk k_M_slotAt 13 rfl) ?_
      exact ⟨rfl, rfl⟩
end
section
/-- the memory m holds these, the latest first -/
def MmR (σ : Wd) (m : Nat) (π : PL) (l : List ST) : Prop := kd m = 4 ∧ 0 ≤ σ m 1 ∧ σ m 1 < 8 ∧ σ m 2 = l.length ∧ l.length ≤ 8 ∧ ∀ (k : Nat) (y : ST), l[k]? = some y → StR σ (m + 2 + 5 * ((σ m 1 + 7 - k) % 8).toNat) π y
theorem MmR.push {σ τ : Wd} {m s sl : Nat} {π : PL} {x : ST} {l : List ST} (ok : PLok π) (h : MmR σ m π l) (hx : StR σ s π x) (esl : sl = m + 2 + 5 * (σ m 1).toNat)
    (hc : τ sl 0 = σ s 0 ∧ τ sl 1 = σ s 1 ∧ (∀ i : Int, 0 ≤ i → i < 5 → τ (sl + 1) i = σ (s + 1) i ∧ τ (sl + 2) i = σ (s + 2) i) ∧ (∀ i : Int, 0 ≤ i → i < 8 → τ (sl + 3) i = σ (s + 3) i ∧ τ (sl + 4) i = σ (s + 4) i)) (hf : Fr sl 5 σ τ) :
    MmR (up (up τ m 1 ((σ m 1 + 1) % 8)) m 2 (min (σ m 2 + 1) 8)) m π ((x :: l).take 8) := by
  obtain ⟨h0, h1, h2, h3, h4, h5⟩ := h
  obtain ⟨hm1, hmj⟩ := kd_M h0
  have e1 : up (up τ m 1 ((σ m 1 + 1) % 8)) m 2 (min (σ m 2 + 1) 8) m 1 = (σ m 1 + 1) % 8 := by
    simp (disch := omega) only [up_ne2, up_at]
  have e2 : up (up τ m 1 ((σ m 1 + 1) % 8)) m 2 (min (σ m 2 + 1) 8) m 2 = min (σ m 2 + 1) 8 := up_at _ _ _ _
  have e3 : ∀ k, k ≠ m → up (up τ m 1 ((σ m 1 + 1) % 8)) m 2 (min (σ m 2 + 1) 8) k = τ k := fun k hk => by rw [up_row _ _ _ hk, up_row _ _ _ hk]
  have hlen : ((x :: l).take 8).length = min 8 (l.length + 1) := by rw [List.length_take, List.length_cons]
  refine ⟨h0, by rw [e1]; omega, by rw [e1]; omega, by rw [e2, h3, hlen]; omega, by rw [hlen]; omega, fun k y hk => ?_⟩
  rw [e1]
  have hk8 : k < 8 := by
    have := (List.getElem?_eq_some_iff.mp hk).1
    omega
  rw [List.getElem?_take, if_pos hk8] at hk
  rcases k with _ | k
  · simp at hk
    subst hk
    have ei : m + 2 + 5 * (((σ m 1 + 1) % 8 + 7 - ((0 : Nat) : Int)) % 8).toNat = sl := by rw [esl]; omega
    rw [ei]
    have hs7 : kd sl = 7 := by rw [esl]; exact hmj _ (by omega)
    exact (StR.copy hs7 ok hx hc.1 hc.2.1 hc.2.2.1 hc.2.2.2).fr (fun k a b => e3 k (by omega))
  · have hk2 : l[k]? = some y := by simpa using hk
    have ei : m + 2 + 5 * (((σ m 1 + 1) % 8 + 7 - ((k + 1 : Nat) : Int)) % 8).toNat = m + 2 + 5 * ((σ m 1 + 7 - (k : Int)) % 8).toNat := by omega
    rw [ei]
    refine (h5 k y hk2).fr (fun j a b => ?_)
    rw [e3 j (by omega)]
    exact hf j (by omega)
theorem MmR.pop {σ τ : Wd} {m s : Nat} {π : PL} {y : ST} {l : List ST} (h : MmR σ m π (y :: l)) (hs : kd s = 7) (hsm : s + 5 ≤ m ∨ m + 42 ≤ s) (hf : Fr s 5 σ τ) :
    MmR (up (up τ m 1 ((σ m 1 + 7) % 8)) m 2 (σ m 2 - 1)) m π l := by
  obtain ⟨h0, h1, h2, h3, h4, h5⟩ := h
  have e1 : up (up τ m 1 ((σ m 1 + 7) % 8)) m 2 (σ m 2 - 1) m 1 = (σ m 1 + 7) % 8 := by
    simp (disch := omega) only [up_ne2, up_at]
  have e2 : up (up τ m 1 ((σ m 1 + 7) % 8)) m 2 (σ m 2 - 1) m 2 = σ m 2 - 1 := up_at _ _ _ _
  have e3 : ∀ k, k ≠ m → up (up τ m 1 ((σ m 1 + 7) % 8)) m 2 (σ m 2 - 1) k = τ k := fun k hk => by rw [up_row _ _ _ hk, up_row _ _ _ hk]
  rw [List.length_cons] at h3 h4
  refine ⟨h0, by rw [e1]; omega, by rw [e1]; omega, by rw [e2, h3]; omega, by omega, fun k z hk => ?_⟩
  rw [e1]
  have hk8 : k < l.length := (List.getElem?_eq_some_iff.mp hk).1
  have hk2 : (y :: l)[k + 1]? = some z := by simpa using hk
  have ei : m + 2 + 5 * (((σ m 1 + 7) % 8 + 7 - (k : Int)) % 8).toNat = m + 2 + 5 * ((σ m 1 + 7 - ((k + 1 : Nat) : Int)) % 8).toNat := by omega
  rw [ei]
  refine (h5 (k + 1) z hk2).fr (fun j a b => ?_)
  rw [e3 j (by omega)]
  exact hf j (by omega)

def i_M_push : List (Nat × (Instr × Nat)) := [(0, (.aload_n 0, 1)), (1, (.aload_n 0, 1)), (2, (.getfield 16, 3)), (5, (.invokevirtual 20, 3)), (8, (.astore_n 2, 1)), (9, (.aload_n 2, 1)), (10, (.ifnonnull 4, 3)), (13, (.return_, 1)), (14, (.aload_n 2, 1)), (15, (.aload_n 1, 1)), (16, (.invokevirtual 24, 3)), (19, (.aload_n 0, 1)), (20, (.aload_n 0, 1)), (21, (.getfield 16, 3)), (24, (.iconst 1, 1)), (25, (.iadd, 1)), (26, (.bipush 8, 2)), (28, (.irem, 1)), (29, (.putfield 16, 3)), (32, (.aload_n 0, 1)), (33, (.aload_n 0, 1)), (34, (.getfield 28, 3)), (37, (.iconst 1, 1)), (38, (.iadd, 1)), (39, (.bipush 8, 2)), (41, (.invokestatic 31, 3)), (44, (.putfield 28, 3)), (47, (.return_, 1))]
theorem k_M_push : i_M_push.all (fun q => decide (decode b_M_push q.1 = .ok q.2)) = true := by decide +kernel

set_option maxHeartbeats 1000000 in
set_option maxRecDepth 20000 in
theorem c_M_push (l : Launch) (G : GE) (σ : Wd) (m s : Nat) (π : PL) (x : ST) (ys : List ST) (ok : PLok π) (hM : MmR σ m π ys) (hx : StR σ s π x) (hsm : s + 5 ≤ m ∨ m + 42 ≤ s) : Ct l G y_M_push b_M_push 3 (none) 3 65 [vR m, vR s] σ (Rt none (fun σ' => MmR σ' m π ((x :: ys).take 8) ∧ Fr m 42 σ σ')) := by
  refine Ct.of cm_M_push (Nat.le_of_ble_eq_true rfl) ?_
  intro X hXl hXG hXN hRm C E
  subst hXl; subst hXG
  show V X 0 [some (vR m), some (vR s), none] [] σ
  refine V_R (fun hR => ?_)
  obtain ⟨hm, m1, m2, m3, m4, m5⟩ := id hM
  have hs := hx.1
  obtain ⟨hm_1, hmj⟩ := kd_M hm
  obtain ⟨sl, esl⟩ : ∃ sl, sl = m + 2 + 5 * (σ m 1).toNat := ⟨_, rfl⟩
  have hsl : kd sl = 7 := by rw [esl]; exact hmj _ (by omega)
  refine V_aload_n (pc := 0) C (dk k_M_push 0 rfl) rfl ?_
  refine V_aload_n (pc := 1) C (dk k_M_push 1 rfl) rfl ?_
  refine V_geti (pc := 2) (ji := 1) C (dk k_M_push 2 rfl) fl_M_16 hm (by decide) rfl rfl ?_
  refine V_callV (pc := 5) C (dk k_M_push 3 rfl) lk_M_20 cm_M_slotAt vm_M_slotAt (c_M_slotAt _ _ _ m (σ m 1) hm m1 m2) hm rfl rfl rfl (Nat.le_of_ble_eq_true rfl) (Rm.mono hRm (by decide) (by decide)) ?_
  rw [← esl]
  refine V_astore_n (pc := 8) C (dk k_M_push 4 rfl) (by rw [hXN]; decide) ?_
  dsimp only [lst, lstL, lz, kill, Fin.val, Nat.reduceAdd]
  refine V_aload_n (pc := 9) C (dk k_M_push 5 rfl) rfl ?_
  refine V_ifnonnull (pc := 10) C (dk k_M_push 6 rfl) 14 rfl ?_
  refine V_aload_n (pc := 14) C (dk k_M_push 8 rfl) rfl ?_
  refine V_aload_n (pc := 15) C (dk k_M_push 9 rfl) rfl ?_
  refine V_callV0r (pc := 16) C (dk k_M_push 10 rfl) lk_M_24 cm_S_copyFrom vm_S_copyFrom (c_S_copyFrom _ _ _ sl s hsl hs (by omega)) hsl rfl rfl rfl (Nat.le_of_ble_eq_true rfl) (Rm.mono hRm (by decide) (by decide)) (fun τ1 hq1 => ?_)
  refine V_R (fun hR => ?_)
  have em : τ1 m = σ m := hq1.2 m (Or.inl (by omega))
  refine V_aload_n (pc := 19) C (dk k_M_push 11 rfl) rfl ?_
  refine V_aload_n (pc := 20) C (dk k_M_push 12 rfl) rfl ?_
  refine V_geti (pc := 21) (ji := 1) C (dk k_M_push 13 rfl) fl_M_16 hm (by decide) rfl rfl ?_
  rw [em]
  refine V_iconst (pc := 24) C (dk k_M_push 14 rfl) rfl ?_
  refine V_iadd (pc := 25) C (dk k_M_push 15 rfl) ?_
  refine V_bipush (pc := 26) (n' := 8) C (dk k_M_push 16 rfl) rfl ?_
  refine V_irem (pc := 28) C (dk k_M_push 17 rfl) ⟨by omega, by omega⟩ ⟨by omega, by omega⟩ (by omega) (by omega) ?_
  refine V_puti (pc := 29) (ji := 1) C (dk k_M_push 18 rfl) fl_M_16 fw_4_1 hm (by decide) rfl rfl ⟨by omega, by omega⟩ ?_
  refine V_R (fun hR => ?_)
  refine V_aload_n (pc := 32) C (dk k_M_push 19 rfl) rfl ?_
  refine V_aload_n (pc := 33) C (dk k_M_push 20 rfl) rfl ?_
  refine V_geti (pc := 34) (ji := 2) C (dk k_M_push 21 rfl) fl_M_28 hm (by decide) rfl rfl ?_
  have em2 : up τ1 m 1 ((σ m 1 + 1) % 8) m 2 = σ m 2 := by rw [up_ne2 _ (by decide), em]
  rw [em2]
  refine V_iconst (pc := 37) C (dk k_M_push 22 rfl) rfl ?_
  refine V_iadd (pc := 38) C (dk k_M_push 23 rfl) ?_
  refine V_bipush (pc := 39) (n' := 8) C (dk k_M_push 24 rfl) rfl ?_
  refine V_mmin (pc := 41) C (dk k_M_push 25 rfl) ml_M_31 (by first | exact ⟨by omega, by omega⟩ | assumption) (by first | exact ⟨by omega, by omega⟩ | assumption) (Nat.le_of_ble_eq_true rfl) (Rm.mono hRm (by decide) (by decide)) ?_
  refine V_puti (pc := 44) (ji := 2) C (dk k_M_push 26 rfl) fl_M_28 fw_4_2 hm (by decide) rfl rfl ⟨by omega, by omega⟩ ?_
  refine V_R (fun hR => ?_)
  refine V_vret (pc := 47) C E (dk k_M_push 27 rfl) ?_
  refine ⟨rfl, hM.push ok hx esl hq1.1 hq1.2, ((hq1.2.wide (by omega) (by omega)).up _ _ (by omega) (by omega)).up _ _ (by omega) (by omega)⟩

def i_M_popInto : List (Nat × (Instr × Nat)) := [(0, (.aload_n 0, 1)), (1, (.getfield 16, 3)), (4, (.bipush 8, 2)), (6, (.iadd, 1)), (7, (.iconst 1, 1)), (8, (.isub, 1)), (9, (.bipush 8, 2)), (11, (.irem, 1)), (12, (.istore_n 2, 1)), (13, (.aload_n 0, 1)), (14, (.iload_n 2, 1)), (15, (.invokevirtual 20, 3)), (18, (.astore_n 3, 1)), (19, (.aload_n 0, 1)), (20, (.getfield 28, 3)), (23, (.ifCond .le 7, 3)), (26, (.aload_n 3, 1)), (27, (.ifnonnull 5, 3)), (30, (.iconst 0, 1)), (31, (.ireturn, 1)), (32, (.aload_n 1, 1)), (33, (.aload_n 3, 1)), (34, (.invokevirtual 24, 3)), (37, (.aload_n 0, 1)), (38, (.iload_n 2, 1)), (39, (.putfield 16, 3)), (42, (.aload_n 0, 1)), (43, (.dup, 1)), (44, (.getfield 28, 3)), (47, (.iconst 1, 1)), (48, (.isub, 1)), (49, (.putfield 28, 3)), (52, (.iconst 1, 1)), (53, (.ireturn, 1))]
theorem k_M_popInto : i_M_popInto.all (fun q => decide (decode b_M_popInto q.1 = .ok q.2)) = true := by decide +kernel

set_option maxHeartbeats 1000000 in
set_option maxRecDepth 20000 in
theorem c_M_popInto (l : Launch) (G : GE) (σ : Wd) (m s : Nat) (π : PL) (y : ST) (ys : List ST) (ok : PLok π) (hM : MmR σ m π (y :: ys)) (hs : kd s = 7) (hsm : s + 5 ≤ m ∨ m + 42 ≤ s) : Ct l G y_M_popInto b_M_popInto 4 (some (.boolean)) 3 65 [vR m, vR s] σ (Rt (some (vI 1)) (fun σ' => MmR σ' m π ys ∧ StR σ' s π y ∧ ∀ k, k ≠ m → (k < s ∨ s + 5 ≤ k) → σ' k = σ k)) := by
  refine Ct.of cm_M_popInto (Nat.le_of_ble_eq_true rfl) ?_
  intro X hXl hXG hXN hRm C E
  subst hXl; subst hXG
  show V X 0 [some (vR m), some (vR s), none, none] [] σ
  refine V_R (fun hR => ?_)
  obtain ⟨hm, m1, m2, m3, m4, m5⟩ := id hM
  obtain ⟨hm_1, hmj⟩ := kd_M hm
  obtain ⟨sl, esl⟩ : ∃ sl, sl = m + 2 + 5 * ((σ m 1 + 7) % 8).toNat := ⟨_, rfl⟩
  have hsl : kd sl = 7 := by rw [esl]; exact hmj _ (by omega)
  rw [List.length_cons] at m3 m4
  have hy := m5 0 y rfl
  have e0 : m + 2 + 5 * ((σ m 1 + 7 - ((0 : Nat) : Int)) % 8).toNat = sl := by rw [esl]; omega
  rw [e0] at hy
  refine V_aload_n (pc := 0) C (dk k_M_popInto 0 rfl) rfl ?_
  refine V_geti (pc := 1) (ji := 1) C (dk k_M_popInto 1 rfl) fl_M_16 hm (by decide) rfl rfl ?_
  refine V_bipush (pc := 4) (n' := 8) C (dk k_M_popInto 2 rfl) rfl ?_
  refine V_iadd (pc := 6) C (dk k_M_popInto 3 rfl) ?_
  refine V_iconst (pc := 7) C (dk k_M_popInto 4 rfl) rfl ?_
  refine V_isub (pc := 8) C (dk k_M_popInto 5 rfl) ?_
  refine V_bipush (pc := 9) (n' := 8) C (dk k_M_popInto 6 rfl) rfl ?_
  rw [show σ m 1 + 8 - 1 = σ m 1 + 7 by omega]
  refine V_irem (pc := 11) C (dk k_M_popInto 7 rfl) ⟨by omega, by omega⟩ ⟨by omega, by omega⟩ (by omega) (by omega) ?_
  refine V_istore_n (pc := 12) C (dk k_M_popInto 8 rfl) (by rw [hXN]; decide) ?_
  dsimp only [lst, lstL, lz, kill, Fin.val, Nat.reduceAdd]
  refine V_aload_n (pc := 13) C (dk k_M_popInto 9 rfl) rfl ?_
  refine V_iload_n (pc := 14) C (dk k_M_popInto 10 rfl) rfl ?_
  refine V_callV (pc := 15) C (dk k_M_popInto 11 rfl) lk_M_20 cm_M_slotAt vm_M_slotAt (c_M_slotAt _ _ _ m ((σ m 1 + 7) % 8) hm (by omega) (by omega)) hm rfl rfl rfl (Nat.le_of_ble_eq_true rfl) (Rm.mono hRm (by decide) (by decide)) ?_
  rw [← esl]
  refine V_astore_n (pc := 18) C (dk k_M_popInto 12 rfl) (by rw [hXN]; decide) ?_
  dsimp only [lst, lstL, lz, kill, Fin.val, Nat.reduceAdd]
  refine V_aload_n (pc := 19) C (dk k_M_popInto 13 rfl) rfl ?_
  refine V_geti (pc := 20) (ji := 2) C (dk k_M_popInto 14 rfl) fl_M_28 hm (by decide) rfl rfl ?_
  refine V_ifle (pc := 23) C (dk k_M_popInto 15 rfl) 30 rfl (by first | exact hR _ _ | with_reducible assumption | exact ⟨by omega, by omega⟩) (fun h1 => ?_) (fun h1 => ?_)
  · skip
    exfalso; omega
  · skip
    refine V_aload_n (pc := 26) C (dk k_M_popInto 16 rfl) rfl ?_
    refine V_ifnonnull (pc := 27) C (dk k_M_popInto 17 rfl) 32 rfl ?_
    refine V_aload_n (pc := 32) C (dk k_M_popInto 20 rfl) rfl ?_
    refine V_aload_n (pc := 33) C (dk k_M_popInto 21 rfl) rfl ?_
    refine V_callV0r (pc := 34) C (dk k_M_popInto 22 rfl) lk_M_24 cm_S_copyFrom vm_S_copyFrom (c_S_copyFrom _ _ _ s sl hs hsl (by omega)) hs rfl rfl rfl (Nat.le_of_ble_eq_true rfl) (Rm.mono hRm (by decide) (by decide)) (fun τ1 hq1 => ?_)
    refine V_R (fun hR => ?_)
    have em : τ1 m = σ m := hq1.2 m (by omega)
    refine V_aload_n (pc := 37) C (dk k_M_popInto 23 rfl) rfl ?_
    refine V_iload_n (pc := 38) C (dk k_M_popInto 24 rfl) rfl ?_
    refine V_puti (pc := 39) (ji := 1) C (dk k_M_popInto 25 rfl) fl_M_16 fw_4_1 hm (by decide) rfl rfl ⟨by omega, by omega⟩ ?_
    refine V_R (fun hR => ?_)
    refine V_aload_n (pc := 42) C (dk k_M_popInto 26 rfl) rfl ?_
    refine V_dupR (pc := 43) C (dk k_M_popInto 27 rfl) ?_
    refine V_geti (pc := 44) (ji := 2) C (dk k_M_popInto 28 rfl) fl_M_28 hm (by decide) rfl rfl ?_
    have em2 : up τ1 m 1 ((σ m 1 + 7) % 8) m 2 = σ m 2 := by rw [up_ne2 _ (by decide), em]
    rw [em2]
    refine V_iconst (pc := 47) C (dk k_M_popInto 29 rfl) rfl ?_
    refine V_isub (pc := 48) C (dk k_M_popInto 30 rfl) ?_
    refine V_puti (pc := 49) (ji := 2) C (dk k_M_popInto 31 rfl) fl_M_28 fw_4_2 hm (by decide) rfl rfl ⟨by omega, by omega⟩ ?_
    refine V_R (fun hR => ?_)
    refine V_iconst (pc := 52) C (dk k_M_popInto 32 rfl) rfl ?_
    refine V_zret (pc := 53) C (by first | exact Or.inl rfl | exact Or.inr rfl | (split <;> first | exact Or.inl rfl | exact Or.inr rfl) | omega) E (dk k_M_popInto 33 rfl) ?_
    have hfin : ∀ k, k ≠ m → up (up τ1 m 1 ((σ m 1 + 7) % 8)) m 2 (σ m 2 - 1) k = τ1 k := fun k hk => by rw [up_row _ _ _ hk, up_row _ _ _ hk]
    refine ⟨rfl, hM.pop hs hsm hq1.2, (StR.copy hs ok hy hq1.1.1 hq1.1.2.1 hq1.1.2.2.1 hq1.1.2.2.2).fr (fun k a b => hfin k (by omega)), fun k hk1 hk2 => ?_⟩
    rw [hfin k hk1]; exact hq1.2 k hk2

set_option maxHeartbeats 1000000 in
set_option maxRecDepth 20000 in
theorem c_M_popInto0 (l : Launch) (G : GE) (σ : Wd) (m s : Nat) (π : PL) (hM : MmR σ m π []) : Ct l G y_M_popInto b_M_popInto 4 (some (.boolean)) 3 65 [vR m, vR s] σ (Dt (some (vI 0)) σ) := by
  refine Ct.of cm_M_popInto (Nat.le_of_ble_eq_true rfl) ?_
  intro X hXl hXG hXN hRm C E
  subst hXl; subst hXG
  show V X 0 [some (vR m), some (vR s), none, none] [] σ
  refine V_R (fun hR => ?_)
  obtain ⟨hm, m1, m2, m3, m4, m5⟩ := id hM
  obtain ⟨hm_1, hmj⟩ := kd_M hm
  obtain ⟨sl, esl⟩ : ∃ sl, sl = m + 2 + 5 * ((σ m 1 + 7) % 8).toNat := ⟨_, rfl⟩
  have hsl : kd sl = 7 := by rw [esl]; exact hmj _ (by omega)
  refine V_aload_n (pc := 0) C (dk k_M_popInto 0 rfl) rfl ?_
  refine V_geti (pc := 1) (ji := 1) C (dk k_M_popInto 1 rfl) fl_M_16 hm (by decide) rfl rfl ?_
  refine V_bipush (pc := 4) (n' := 8) C (dk k_M_popInto 2 rfl) rfl ?_
  refine V_iadd (pc := 6) C (dk k_M_popInto 3 rfl) ?_
  refine V_iconst (pc := 7) C (dk k_M_popInto 4 rfl) rfl ?_
  refine V_isub (pc := 8) C (dk k_M_popInto 5 rfl) ?_
  refine V_bipush (pc := 9) (n' := 8) C (dk k_M_popInto 6 rfl) rfl ?_
  rw [show σ m 1 + 8 - 1 = σ m 1 + 7 by omega]
  refine V_irem (pc := 11) C (dk k_M_popInto 7 rfl) ⟨by omega, by omega⟩ ⟨by omega, by omega⟩ (by omega) (by omega) ?_
  refine V_istore_n (pc := 12) C (dk k_M_popInto 8 rfl) (by rw [hXN]; decide) ?_
  dsimp only [lst, lstL, lz, kill, Fin.val, Nat.reduceAdd]
  refine V_aload_n (pc := 13) C (dk k_M_popInto 9 rfl) rfl ?_
  refine V_iload_n (pc := 14) C (dk k_M_popInto 10 rfl) rfl ?_
  refine V_callV (pc := 15) C (dk k_M_popInto 11 rfl) lk_M_20 cm_M_slotAt vm_M_slotAt (c_M_slotAt _ _ _ m ((σ m 1 + 7) % 8) hm (by omega) (by omega)) hm rfl rfl rfl (Nat.le_of_ble_eq_true rfl) (Rm.mono hRm (by decide) (by decide)) ?_
  rw [← esl]
  refine V_astore_n (pc := 18) C (dk k_M_popInto 12 rfl) (by rw [hXN]; decide) ?_
  dsimp only [lst, lstL, lz, kill, Fin.val, Nat.reduceAdd]
  refine V_aload_n (pc := 19) C (dk k_M_popInto 13 rfl) rfl ?_
  refine V_geti (pc := 20) (ji := 2) C (dk k_M_popInto 14 rfl) fl_M_28 hm (by decide) rfl rfl ?_
  refine V_ifle (pc := 23) C (dk k_M_popInto 15 rfl) 30 rfl (by first | exact hR _ _ | with_reducible assumption | exact ⟨by omega, by omega⟩) (fun h1 => ?_) (fun h1 => ?_)
  · skip
    refine V_iconst (pc := 30) C (dk k_M_popInto 18 rfl) rfl ?_
    refine V_zret (pc := 31) C (by first | exact Or.inl rfl | exact Or.inr rfl | (split <;> first | exact Or.inl rfl | exact Or.inr rfl) | omega) E (dk k_M_popInto 19 rfl) ?_
    first | exact ⟨rfl, rfl⟩ | (refine ⟨?_, rfl⟩; first | (rw [if_pos (by omega)]; done) | (rw [if_neg (by omega)]; done))
  · skip
    exfalso; rw [List.length_nil] at m3; omega

/-- the shop's plan in use -/
def FR (σ : Wd) (pl : Nat) (π : PL) : Prop := (σ 0 2).toNat = pl ∧ PlR σ pl π
/-- how near by a kind behind so many days -/
def cel (k n d : Int) : Nat → Int
  | 0 => n
  | i + 1 => nx k (cel k n d i) (d + i)
theorem nx_b {k n d : Int} (h0 : 0 ≤ n) (h1 : n ≤ 99) : 0 ≤ nx k n d ∧ nx k n d ≤ 99 := by
  unfold nx
  repeat' split
  all_goals omega
theorem cel_b {k n d : Int} (h0 : 0 ≤ n) (h1 : n ≤ 99) : ∀ i : Nat, 0 ≤ cel k n d i ∧ cel k n d i ≤ 99
  | 0 => ⟨h0, h1⟩
  | i + 1 => nx_b (cel_b h0 h1 i).1 (cel_b h0 h1 i).2
def lkq (t k n d : Int) (q : Int × (Int × Int)) : Bool := !(decide (q.1 = t)) || decide (cel k n d q.2.1.toNat = q.2.2)
/-- what is seen -/
def LkR (σ : Wd) (l : List (Int × (Int × Int))) : Prop := σ 113 3 = l.length ∧ l.length ≤ 6 ∧ ∀ (k : Nat) (q : Int × (Int × Int)), l[k]? = some q → σ 114 k = q.1 ∧ σ 115 k = q.2.1 ∧ σ 116 k = q.2.2 ∧ 0 ≤ q.2.1 ∧ q.2.1 ≤ 20 ∧ 0 ≤ q.2.2 ∧ q.2.2 ≤ 99

def i_F_isThing : List (Nat × (Instr × Nat)) := [(0, (.iload_n 1, 1)), (1, (.ifCond .lt 18, 3)), (4, (.iload_n 1, 1)), (5, (.aload_n 0, 1)), (6, (.getfield 26, 3)), (9, (.getfield 196, 3)), (12, (.if_icmp .ge 7, 3)), (15, (.iconst 1, 1)), (16, (.goto 4, 3)), (19, (.iconst 0, 1)), (20, (.ireturn, 1))]
theorem k_F_isThing : i_F_isThing.all (fun q => decide (decode b_F_isThing q.1 = .ok q.2)) = true := by decide +kernel

set_option maxHeartbeats 1000000 in
set_option maxRecDepth 20000 in
theorem c_F_isThing (l : Launch) (G : GE) (σ : Wd) (pl : Nat) (π : PL) (t : Int) (hF : FR σ pl π) (ok : PLok π) (ht : inR t) : Ct l G y_F_isThing b_F_isThing 2 (some (.boolean)) 0 0 [vR 0, vI t] σ (Dt (some (vI (if 0 ≤ t ∧ t < pN π then 1 else 0))) σ) := by
  refine Ct.of cm_F_isThing (Nat.le_of_ble_eq_true rfl) ?_
  intro X hXl hXG hXN hRm C E
  subst hXl; subst hXG
  have ⟨ht_1, ht_2⟩ := ht
  show V X 0 [some (vR 0), some (vI t)] [] σ
  refine V_R (fun hR => ?_)
  obtain ⟨hm_pl, hπ⟩ := hF
  have hπ0 := hπ
  obtain ⟨hpl, e0, e2, e7, e10, eT, eX⟩ := hπ
  obtain ⟨hpl_1, hpl_2, hpl_3, hpl_4, hpl_5, hpl_6⟩ := kd_P hpl
  have ⟨k1, k2, k3, k4, k5, k6, kT, kX⟩ := ok
  refine V_iload_n (pc := 0) C (dk k_F_isThing 0 rfl) rfl ?_
  refine V_iflt (pc := 1) C (dk k_F_isThing 1 rfl) 19 rfl (by first | exact hR _ _ | with_reducible assumption | exact ⟨by omega, by omega⟩) (fun h1 => ?_) (fun h1 => ?_)
  · skip
    refine V_iconst (pc := 19) C (dk k_F_isThing 9 rfl) rfl ?_
    refine V_zret (pc := 20) C (by first | exact Or.inl rfl | exact Or.inr rfl | (split <;> first | exact Or.inl rfl | exact Or.inr rfl) | omega) E (dk k_F_isThing 10 rfl) ?_
    first | exact ⟨rfl, rfl⟩ | (refine ⟨?_, rfl⟩; first | (rw [if_pos (by omega)]; done) | (rw [if_neg (by omega)]; done))
  · skip
    refine V_iload_n (pc := 4) C (dk k_F_isThing 2 rfl) rfl ?_
    refine V_aload_n (pc := 5) C (dk k_F_isThing 3 rfl) rfl ?_
    refine V_getm (pc := 6) (o2 := pl) C (dk k_F_isThing 4 rfl) fl_F_26 kq_0 (by decide) rfl hm_pl ?_
    refine V_geti (pc := 9) (ji := 2) C (dk k_F_isThing 5 rfl) fl_F_196 hpl (by decide) rfl rfl ?_
    refine V_icmpge (pc := 12) C (dk k_F_isThing 6 rfl) 19 rfl (by first | exact hR _ _ | with_reducible assumption | exact ⟨by omega, by omega⟩) (by first | exact hR _ _ | with_reducible assumption | exact ⟨by omega, by omega⟩) (fun h2 => ?_) (fun h2 => ?_)
    · skip
      refine V_iconst (pc := 19) C (dk k_F_isThing 9 rfl) rfl ?_
      refine V_zret (pc := 20) C (by first | exact Or.inl rfl | exact Or.inr rfl | (split <;> first | exact Or.inl rfl | exact Or.inr rfl) | omega) E (dk k_F_isThing 10 rfl) ?_
      first | exact ⟨rfl, rfl⟩ | (refine ⟨?_, rfl⟩; first | (rw [if_pos (by omega)]; done) | (rw [if_neg (by omega)]; done))
    · skip
      refine V_iconst (pc := 15) C (dk k_F_isThing 7 rfl) rfl ?_
      refine V_goto (pc := 16) C (dk k_F_isThing 8 rfl) 20 rfl ?_
      refine V_zret (pc := 20) C (by first | exact Or.inl rfl | exact Or.inr rfl | (split <;> first | exact Or.inl rfl | exact Or.inr rfl) | omega) E (dk k_F_isThing 10 rfl) ?_
      first | exact ⟨rfl, rfl⟩ | (refine ⟨?_, rfl⟩; first | (rw [if_pos (by omega)]; done) | (rw [if_neg (by omega)]; done))

def i_F_isPerson : List (Nat × (Instr × Nat)) := [(0, (.iload_n 1, 1)), (1, (.ifCond .lt 18, 3)), (4, (.iload_n 1, 1)), (5, (.aload_n 0, 1)), (6, (.getfield 26, 3)), (9, (.getfield 106, 3)), (12, (.if_icmp .ge 7, 3)), (15, (.iconst 1, 1)), (16, (.goto 4, 3)), (19, (.iconst 0, 1)), (20, (.ireturn, 1))]
theorem k_F_isPerson : i_F_isPerson.all (fun q => decide (decode b_F_isPerson q.1 = .ok q.2)) = true := by decide +kernel

set_option maxHeartbeats 1000000 in
set_option maxRecDepth 20000 in
theorem c_F_isPerson (l : Launch) (G : GE) (σ : Wd) (pl : Nat) (π : PL) (t : Int) (hF : FR σ pl π) (ok : PLok π) (ht : inR t) : Ct l G y_F_isPerson b_F_isPerson 2 (some (.boolean)) 0 0 [vR 0, vI t] σ (Dt (some (vI (if 0 ≤ t ∧ t < pP π then 1 else 0))) σ) := by
  refine Ct.of cm_F_isPerson (Nat.le_of_ble_eq_true rfl) ?_
  intro X hXl hXG hXN hRm C E
  subst hXl; subst hXG
  have ⟨ht_1, ht_2⟩ := ht
  show V X 0 [some (vR 0), some (vI t)] [] σ
  refine V_R (fun hR => ?_)
  obtain ⟨hm_pl, hπ⟩ := hF
  have hπ0 := hπ
  obtain ⟨hpl, e0, e2, e7, e10, eT, eX⟩ := hπ
  obtain ⟨hpl_1, hpl_2, hpl_3, hpl_4, hpl_5, hpl_6⟩ := kd_P hpl
  have ⟨k1, k2, k3, k4, k5, k6, kT, kX⟩ := ok
  refine V_iload_n (pc := 0) C (dk k_F_isPerson 0 rfl) rfl ?_
  refine V_iflt (pc := 1) C (dk k_F_isPerson 1 rfl) 19 rfl (by first | exact hR _ _ | with_reducible assumption | exact ⟨by omega, by omega⟩) (fun h1 => ?_) (fun h1 => ?_)
  · skip
    refine V_iconst (pc := 19) C (dk k_F_isPerson 9 rfl) rfl ?_
    refine V_zret (pc := 20) C (by first | exact Or.inl rfl | exact Or.inr rfl | (split <;> first | exact Or.inl rfl | exact Or.inr rfl) | omega) E (dk k_F_isPerson 10 rfl) ?_
    first | exact ⟨rfl, rfl⟩ | (refine ⟨?_, rfl⟩; first | (rw [if_pos (by omega)]; done) | (rw [if_neg (by omega)]; done))
  · skip
    refine V_iload_n (pc := 4) C (dk k_F_isPerson 2 rfl) rfl ?_
    refine V_aload_n (pc := 5) C (dk k_F_isPerson 3 rfl) rfl ?_
    refine V_getm (pc := 6) (o2 := pl) C (dk k_F_isPerson 4 rfl) fl_F_26 kq_0 (by decide) rfl hm_pl ?_
    refine V_geti (pc := 9) (ji := 0) C (dk k_F_isPerson 5 rfl) fl_F_106 hpl (by decide) rfl rfl ?_
    refine V_icmpge (pc := 12) C (dk k_F_isPerson 6 rfl) 19 rfl (by first | exact hR _ _ | with_reducible assumption | exact ⟨by omega, by omega⟩) (by first | exact hR _ _ | with_reducible assumption | exact ⟨by omega, by omega⟩) (fun h2 => ?_) (fun h2 => ?_)
    · skip
      refine V_iconst (pc := 19) C (dk k_F_isPerson 9 rfl) rfl ?_
      refine V_zret (pc := 20) C (by first | exact Or.inl rfl | exact Or.inr rfl | (split <;> first | exact Or.inl rfl | exact Or.inr rfl) | omega) E (dk k_F_isPerson 10 rfl) ?_
      first | exact ⟨rfl, rfl⟩ | (refine ⟨?_, rfl⟩; first | (rw [if_pos (by omega)]; done) | (rw [if_neg (by omega)]; done))
    · skip
      refine V_iconst (pc := 15) C (dk k_F_isPerson 7 rfl) rfl ?_
      refine V_goto (pc := 16) C (dk k_F_isPerson 8 rfl) 20 rfl ?_
      refine V_zret (pc := 20) C (by first | exact Or.inl rfl | exact Or.inr rfl | (split <;> first | exact Or.inl rfl | exact Or.inr rfl) | omega) E (dk k_F_isPerson 10 rfl) ?_
      first | exact ⟨rfl, rfl⟩ | (refine ⟨?_, rfl⟩; first | (rw [if_pos (by omega)]; done) | (rw [if_neg (by omega)]; done))

def i_F_priceBehind : List (Nat × (Instr × Nat)) := [(0, (.aload_n 0, 1)), (1, (.getfield 36, 3)), (4, (.getfield 137, 3)), (7, (.iload_n 1, 1)), (8, (.invokestatic 117, 3)), (11, (.aload_n 0, 1)), (12, (.getfield 26, 3)), (15, (.aload_n 0, 1)), (16, (.getfield 36, 3)), (19, (.getfield 149, 3)), (22, (.iload_n 2, 1)), (23, (.iadd, 1)), (24, (.invokevirtual 152, 3)), (27, (.imul, 1)), (28, (.ireturn, 1))]
theorem k_F_priceBehind : i_F_priceBehind.all (fun q => decide (decode b_F_priceBehind q.1 = .ok q.2)) = true := by decide +kernel

set_option maxHeartbeats 1000000 in
set_option maxRecDepth 20000 in
theorem c_F_priceBehind (l : Launch) (G : GE) (σ : Wd) (pl : Nat) (π : PL) (x : ST) (j t n : Int) (hF : FR σ pl π) (ok : PLok π) (hx : StR σ 19 π x) (xk : STok π x j) (hj : j ≤ 200) (ht0 : 0 ≤ t) (ht1 : t < pN π) (hn0 : 0 ≤ n) (hn1 : n ≤ 100) : Ct l G y_F_priceBehind b_F_priceBehind 3 (some (.int)) 2 42 [vR 0, vI t, vI n] σ (Dt (some (vI (sN x t * rt π (sD x + n)))) σ) := by
  refine Ct.of cm_F_priceBehind (Nat.le_of_ble_eq_true rfl) ?_
  intro X hXl hXG hXN hRm C E
  subst hXl; subst hXG
  show V X 0 [some (vR 0), some (vI t), some (vI n)] [] σ
  refine V_R (fun hR => ?_)
  obtain ⟨hm_pl, hπ⟩ := hF
  have hπ0 := hπ
  obtain ⟨hpl, e0, e2, e7, e10, eT, eX⟩ := hπ
  obtain ⟨hpl_1, hpl_2, hpl_3, hpl_4, hpl_5, hpl_6⟩ := kd_P hpl
  have ⟨k1, k2, k3, k4, k5, k6, kT, kX⟩ := ok
  have hx0 := hx
  obtain ⟨hs, f0, f1, fQ, fT⟩ := hx
  obtain ⟨hs_1, hs_2, hs_3, hs_4⟩ := kd_S hs
  have ⟨x1, x2, x3, x4, xQ, xT⟩ := xk
  refine V_aload_n (pc := 0) C (dk k_F_priceBehind 0 rfl) rfl ?_
  refine V_getr (pc := 1) (o2 := 19) C (dk k_F_priceBehind 1 rfl) fl_F_36 kq_0 (by decide) rfl (by decide) rfl ?_
  refine V_getr (pc := 4) (o2 := 22) C (dk k_F_priceBehind 2 rfl) fl_F_137 kq_19 (by decide) rfl (by decide) rfl ?_
  refine V_iload_n (pc := 7) C (dk k_F_priceBehind 3 rfl) rfl ?_
  refine V_callS (pc := 8) C (dk k_F_priceBehind 4 rfl) lk_F_117 cm_F_at sm_F_at (c_at _ _ _ (22) 8 t kq_22 (by decide) ht0 (by omega)) rfl rfl (Nat.le_of_ble_eq_true rfl) (Rm.mono hRm (by decide) (by decide)) ?_
  refine V_aload_n (pc := 11) C (dk k_F_priceBehind 5 rfl) rfl ?_
  refine V_getm (pc := 12) (o2 := pl) C (dk k_F_priceBehind 6 rfl) fl_F_26 kq_0 (by decide) rfl hm_pl ?_
  refine V_aload_n (pc := 15) C (dk k_F_priceBehind 7 rfl) rfl ?_
  refine V_getr (pc := 16) (o2 := 19) C (dk k_F_priceBehind 8 rfl) fl_F_36 kq_0 (by decide) rfl (by decide) rfl ?_
  refine V_geti (pc := 19) (ji := 0) C (dk k_F_priceBehind 9 rfl) fl_F_149 kq_19 (by decide) rfl rfl ?_
  refine V_iload_n (pc := 22) C (dk k_F_priceBehind 10 rfl) rfl ?_
  refine V_iadd (pc := 23) C (dk k_F_priceBehind 11 rfl) ?_
  rw [f0]
  refine V_callV (pc := 24) C (dk k_F_priceBehind 12 rfl) lk_F_152 cm_P_rate vm_P_rate (c_P_rate _ _ _ pl π (sD x + n) hπ0 ok ⟨by omega, by omega⟩ (by omega)) hpl rfl rfl rfl (Nat.le_of_ble_eq_true rfl) (Rm.mono hRm (by decide) (by decide)) ?_
  refine V_imul (pc := 27) C (dk k_F_priceBehind 13 rfl) ?_
  refine V_iret (pc := 28) C E (dk k_F_priceBehind 14 rfl) ?_
  exact ⟨by rw [(fT t ht0 ht1).1], rfl⟩

def i_F_nearInCellar : List (Nat × (Instr × Nat)) := [(0, (.aload_n 0, 1)), (1, (.getfield 36, 3)), (4, (.getfield 137, 3)), (7, (.iload_n 1, 1)), (8, (.invokestatic 117, 3)), (11, (.istore 4, 2)), (13, (.iconst 0, 1)), (14, (.istore 5, 2)), (16, (.iload 5, 2)), (18, (.iload_n 3, 1)), (19, (.if_icmp .ge 27, 3)), (22, (.iload_n 2, 1)), (23, (.iload 4, 2)), (25, (.aload_n 0, 1)), (26, (.getfield 36, 3)), (29, (.getfield 149, 3)), (32, (.iload 5, 2)), (34, (.iadd, 1)), (35, (.invokestatic 266, 3)), (38, (.istore 4, 2)), (40, (.iinc 5 1, 3)), (43, (.goto (-27), 3)), (46, (.iload 4, 2)), (48, (.ireturn, 1))]
theorem k_F_nearInCellar : i_F_nearInCellar.all (fun q => decide (decode b_F_nearInCellar q.1 = .ok q.2)) = true := by decide +kernel

set_option maxHeartbeats 1000000 in
set_option maxRecDepth 20000 in
theorem c_F_nearInCellar (l : Launch) (G : GE) (σ : Wd) (pl : Nat) (π : PL) (x : ST) (j t k n : Int) (hF : FR σ pl π) (ok : PLok π) (hx : StR σ 19 π x) (xk : STok π x j) (hj : j ≤ 200) (ht0 : 0 ≤ t) (ht1 : t < pN π) (hk : inR k) (hn0 : 0 ≤ n) (hn1 : n ≤ 60) : Ct l G y_F_nearInCellar b_F_nearInCellar 6 (some (.int)) 2 48 [vR 0, vI t, vI k, vI n] σ (Dt (some (vI (cel k (sN x t) (sD x) n.toNat))) σ) := by
  refine Ct.of cm_F_nearInCellar (Nat.le_of_ble_eq_true rfl) ?_
  intro X hXl hXG hXN hRm C E
  subst hXl; subst hXG
  have ⟨hk_1, hk_2⟩ := hk
  show V X 0 [some (vR 0), some (vI t), some (vI k), some (vI n), none, none] [] σ
  refine V_R (fun hR => ?_)
  obtain ⟨hm_pl, hπ⟩ := hF
  have hπ0 := hπ
  obtain ⟨hpl, e0, e2, e7, e10, eT, eX⟩ := hπ
  obtain ⟨hpl_1, hpl_2, hpl_3, hpl_4, hpl_5, hpl_6⟩ := kd_P hpl
  have ⟨k1, k2, k3, k4, k5, k6, kT, kX⟩ := ok
  have hx0 := hx
  obtain ⟨hs, f0, f1, fQ, fT⟩ := hx
  obtain ⟨hs_1, hs_2, hs_3, hs_4⟩ := kd_S hs
  have ⟨x1, x2, x3, x4, xQ, xT⟩ := xk
  obtain ⟨fN, fP⟩ := fT t ht0 ht1
  obtain ⟨xN0, xN1, xP0, xP1, xPN⟩ := xT t ht0 ht1
  refine V_aload_n (pc := 0) C (dk k_F_nearInCellar 0 rfl) rfl ?_
  refine V_getr (pc := 1) (o2 := 19) C (dk k_F_nearInCellar 1 rfl) fl_F_36 kq_0 (by decide) rfl (by decide) rfl ?_
  refine V_getr (pc := 4) (o2 := 22) C (dk k_F_nearInCellar 2 rfl) fl_F_137 kq_19 (by decide) rfl (by decide) rfl ?_
  refine V_iload_n (pc := 7) C (dk k_F_nearInCellar 3 rfl) rfl ?_
  refine V_callS (pc := 8) C (dk k_F_nearInCellar 4 rfl) lk_F_117 cm_F_at sm_F_at (c_at _ _ _ (22) 8 t kq_22 (by decide) ht0 (by omega)) rfl rfl (Nat.le_of_ble_eq_true rfl) (Rm.mono hRm (by decide) (by decide)) ?_
  refine V_istore (pc := 11) C (dk k_F_nearInCellar 5 rfl) (by rw [hXN]; decide) ?_
  dsimp only [lst, lstL, lz, kill, Fin.val, Nat.reduceAdd]
  rw [fN]
  refine V_iconst (pc := 13) C (dk k_F_nearInCellar 6 rfl) rfl ?_
  refine V_istore (pc := 14) C (dk k_F_nearInCellar 7 rfl) (by rw [hXN]; decide) ?_
  dsimp only [lst, lstL, lz, kill, Fin.val, Nat.reduceAdd]
  refine V_eq (V_loop (fun i : Nat => (i : Int) ≤ n) (fun i => [some (vR 0), some (vI t), some (vI k), some (vI n), some (vI (cel k (sN x t) (sD x) i)), some (vI (i : Int))]) (fun _ => σ) (fun i => n.toNat - i) (fun i hi ih => ?_) 0 (by omega)) rfl rfl rfl
  have ⟨cb0, cb1⟩ := cel_b (k := k) (d := sD x) xN0 xN1 i
  refine V_iload (pc := 16) C (dk k_F_nearInCellar 8 rfl) rfl ?_
  refine V_iload_n (pc := 18) C (dk k_F_nearInCellar 9 rfl) rfl ?_
  refine V_icmpge (pc := 19) C (dk k_F_nearInCellar 10 rfl) 46 rfl (by first | exact hR _ _ | with_reducible assumption | exact ⟨by omega, by omega⟩) (by first | exact hR _ _ | with_reducible assumption | exact ⟨by omega, by omega⟩) (fun h1 => ?_) (fun h1 => ?_)
  · skip
    refine V_iload (pc := 46) C (dk k_F_nearInCellar 22 rfl) rfl ?_
    refine V_iret (pc := 48) C E (dk k_F_nearInCellar 23 rfl) ?_
    obtain rfl : n = i := by omega
    exact ⟨by rw [Int.toNat_natCast], rfl⟩
  · skip
    refine V_iload_n (pc := 22) C (dk k_F_nearInCellar 11 rfl) rfl ?_
    refine V_iload (pc := 23) C (dk k_F_nearInCellar 12 rfl) rfl ?_
    refine V_aload_n (pc := 25) C (dk k_F_nearInCellar 13 rfl) rfl ?_
    refine V_getr (pc := 26) (o2 := 19) C (dk k_F_nearInCellar 14 rfl) fl_F_36 kq_0 (by decide) rfl (by decide) rfl ?_
    refine V_geti (pc := 29) (ji := 0) C (dk k_F_nearInCellar 15 rfl) fl_F_149 kq_19 (by decide) rfl rfl ?_
    refine V_iload (pc := 32) C (dk k_F_nearInCellar 16 rfl) rfl ?_
    refine V_iadd (pc := 34) C (dk k_F_nearInCellar 17 rfl) ?_
    rw [f0]
    refine V_callS (pc := 35) C (dk k_F_nearInCellar 18 rfl) lk_F_266 cm_F_nearNextDay sm_F_nearNextDay (c_F_nearNextDay _ _ _ k (cel k (sN x t) (sD x) i) (sD x + i) hk ⟨by omega, by omega⟩ ⟨by omega, by omega⟩ (by omega) (by omega)) rfl rfl (Nat.le_of_ble_eq_true rfl) (Rm.mono hRm (by decide) (by decide)) ?_
    refine V_istore (pc := 38) C (dk k_F_nearInCellar 19 rfl) (by rw [hXN]; decide) ?_
    dsimp only [lst, lstL, lz, kill, Fin.val, Nat.reduceAdd]
    refine V_iinc (pc := 40) C (dk k_F_nearInCellar 20 rfl) (by rw [hXN]; decide) rfl ?_
    dsimp only [lst, lstL, lz, kill, Fin.val, Nat.reduceAdd]
    refine V_goto (pc := 43) C (dk k_F_nearInCellar 21 rfl) 16 rfl ?_
    exact ih (i + 1) (by omega) (by omega)

def i_F_fitsLooks : List (Nat × (Instr × Nat)) := [(0, (.iconst 0, 1)), (1, (.istore_n 3, 1)), (2, (.iload_n 3, 1)), (3, (.aload_n 0, 1)), (4, (.getfield 56, 3)), (7, (.getfield 235, 3)), (10, (.if_icmp .ge 57, 3)), (13, (.aload_n 0, 1)), (14, (.getfield 56, 3)), (17, (.getfield 269, 3)), (20, (.iload_n 3, 1)), (21, (.invokestatic 117, 3)), (24, (.iload_n 1, 1)), (25, (.if_icmp .ne 36, 3)), (28, (.aload_n 0, 1)), (29, (.iload_n 1, 1)), (30, (.iload_n 2, 1)), (31, (.aload_n 0, 1)), (32, (.getfield 56, 3)), (35, (.getfield 272, 3)), (38, (.iload_n 3, 1)), (39, (.invokestatic 117, 3)), (42, (.invokevirtual 185, 3)), (45, (.aload_n 0, 1)), (46, (.getfield 56, 3)), (49, (.getfield 275, 3)), (52, (.iload_n 3, 1)), (53, (.invokestatic 117, 3)), (56, (.if_icmp .eq 5, 3)), (59, (.iconst 0, 1)), (60, (.ireturn, 1)), (61, (.iinc 3 1, 3)), (64, (.goto (-62), 3)), (67, (.iconst 1, 1)), (68, (.ireturn, 1))]
theorem k_F_fitsLooks : i_F_fitsLooks.all (fun q => decide (decode b_F_fitsLooks q.1 = .ok q.2)) = true := by decide +kernel

set_option maxHeartbeats 1000000 in
set_option maxRecDepth 20000 in
theorem c_F_fitsLooks (l : Launch) (G : GE) (σ : Wd) (pl : Nat) (π : PL) (x : ST) (j t k : Int) (lk : List (Int × (Int × Int))) (hF : FR σ pl π) (ok : PLok π) (hx : StR σ 19 π x) (xk : STok π x j) (hj : j ≤ 200) (hl : LkR σ lk) (ht0 : 0 ≤ t) (ht1 : t < pN π) (hk : inR k) : Ct l G y_F_fitsLooks b_F_fitsLooks 4 (some (.boolean)) 3 73 [vR 0, vI t, vI k] σ (Dt (some (vI (if lk.all (lkq t k (sN x t) (sD x)) = true then 1 else 0))) σ) := by
  refine Ct.of cm_F_fitsLooks (Nat.le_of_ble_eq_true rfl) ?_
  intro X hXl hXG hXN hRm C E
  subst hXl; subst hXG
  have ⟨hk_1, hk_2⟩ := hk
  show V X 0 [some (vR 0), some (vI t), some (vI k), none] [] σ
  refine V_R (fun hR => ?_)
  have hF0 := hF
  obtain ⟨hm_pl, hπ⟩ := hF
  have hπ0 := hπ
  obtain ⟨hpl, e0, e2, e7, e10, eT, eX⟩ := hπ
  obtain ⟨hpl_1, hpl_2, hpl_3, hpl_4, hpl_5, hpl_6⟩ := kd_P hpl
  have ⟨k1, k2, k3, k4, k5, k6, kT, kX⟩ := ok
  have hx0 := hx
  obtain ⟨hs, f0, f1, fQ, fT⟩ := hx
  obtain ⟨hs_1, hs_2, hs_3, hs_4⟩ := kd_S hs
  have ⟨x1, x2, x3, x4, xQ, xT⟩ := xk
  obtain ⟨l1, l2, l3⟩ := hl
  obtain ⟨xN0, xN1, xP0, xP1, xPN⟩ := xT t ht0 ht1
  refine V_iconst (pc := 0) C (dk k_F_fitsLooks 0 rfl) rfl ?_
  refine V_istore_n (pc := 1) C (dk k_F_fitsLooks 1 rfl) (by rw [hXN]; decide) ?_
  dsimp only [lst, lstL, lz, kill, Fin.val, Nat.reduceAdd]
  refine V_eq (V_loop (fun i : Nat => i ≤ lk.length ∧ (lk.take i).all (lkq t k (sN x t) (sD x)) = true) (fun i => [some (vR 0), some (vI t), some (vI k), some (vI (i : Int))]) (fun _ => σ) (fun i => lk.length - i) (fun i hi ih => ?_) 0 ⟨by omega, rfl⟩) rfl rfl rfl
  obtain ⟨hi, hall⟩ := hi
  refine V_iload_n (pc := 2) C (dk k_F_fitsLooks 2 rfl) rfl ?_
  refine V_aload_n (pc := 3) C (dk k_F_fitsLooks 3 rfl) rfl ?_
  refine V_getr (pc := 4) (o2 := 113) C (dk k_F_fitsLooks 4 rfl) fl_F_56 kq_0 (by decide) rfl (by decide) rfl ?_
  refine V_geti (pc := 7) (ji := 3) C (dk k_F_fitsLooks 5 rfl) fl_F_235 kq_113 (by decide) rfl rfl ?_
  refine V_icmpge (pc := 10) C (dk k_F_fitsLooks 6 rfl) 67 rfl (by first | exact hR _ _ | with_reducible assumption | exact ⟨by omega, by omega⟩) (by first | exact hR _ _ | with_reducible assumption | exact ⟨by omega, by omega⟩) (fun h1 => ?_) (fun h1 => ?_)
  · skip
    refine V_iconst (pc := 67) C (dk k_F_fitsLooks 33 rfl) rfl ?_
    refine V_zret (pc := 68) C (by first | exact Or.inl rfl | exact Or.inr rfl | (split <;> first | exact Or.inl rfl | exact Or.inr rfl) | omega) E (dk k_F_fitsLooks 34 rfl) ?_
    obtain rfl : i = lk.length := by omega
    rw [List.take_length] at hall
    exact ⟨by rw [if_pos hall], rfl⟩
  · skip
    obtain ⟨q, hq⟩ : ∃ q, lk[i]? = some q := ⟨_, List.getElem?_eq_getElem (show i < lk.length by omega)⟩
    obtain ⟨q1, q2, q3, q4, q5, q6, q7⟩ := l3 i q hq
    have ⟨cb0, cb1⟩ := cel_b (k := k) (d := sD x) xN0 xN1 q.2.1.toNat
    refine V_aload_n (pc := 13) C (dk k_F_fitsLooks 7 rfl) rfl ?_
    refine V_getr (pc := 14) (o2 := 113) C (dk k_F_fitsLooks 8 rfl) fl_F_56 kq_0 (by decide) rfl (by decide) rfl ?_
    refine V_getr (pc := 17) (o2 := 114) C (dk k_F_fitsLooks 9 rfl) fl_F_269 kq_113 (by decide) rfl (by decide) rfl ?_
    refine V_iload_n (pc := 20) C (dk k_F_fitsLooks 10 rfl) rfl ?_
    refine V_callS (pc := 21) C (dk k_F_fitsLooks 11 rfl) lk_F_117 cm_F_at sm_F_at (c_at _ _ _ (114) 6 i kq_114 (by decide) (by omega) (by omega)) rfl rfl (Nat.le_of_ble_eq_true rfl) (Rm.mono hRm (by decide) (by decide)) ?_
    refine V_iload_n (pc := 24) C (dk k_F_fitsLooks 12 rfl) rfl ?_
    refine V_icmpne (pc := 25) C (dk k_F_fitsLooks 13 rfl) 61 rfl (by first | exact hR _ _ | with_reducible assumption | exact ⟨by omega, by omega⟩) (by first | exact hR _ _ | with_reducible assumption | exact ⟨by omega, by omega⟩) (fun h2 => ?_) (fun h2 => ?_)
    · skip
      refine V_iinc (pc := 61) C (dk k_F_fitsLooks 31 rfl) (by rw [hXN]; decide) rfl ?_
      dsimp only [lst, lstL, lz, kill, Fin.val, Nat.reduceAdd]
      refine V_goto (pc := 64) C (dk k_F_fitsLooks 32 rfl) 2 rfl ?_
      refine ih (i + 1) ⟨by omega, ?_⟩ (by omega)
      rw [List.take_succ, hq, List.all_append, hall]
      simp only [Option.toList, List.all_cons, List.all_nil, Bool.and_true, Bool.true_and]
      unfold lkq
      first | (rw [decide_eq_false (by omega)]; rfl) | (rw [decide_eq_true (show cel k (sN x t) (sD x) q.2.1.toNat = q.2.2 by omega)]; simp)
    · skip
      refine V_aload_n (pc := 28) C (dk k_F_fitsLooks 14 rfl) rfl ?_
      refine V_iload_n (pc := 29) C (dk k_F_fitsLooks 15 rfl) rfl ?_
      refine V_iload_n (pc := 30) C (dk k_F_fitsLooks 16 rfl) rfl ?_
      refine V_aload_n (pc := 31) C (dk k_F_fitsLooks 17 rfl) rfl ?_
      refine V_getr (pc := 32) (o2 := 113) C (dk k_F_fitsLooks 18 rfl) fl_F_56 kq_0 (by decide) rfl (by decide) rfl ?_
      refine V_getr (pc := 35) (o2 := 115) C (dk k_F_fitsLooks 19 rfl) fl_F_272 kq_113 (by decide) rfl (by decide) rfl ?_
      refine V_iload_n (pc := 38) C (dk k_F_fitsLooks 20 rfl) rfl ?_
      refine V_callS (pc := 39) C (dk k_F_fitsLooks 21 rfl) lk_F_117 cm_F_at sm_F_at (c_at _ _ _ (115) 6 i kq_115 (by decide) (by omega) (by omega)) rfl rfl (Nat.le_of_ble_eq_true rfl) (Rm.mono hRm (by decide) (by decide)) ?_
      rw [q2]
      refine V_callV (pc := 42) C (dk k_F_fitsLooks 22 rfl) lk_F_185 cm_F_nearInCellar vm_F_nearInCellar (c_F_nearInCellar _ _ _ pl π x j t k q.2.1 hF0 ok hx0 xk hj ht0 ht1 hk q4 (by omega)) kq_0 rfl rfl rfl (Nat.le_of_ble_eq_true rfl) (Rm.mono hRm (by decide) (by decide)) ?_
      refine V_aload_n (pc := 45) C (dk k_F_fitsLooks 23 rfl) rfl ?_
      refine V_getr (pc := 46) (o2 := 113) C (dk k_F_fitsLooks 24 rfl) fl_F_56 kq_0 (by decide) rfl (by decide) rfl ?_
      refine V_getr (pc := 49) (o2 := 116) C (dk k_F_fitsLooks 25 rfl) fl_F_275 kq_113 (by decide) rfl (by decide) rfl ?_
      refine V_iload_n (pc := 52) C (dk k_F_fitsLooks 26 rfl) rfl ?_
      refine V_callS (pc := 53) C (dk k_F_fitsLooks 27 rfl) lk_F_117 cm_F_at sm_F_at (c_at _ _ _ (116) 6 i kq_116 (by decide) (by omega) (by omega)) rfl rfl (Nat.le_of_ble_eq_true rfl) (Rm.mono hRm (by decide) (by decide)) ?_
      refine V_icmpeq (pc := 56) C (dk k_F_fitsLooks 28 rfl) 61 rfl (by first | exact hR _ _ | with_reducible assumption | exact ⟨by omega, by omega⟩) (by first | exact hR _ _ | with_reducible assumption | exact ⟨by omega, by omega⟩) (fun h3 => ?_) (fun h3 => ?_)
      · skip
        refine V_iinc (pc := 61) C (dk k_F_fitsLooks 31 rfl) (by rw [hXN]; decide) rfl ?_
        dsimp only [lst, lstL, lz, kill, Fin.val, Nat.reduceAdd]
        refine V_goto (pc := 64) C (dk k_F_fitsLooks 32 rfl) 2 rfl ?_
        refine ih (i + 1) ⟨by omega, ?_⟩ (by omega)
        rw [List.take_succ, hq, List.all_append, hall]
        simp only [Option.toList, List.all_cons, List.all_nil, Bool.and_true, Bool.true_and]
        unfold lkq
        first | (rw [decide_eq_false (by omega)]; rfl) | (rw [decide_eq_true (show cel k (sN x t) (sD x) q.2.1.toNat = q.2.2 by omega)]; simp)
      · skip
        refine V_iconst (pc := 59) C (dk k_F_fitsLooks 29 rfl) rfl ?_
        refine V_zret (pc := 60) C (by first | exact Or.inl rfl | exact Or.inr rfl | (split <;> first | exact Or.inl rfl | exact Or.inr rfl) | omega) E (dk k_F_fitsLooks 30 rfl) ?_
        refine ⟨?_, rfl⟩
        rw [if_neg]
        intro hz
        have hm := List.all_eq_true.mp hz q (List.mem_of_getElem? hq)
        unfold lkq at hm
        rw [decide_eq_true (show q.1 = t by omega)] at hm
        simp at hm
        omega
end
section
/-- the text -/
def TxR (σ : Wd) (tx : List Int) : Prop := σ 1 1 = tx.length ∧ tx.length ≤ 200 ∧ ∀ (k : Nat) (c : Int), tx[k]? = some c → σ 2 k = c ∧ 32 ≤ c ∧ c ≤ 126
/-- the class's shop stands for π, x, what can be undone, what is kept, what is seen, the text -/
def CR (σ : Wd) (pl sp : Nat) (π : PL) (x : ST) (us ks : List ST) (lk : List (Int × (Int × Int))) (tx : List Int) : Prop :=
  FR σ pl π ∧ (σ 0 3).toNat = sp ∧ kd sp = 5 ∧ sp ≠ pl ∧ StR σ 19 π x ∧ MmR σ 29 π us ∧ MmR σ 71 π ks ∧ LkR σ lk ∧ TxR σ tx
/-- rows that are worked in, with no meaning between calls -/
def scr (sp k : Nat) : Prop := k = 3 ∨ k = 4 ∨ (24 ≤ k ∧ k < 29) ∨ 117 ≤ k ∨ (sp ≤ k ∧ k < sp + 7)
theorem kd5 {p : Nat} (h : kd p = 5) : p = 5 ∨ p = 12 := by
  have key : ∀ a : Fin NO, kd a.val = 5 → a.val = 5 ∨ a.val = 12 := by decide +kernel
  exact key ⟨p, kd_lt h (by decide)⟩ h
theorem MmR.fr {σ σ' : Wd} {m : Nat} {π : PL} {l : List ST} (h : MmR σ m π l) (hf : ∀ k, m ≤ k → k < m + 42 → σ' k = σ k) : MmR σ' m π l := by
  obtain ⟨h0, h1, h2, h3, h4, h5⟩ := h
  have e := hf m (by omega) (by omega)
  refine ⟨h0, by rw [e]; exact h1, by rw [e]; exact h2, by rw [e]; exact h3, h4, fun k y hk => ?_⟩
  rw [e]
  exact (h5 k y hk).fr (fun j a b => hf j (by omega) (by omega))
theorem LkR.fr {σ σ' : Wd} {l : List (Int × (Int × Int))} (h : LkR σ l) (hf : ∀ k, 113 ≤ k → k < 117 → σ' k = σ k) : LkR σ' l := by
  obtain ⟨h1, h2, h3⟩ := h
  refine ⟨by rw [hf 113 (by omega) (by omega)]; exact h1, h2, fun k q hk => ?_⟩
  rw [hf 114 (by omega) (by omega), hf 115 (by omega) (by omega), hf 116 (by omega) (by omega)]
  exact h3 k q hk
theorem TxR.fr {σ σ' : Wd} {tx : List Int} (h : TxR σ tx) (h1 : σ' 1 = σ 1) (h2 : σ' 2 = σ 2) : TxR σ' tx := by
  obtain ⟨a, b, c⟩ := h
  exact ⟨by rw [h1]; exact a, b, fun k z hk => by rw [h2]; exact c k z hk⟩
theorem FR.fr {σ σ' : Wd} {pl : Nat} {π : PL} (h : FR σ pl π) (h0 : σ' 0 = σ 0) (hf : ∀ k, pl ≤ k → k < pl + 7 → σ' k = σ k) : FR σ' pl π :=
  ⟨by rw [h0]; exact h.1, h.2.fr hf⟩
theorem CR.fr {σ σ' : Wd} {pl sp : Nat} {π : PL} {x : ST} {us ks : List ST} {lk : List (Int × (Int × Int))} {tx : List Int} (h : CR σ pl sp π x us ks lk tx) (hf : ∀ k, ¬ scr sp k → σ' k = σ k) : CR σ' pl sp π x us ks lk tx := by
  obtain ⟨h1, h2, h3, h4, h5, h6, h7, h8, h9⟩ := h
  have a := kd5 h1.2.1
  have b := kd5 h3
  have f : ∀ k, ¬ (k = 3 ∨ k = 4 ∨ (24 ≤ k ∧ k < 29) ∨ 117 ≤ k ∨ (sp ≤ k ∧ k < sp + 7)) → σ' k = σ k := hf
  refine ⟨h1.fr (f 0 (by omega)) (fun k c d => f k (by omega)), by rw [f 0 (by omega)]; exact h2, h3, h4, h5.fr (fun k c d => f k (by omega)), h6.fr (fun k c d => f k (by omega)), h7.fr (fun k c d => f k (by omega)), h8.fr (fun k c d => f k (by omega)), h9.fr (f 1 (by omega)) (f 2 (by omega))⟩
/-- all that is known of the numbers, behind j calls -/
def VK (π : PL) (x : ST) (us ks : List ST) (j : Int) : Prop := PLok π ∧ STok π x j ∧ (∀ y ∈ us, STok π y j) ∧ (∀ y ∈ ks, STok π y j) ∧ ks.length ≤ 2
/-- the class changes its own rows alone -/
def Fc (σ σ' : Wd) : Prop := ∀ k, 128 ≤ k → σ' k = σ k
theorem Fc.rf (σ : Wd) : Fc σ σ := fun _ _ => rfl
abbrev isT (π : PL) (t : Int) : Prop := 0 ≤ t ∧ t < pN π
abbrev isP (π : PL) (p : Int) : Prop := 0 ≤ p ∧ p < pP π
def o_person (π : PL) (x : ST) (p k : Int) : Int := if isP π p ∧ 0 ≤ k ∧ k ≤ 2 then (if k = 0 then sG x p else if k = 1 then sR x p else bs (fun t => decide (pO π t = p ∧ sP x t = 0)) (pN π)) else -1
def o_thing (π : PL) (x : ST) (t k : Int) : Int := if isT π t ∧ 0 ≤ k ∧ k ≤ 5 then (if k = 0 then pO π t else if k = 1 then pK π t else if k = 2 then sN x t else if k = 3 then pU π t else if k = 4 then sP x t else prc π x t) else -1
def o_pays (π : PL) (x : ST) (n : Int) : Int := if 0 ≤ n ∧ n ≤ 99 then rt π (sD x + n) else -1
def o_sell (π : PL) (x : ST) (us : List ST) (t : Int) : Int × (ST × List ST) := if isT π t then (if (sP x t = 0 ∧ pL π ≤ sN x t) ∧ prc π x t ≤ sM x then (prc π x t, (sellX π x t, (x :: us).take 8)) else (-2, (x, us))) else (-1, (x, us))
def o_buy (π : PL) (x : ST) (us : List ST) (t : Int) : Int × (ST × List ST) := if isT π t then (if sP x t = 1 ∧ prc π x t ≤ sG x (pO π t) then (prc π x t, (buyX π x t, (x :: us).take 8)) else (-2, (x, us))) else (-1, (x, us))
def daysX (π : PL) (x : ST) : Nat → ST
  | 0 => x
  | n + 1 => dayX π (daysX π x n)
def o_pass (π : PL) (x : ST) (us : List ST) (n : Int) : Int × (ST × List ST) := if 1 ≤ n ∧ n ≤ 24 then (sD (daysX π x n.toNat), (daysX π x n.toNat, (x :: us).take 8)) else (-1, (x, us))
def o_undo (x : ST) (us : List ST) : Int × (ST × List ST) := match us with
  | [] => (-2, (x, []))
  | y :: r => ((r.length : Int), (y, r))
def o_keep (x : ST) (ks : List ST) : Int × List ST := if 2 ≤ ks.length then (-3, ks) else ((ks.length : Int) + 1, x :: ks)
def o_back (x : ST) (us ks : List ST) : Int × (ST × (List ST × List ST)) := match ks with
  | [] => (-2, (x, (us, [])))
  | y :: r => ((r.length : Int), (y, ([], r)))
def o_behind (π : PL) (x : ST) (n t : Int) : Int := if (0 ≤ n ∧ n ≤ 40) ∧ isT π t then (if sP x t = 1 then cel (pK π t) (sN x t) (sD x) n.toNat else sN x t) else -1
def cellar (π : PL) (x : ST) : Int := sm (fun t => if sP x t = 1 then sN x t else 0) (pN π)
/-- the first day from i on, of so many to look at, on which it is heard -/
def hrd (π : PL) (x : ST) (h : Int) : Nat → Nat → Int
  | 0, _ => -4
  | f + 1, i => if h ≤ cellar π (daysX π x i) then i else hrd π x h f (i + 1)
def o_heard (π : PL) (x : ST) (h : Int) : Int := if 1 ≤ h ∧ h ≤ 999 then hrd π x h 61 0 else -1
def o_write (tx : List Int) (c : Int) : Int × List Int := if 32 ≤ c ∧ c ≤ 126 then (if tx.length < 200 then ((tx.length : Int) + 1, tx ++ [c]) else (-3, tx)) else (-1, tx)
def o_see (π : PL) (lk : List (Int × (Int × Int))) (t n v : Int) : Int × List (Int × (Int × Int)) := if (isT π t ∧ 0 ≤ n ∧ n ≤ 20) ∧ 0 ≤ v ∧ v ≤ 99 then (if lk.length < 6 then ((lk.length : Int) + 1, lk ++ [(t, (n, v))]) else (-3, lk)) else (-1, lk)
def o_kinds (π : PL) (x : ST) (lk : List (Int × (Int × Int))) (t : Int) : Int := if isT π t then bs (fun k => lk.all (lkq t k (sN x t) (sD x))) 4 else -1
def o_count (π : PL) (x : ST) (us ks : List ST) (lk : List (Int × (Int × Int))) (tx : List Int) (k : Int) : Int :=
  if k = 0 then pP π else if k = 1 then pN π else if k = 2 then sM x else if k = 3 then pL π else if k = 4 then sD x
  else if k = 5 then sm (fun t => if sP x t = 1 then 1 else 0) (pN π) else if k = 6 then sm (fun t => if sP x t = 2 then 1 else 0) (pN π)
  else if k = 7 then cellar π x else if k = 8 then lk.length else if k = 9 then us.length else if k = 10 then ks.length else if k = 11 then tx.length else -1

theorem CR.mk2 {σ σ' : Wd} {pl sp : Nat} {π : PL} {x x' : ST} {us us' ks ks' : List ST} {lk lk' : List (Int × (Int × Int))} {tx tx' : List Int} (h : CR σ pl sp π x us ks lk tx) (h0 : ∀ k, (k = 0 ∨ (5 ≤ k ∧ k < 19)) → σ' k = σ k) (hx : StR σ' 19 π x') (hU : MmR σ' 29 π us') (hK : MmR σ' 71 π ks') (hl : LkR σ' lk') (hT : TxR σ' tx') : CR σ' pl sp π x' us' ks' lk' tx' := by
  obtain ⟨h1, h2, h3, h4, -⟩ := h
  have a := kd5 h1.2.1
  exact ⟨h1.fr (h0 0 (by omega)) (fun k c d => h0 k (by omega)), by rw [h0 0 (by omega)]; exact h2, h3, h4, hx, hU, hK, hl, hT⟩
theorem TxR.add {σ : Wd} {tx : List Int} {c : Int} (h : TxR σ tx) (h0 : 32 ≤ c) (h1 : c ≤ 126) (h2 : tx.length < 200) : TxR (up (up σ 2 (σ 1 1) c) 1 1 (σ 1 1 + 1)) (tx ++ [c]) := by
  obtain ⟨t1, t2, t3⟩ := h
  refine ⟨by rw [up_at, t1, List.length_append]; rfl, by rw [List.length_append, List.length_singleton]; omega, fun k z hk => ?_⟩
  rw [up_ne1 _ _ _ _ (by decide), t1]
  by_cases hl : k < tx.length
  · rw [List.getElem?_append_left hl] at hk
    rw [up_ne2 _ (by omega)]
    exact t3 k z hk
  · rw [List.getElem?_append_right (by omega)] at hk
    have hz : k - tx.length = 0 := by
      have := (List.getElem?_eq_some_iff.mp hk).1
      simp at this; omega
    rw [hz] at hk
    simp at hk
    subst hk
    rw [show (k : Int) = (tx.length : Int) by omega, up_at]
    exact ⟨rfl, h0, h1⟩
theorem LkR.add {σ : Wd} {lk : List (Int × (Int × Int))} {t n v : Int} (h : LkR σ lk) (hn0 : 0 ≤ n) (hn1 : n ≤ 20) (hv0 : 0 ≤ v) (hv1 : v ≤ 99) (h2 : lk.length < 6) : LkR (up (up (up (up σ 114 (σ 113 3) t) 115 (σ 113 3) n) 116 (σ 113 3) v) 113 3 (σ 113 3 + 1)) (lk ++ [(t, (n, v))]) := by
  obtain ⟨t1, t2, t3⟩ := h
  refine ⟨by rw [up_at, t1, List.length_append]; rfl, by rw [List.length_append, List.length_singleton]; omega, fun k z hk => ?_⟩
  by_cases hl : k < lk.length
  · rw [List.getElem?_append_left hl] at hk
    have := t3 k z hk
    simp (disch := omega) only [up_ne1, up_ne2]
    exact this
  · rw [List.getElem?_append_right (by omega)] at hk
    have hz : k - lk.length = 0 := by
      have := (List.getElem?_eq_some_iff.mp hk).1
      simp at this; omega
    rw [hz] at hk
    simp at hk
    subst hk
    have e : (k : Int) = σ 113 3 := by omega
    rw [e]
    simp (disch := omega) only [up_ne1, up_at]
    exact ⟨trivial, trivial, trivial, hn0, hn1, hv0, hv1⟩

def i_F_write : List (Nat × (Instr × Nat)) := [(0, (.iload_n 1, 1)), (1, (.bipush 32, 2)), (3, (.bipush 126, 2)), (5, (.invokestatic 98, 3)), (8, (.ifCond .ne 5, 3)), (11, (.iconst (-1), 1)), (12, (.ireturn, 1)), (13, (.aload_n 0, 1)), (14, (.getfield 10, 3)), (17, (.iload_n 1, 1)), (18, (.i2c, 1)), (19, (.invokevirtual 86, 3)), (22, (.ifCond .eq 13, 3)), (25, (.aload_n 0, 1)), (26, (.getfield 10, 3)), (29, (.getfield 94, 3)), (32, (.goto 5, 3)), (35, (.bipush (-3), 2)), (37, (.ireturn, 1))]
theorem k_F_write : i_F_write.all (fun q => decide (decode b_F_write q.1 = .ok q.2)) = true := by decide +kernel

set_option maxHeartbeats 1000000 in
set_option maxRecDepth 20000 in
theorem c_F_write (l : Launch) (G : GE) (σ : Wd) (pl sp : Nat) (π : PL) (x : ST) (us ks : List ST) (lk : List (Int × (Int × Int))) (tx : List Int) (j : Int) (hC : CR σ pl sp π x us ks lk tx) (hV : VK π x us ks j) (hj : j ≤ 100) (c : Int) (hc : inR c) : Ct l G y_F_write b_F_write 2 (some (.int)) 1 22 [vR 0, vI c] σ (Rt (some (vI (o_write tx c).1)) (fun σ' => CR σ' pl sp π x us ks lk (o_write tx c).2 ∧ Fc σ σ')) := by
  refine Ct.of cm_F_write (Nat.le_of_ble_eq_true rfl) ?_
  intro X hXl hXG hXN hRm C E
  subst hXl; subst hXG
  have ⟨hc_1, hc_2⟩ := hc
  show V X 0 [some (vR 0), some (vI c)] [] σ
  refine V_R (fun hR => ?_)
  obtain ⟨hF, hsp0, hsp, hne, hx, hU, hK, hl, hT⟩ := id hC
  obtain ⟨ok, xk, usk, ksk, ks2⟩ := id hV
  have hF0 := hF
  obtain ⟨hm_pl, hπ⟩ := hF
  have hπ0 := hπ
  obtain ⟨hpl, e0, e2, e7, e10, eT, eX⟩ := hπ
  obtain ⟨hpl_1, hpl_2, hpl_3, hpl_4, hpl_5, hpl_6⟩ := kd_P hpl
  have ⟨k1, k2, k3, k4, k5, k6, kT, kX⟩ := ok
  have hx0 := hx
  obtain ⟨hs, f0, f1, fQ, fT⟩ := hx
  simp only [Nat.reduceAdd] at fQ fT
  have ⟨x1, x2, x3, x4, xQ, xT⟩ := xk
  have p512 := kd5 hpl
  have s512 := kd5 hsp
  obtain ⟨t1, t2, t3⟩ := id hT
  refine V_iload_n (pc := 0) C (dk k_F_write 0 rfl) rfl ?_
  refine V_bipush (pc := 1) (n' := 32) C (dk k_F_write 1 rfl) rfl ?_
  refine V_bipush (pc := 3) (n' := 126) C (dk k_F_write 2 rfl) rfl ?_
  refine V_callS (pc := 5) C (dk k_F_write 3 rfl) lk_F_98 cm_F_within sm_F_within (c_F_within _ _ _ c 32 126 hc ⟨by decide, by decide⟩ ⟨by decide, by decide⟩) rfl rfl (Nat.le_of_ble_eq_true rfl) (Rm.mono hRm (by decide) (by decide)) ?_
  refine V_ifneB (pc := 8) C (dk k_F_write 4 rfl) 13 rfl (fun h1 => ?_) (fun h1 => ?_)
  · skip
    refine V_aload_n (pc := 13) C (dk k_F_write 7 rfl) rfl ?_
    refine V_getr (pc := 14) (o2 := 1) C (dk k_F_write 8 rfl) fl_F_10 kq_0 (by decide) rfl (by decide) rfl ?_
    refine V_iload_n (pc := 17) C (dk k_F_write 9 rfl) rfl ?_
    refine V_i2c (pc := 18) C (dk k_F_write 10 rfl) (by omega) (by omega) ?_
    refine V_callV (pc := 19) C (dk k_F_write 11 rfl) lk_F_86 cm_L_add vm_L_add (c_L_add _ _ _ c (by omega) (by omega) (by omega) (by omega)) kq_1 rfl rfl rfl (Nat.le_of_ble_eq_true rfl) (Rm.mono hRm (by decide) (by decide)) ?_
    refine V_ifeqB (pc := 22) C (dk k_F_write 12 rfl) 35 rfl (fun h2 => ?_) (fun h2 => ?_)
    · skip
      rw [if_neg (by assumption)]
      refine V_R (fun hR => ?_)
      refine V_bipush (pc := 35) (n' := (-3)) C (dk k_F_write 17 rfl) rfl ?_
      refine V_iret (pc := 37) C E (dk k_F_write 18 rfl) ?_
      first | (rw [show o_write tx c = (-3, tx) by unfold o_write; rw [if_pos (by omega), if_neg (by omega)]]; exact ⟨rfl, hC, Fc.rf σ⟩) | (rw [show o_write tx c = ((tx.length : Int) + 1, tx ++ [c]) by unfold o_write; rw [if_pos (by omega), if_pos (by omega)]]; have f : ∀ k, k ≠ 1 → k ≠ 2 → up (up σ 2 (σ 1 1) c) 1 1 (σ 1 1 + 1) k = σ k := (fun k a b => by rw [up_row _ _ _ a, up_row _ _ _ b]); exact ⟨by rw [up_at, t1], hC.mk2 (fun k a => f k (by omega) (by omega)) (hx0.fr (fun k a b => f k (by omega) (by omega))) (hU.fr (fun k a b => f k (by omega) (by omega))) (hK.fr (fun k a b => f k (by omega) (by omega))) (hl.fr (fun k a b => f k (by omega) (by omega))) (hT.add (by omega) (by omega) (by omega)), fun k a => f k (by omega) (by omega)⟩)
    · skip
      refine V_aload_n (pc := 25) C (dk k_F_write 13 rfl) rfl ?_
      rw [if_pos (by assumption)]
      refine V_R (fun hR => ?_)
      refine V_getr (pc := 26) (o2 := 1) C (dk k_F_write 14 rfl) fl_F_10 kq_0 (by decide) rfl (by decide) rfl ?_
      refine V_geti (pc := 29) (ji := 1) C (dk k_F_write 15 rfl) fl_F_94 kq_1 (by decide) rfl rfl ?_
      refine V_goto (pc := 32) C (dk k_F_write 16 rfl) 37 rfl ?_
      refine V_iret (pc := 37) C E (dk k_F_write 18 rfl) ?_
      first | (rw [show o_write tx c = (-3, tx) by unfold o_write; rw [if_pos (by omega), if_neg (by omega)]]; exact ⟨rfl, hC, Fc.rf σ⟩) | (rw [show o_write tx c = ((tx.length : Int) + 1, tx ++ [c]) by unfold o_write; rw [if_pos (by omega), if_pos (by omega)]]; have f : ∀ k, k ≠ 1 → k ≠ 2 → up (up σ 2 (σ 1 1) c) 1 1 (σ 1 1 + 1) k = σ k := (fun k a b => by rw [up_row _ _ _ a, up_row _ _ _ b]); exact ⟨by rw [up_at, t1], hC.mk2 (fun k a => f k (by omega) (by omega)) (hx0.fr (fun k a b => f k (by omega) (by omega))) (hU.fr (fun k a b => f k (by omega) (by omega))) (hK.fr (fun k a b => f k (by omega) (by omega))) (hl.fr (fun k a b => f k (by omega) (by omega))) (hT.add (by omega) (by omega) (by omega)), fun k a => f k (by omega) (by omega)⟩)
  · skip
    refine V_iconst (pc := 11) C (dk k_F_write 5 rfl) rfl ?_
    refine V_iret (pc := 12) C E (dk k_F_write 6 rfl) ?_
    rw [show o_write tx c = (-1, tx) from if_neg (by omega)]
    exact ⟨rfl, hC, Fc.rf σ⟩

def i_F_wipe : List (Nat × (Instr × Nat)) := [(0, (.aload_n 0, 1)), (1, (.getfield 10, 3)), (4, (.getfield 94, 3)), (7, (.istore_n 1, 1)), (8, (.aload_n 0, 1)), (9, (.getfield 10, 3)), (12, (.iconst 0, 1)), (13, (.putfield 94, 3)), (16, (.iload_n 1, 1)), (17, (.ireturn, 1))]
theorem k_F_wipe : i_F_wipe.all (fun q => decide (decode b_F_wipe q.1 = .ok q.2)) = true := by decide +kernel

set_option maxHeartbeats 1000000 in
set_option maxRecDepth 20000 in
theorem c_F_wipe (l : Launch) (G : GE) (σ : Wd) (pl sp : Nat) (π : PL) (x : ST) (us ks : List ST) (lk : List (Int × (Int × Int))) (tx : List Int) (j : Int) (hC : CR σ pl sp π x us ks lk tx) (hV : VK π x us ks j) (hj : j ≤ 100) : Ct l G y_F_wipe b_F_wipe 2 (some (.int)) 0 0 [vR 0] σ (Rt (some (vI tx.length)) (fun σ' => CR σ' pl sp π x us ks lk [] ∧ Fc σ σ')) := by
  refine Ct.of cm_F_wipe (Nat.le_of_ble_eq_true rfl) ?_
  intro X hXl hXG hXN hRm C E
  subst hXl; subst hXG
  show V X 0 [some (vR 0), none] [] σ
  refine V_R (fun hR => ?_)
  obtain ⟨hF, hsp0, hsp, hne, hx, hU, hK, hl, hT⟩ := id hC
  obtain ⟨ok, xk, usk, ksk, ks2⟩ := id hV
  have hF0 := hF
  obtain ⟨hm_pl, hπ⟩ := hF
  have hπ0 := hπ
  obtain ⟨hpl, e0, e2, e7, e10, eT, eX⟩ := hπ
  obtain ⟨hpl_1, hpl_2, hpl_3, hpl_4, hpl_5, hpl_6⟩ := kd_P hpl
  have ⟨k1, k2, k3, k4, k5, k6, kT, kX⟩ := ok
  have hx0 := hx
  obtain ⟨hs, f0, f1, fQ, fT⟩ := hx
  simp only [Nat.reduceAdd] at fQ fT
  have ⟨x1, x2, x3, x4, xQ, xT⟩ := xk
  have p512 := kd5 hpl
  have s512 := kd5 hsp
  obtain ⟨t1, t2, t3⟩ := id hT
  refine V_aload_n (pc := 0) C (dk k_F_wipe 0 rfl) rfl ?_
  refine V_getr (pc := 1) (o2 := 1) C (dk k_F_wipe 1 rfl) fl_F_10 kq_0 (by decide) rfl (by decide) rfl ?_
  refine V_geti (pc := 4) (ji := 1) C (dk k_F_wipe 2 rfl) fl_F_94 kq_1 (by decide) rfl rfl ?_
  refine V_istore_n (pc := 7) C (dk k_F_wipe 3 rfl) (by rw [hXN]; decide) ?_
  dsimp only [lst, lstL, lz, kill, Fin.val, Nat.reduceAdd]
  refine V_aload_n (pc := 8) C (dk k_F_wipe 4 rfl) rfl ?_
  refine V_getr (pc := 9) (o2 := 1) C (dk k_F_wipe 5 rfl) fl_F_10 kq_0 (by decide) rfl (by decide) rfl ?_
  refine V_iconst (pc := 12) C (dk k_F_wipe 6 rfl) rfl ?_
  refine V_puti (pc := 13) (ji := 1) C (dk k_F_wipe 7 rfl) fl_F_94 fw_2_1 kq_1 (by decide) rfl rfl R0 ?_
  refine V_R (fun hR => ?_)
  refine V_iload_n (pc := 16) C (dk k_F_wipe 8 rfl) rfl ?_
  refine V_iret (pc := 17) C E (dk k_F_wipe 9 rfl) ?_
  have f : ∀ k, k ≠ 1 → up σ 1 1 0 k = σ k := fun k a => up_row _ _ _ a
  exact ⟨by rw [t1], hC.mk2 (fun k a => f k (by omega)) (hx0.fr (fun k a b => f k (by omega))) (hU.fr (fun k a b => f k (by omega))) (hK.fr (fun k a b => f k (by omega))) (hl.fr (fun k a b => f k (by omega))) ⟨by rw [up_at]; rfl, by simp, fun k c h => by simp at h⟩, fun k a => f k (by omega)⟩

def i_F_person : List (Nat × (Instr × Nat)) := [(0, (.aload_n 0, 1)), (1, (.iload_n 1, 1)), (2, (.invokevirtual 109, 3)), (5, (.ifCond .eq 12, 3)), (8, (.iload_n 2, 1)), (9, (.iconst 0, 1)), (10, (.iconst 2, 1)), (11, (.invokestatic 98, 3)), (14, (.ifCond .ne 5, 3)), (17, (.iconst (-1), 1)), (18, (.ireturn, 1)), (19, (.iload_n 2, 1)), (20, (.lookupswitch 52 #[(0, 28), (1, 40)], 28)), (48, (.aload_n 0, 1)), (49, (.getfield 36, 3)), (52, (.getfield 113, 3)), (55, (.iload_n 1, 1)), (56, (.invokestatic 117, 3)), (59, (.ireturn, 1)), (60, (.aload_n 0, 1)), (61, (.getfield 36, 3)), (64, (.getfield 121, 3)), (67, (.iload_n 1, 1)), (68, (.invokestatic 117, 3)), (71, (.ireturn, 1)), (72, (.aload_n 0, 1)), (73, (.getfield 36, 3)), (76, (.aload_n 0, 1)), (77, (.getfield 26, 3)), (80, (.iload_n 1, 1)), (81, (.invokevirtual 124, 3)), (84, (.ireturn, 1))]
theorem k_F_person : i_F_person.all (fun q => decide (decode b_F_person q.1 = .ok q.2)) = true := by decide +kernel

set_option maxHeartbeats 1000000 in
set_option maxRecDepth 20000 in
theorem c_F_person (l : Launch) (G : GE) (σ : Wd) (pl sp : Nat) (π : PL) (x : ST) (us ks : List ST) (lk : List (Int × (Int × Int))) (tx : List Int) (j : Int) (hC : CR σ pl sp π x us ks lk tx) (hV : VK π x us ks j) (hj : j ≤ 100) (p k : Int) (hp : inR p) (hk : inR k) : Ct l G y_F_person b_F_person 3 (some (.int)) 2 45 [vR 0, vI p, vI k] σ (Dt (some (vI (o_person π x p k))) σ) := by
  refine Ct.of cm_F_person (Nat.le_of_ble_eq_true rfl) ?_
  intro X hXl hXG hXN hRm C E
  subst hXl; subst hXG
  have ⟨hp_1, hp_2⟩ := hp
  have ⟨hk_1, hk_2⟩ := hk
  show V X 0 [some (vR 0), some (vI p), some (vI k)] [] σ
  refine V_R (fun hR => ?_)
  obtain ⟨hF, hsp0, hsp, hne, hx, hU, hK, hl, hT⟩ := id hC
  obtain ⟨ok, xk, usk, ksk, ks2⟩ := id hV
  have hF0 := hF
  obtain ⟨hm_pl, hπ⟩ := hF
  have hπ0 := hπ
  obtain ⟨hpl, e0, e2, e7, e10, eT, eX⟩ := hπ
  obtain ⟨hpl_1, hpl_2, hpl_3, hpl_4, hpl_5, hpl_6⟩ := kd_P hpl
  have ⟨k1, k2, k3, k4, k5, k6, kT, kX⟩ := ok
  have hx0 := hx
  obtain ⟨hs, f0, f1, fQ, fT⟩ := hx
  simp only [Nat.reduceAdd] at fQ fT
  have ⟨x1, x2, x3, x4, xQ, xT⟩ := xk
  have p512 := kd5 hpl
  have s512 := kd5 hsp
  refine V_aload_n (pc := 0) C (dk k_F_person 0 rfl) rfl ?_
  refine V_iload_n (pc := 1) C (dk k_F_person 1 rfl) rfl ?_
  refine V_callV (pc := 2) C (dk k_F_person 2 rfl) lk_F_109 cm_F_isPerson vm_F_isPerson (c_F_isPerson _ _ _ pl π p hF0 ok hp) kq_0 rfl rfl rfl (Nat.le_of_ble_eq_true rfl) (Rm.mono hRm (by decide) (by decide)) ?_
  refine V_ifeqB (pc := 5) C (dk k_F_person 3 rfl) 17 rfl (fun h1 => ?_) (fun h1 => ?_)
  · skip
    refine V_iconst (pc := 17) C (dk k_F_person 9 rfl) rfl ?_
    refine V_iret (pc := 18) C E (dk k_F_person 10 rfl) ?_
    exact ⟨by unfold o_person; rw [if_neg (by omega)], rfl⟩
  · skip
    refine V_iload_n (pc := 8) C (dk k_F_person 4 rfl) rfl ?_
    refine V_iconst (pc := 9) C (dk k_F_person 5 rfl) rfl ?_
    refine V_iconst (pc := 10) C (dk k_F_person 6 rfl) rfl ?_
    refine V_callS (pc := 11) C (dk k_F_person 7 rfl) lk_F_98 cm_F_within sm_F_within (c_F_within _ _ _ k 0 2 hk ⟨by decide, by decide⟩ ⟨by decide, by decide⟩) rfl rfl (Nat.le_of_ble_eq_true rfl) (Rm.mono hRm (by decide) (by decide)) ?_
    refine V_ifneB (pc := 14) C (dk k_F_person 8 rfl) 19 rfl (fun h2 => ?_) (fun h2 => ?_)
    · skip
      refine V_iload_n (pc := 19) C (dk k_F_person 11 rfl) rfl ?_
      refine V_lookup (pc := 20) C (dk k_F_person 12 rfl) (by decide) (by first | exact hR _ _ | with_reducible assumption | exact ⟨by omega, by omega⟩) ?_
      by_cases h4 : k = 0
      · refine ⟨28, 48, by rw [h4]; rfl, rfl, ?_⟩
        refine V_aload_n (pc := 48) C (dk k_F_person 13 rfl) rfl ?_
        refine V_getr (pc := 49) (o2 := 19) C (dk k_F_person 14 rfl) fl_F_36 kq_0 (by decide) rfl (by decide) rfl ?_
        refine V_getr (pc := 52) (o2 := 20) C (dk k_F_person 15 rfl) fl_F_113 kq_19 (by decide) rfl (by decide) rfl ?_
        refine V_iload_n (pc := 55) C (dk k_F_person 16 rfl) rfl ?_
        refine V_callS (pc := 56) C (dk k_F_person 17 rfl) lk_F_117 cm_F_at sm_F_at (c_at _ _ _ (20) 5 p kq_20 (by decide) (by omega) (by omega)) rfl rfl (Nat.le_of_ble_eq_true rfl) (Rm.mono hRm (by decide) (by decide)) ?_
        refine V_iret (pc := 59) C E (dk k_F_person 18 rfl) ?_
        obtain ⟨gG, gR⟩ := fQ p (by omega) (by omega)
        exact ⟨by unfold o_person; rw [if_pos (by omega), if_pos (by omega), gG], rfl⟩
      by_cases h5 : k = 1
      · refine ⟨40, 60, by rw [h5]; rfl, rfl, ?_⟩
        refine V_aload_n (pc := 60) C (dk k_F_person 19 rfl) rfl ?_
        refine V_getr (pc := 61) (o2 := 19) C (dk k_F_person 20 rfl) fl_F_36 kq_0 (by decide) rfl (by decide) rfl ?_
        refine V_getr (pc := 64) (o2 := 21) C (dk k_F_person 21 rfl) fl_F_121 kq_19 (by decide) rfl (by decide) rfl ?_
        refine V_iload_n (pc := 67) C (dk k_F_person 22 rfl) rfl ?_
        refine V_callS (pc := 68) C (dk k_F_person 23 rfl) lk_F_117 cm_F_at sm_F_at (c_at _ _ _ (21) 5 p kq_21 (by decide) (by omega) (by omega)) rfl rfl (Nat.le_of_ble_eq_true rfl) (Rm.mono hRm (by decide) (by decide)) ?_
        refine V_iret (pc := 71) C E (dk k_F_person 24 rfl) ?_
        obtain ⟨gG, gR⟩ := fQ p (by omega) (by omega)
        exact ⟨by unfold o_person; rw [if_pos (by omega), if_neg (by omega), if_pos (by omega), gR], rfl⟩
      refine ⟨52, 72, by simp only [Op.lookupswitch.offset_cons]; (repeat rw [if_neg (by omega)]); rfl, rfl, ?_⟩
      refine V_aload_n (pc := 72) C (dk k_F_person 25 rfl) rfl ?_
      refine V_getr (pc := 73) (o2 := 19) C (dk k_F_person 26 rfl) fl_F_36 kq_0 (by decide) rfl (by decide) rfl ?_
      refine V_aload_n (pc := 76) C (dk k_F_person 27 rfl) rfl ?_
      refine V_getm (pc := 77) (o2 := pl) C (dk k_F_person 28 rfl) fl_F_26 kq_0 (by decide) rfl hm_pl ?_
      refine V_iload_n (pc := 80) C (dk k_F_person 29 rfl) rfl ?_
      refine V_callV (pc := 81) C (dk k_F_person 30 rfl) lk_F_124 cm_S_thingsWith vm_S_thingsWith (c_S_thingsWith _ _ _ 19 pl π x j hπ0 ok hx0 xk (by omega) p hp) kq_19 rfl rfl rfl (Nat.le_of_ble_eq_true rfl) (Rm.mono hRm (by decide) (by decide)) ?_
      refine V_iret (pc := 84) C E (dk k_F_person 31 rfl) ?_
      exact ⟨by unfold o_person; rw [if_pos (by omega), if_neg (by omega), if_neg (by omega)], rfl⟩
    · skip
      refine V_iconst (pc := 17) C (dk k_F_person 9 rfl) rfl ?_
      refine V_iret (pc := 18) C E (dk k_F_person 10 rfl) ?_
      exact ⟨by unfold o_person; rw [if_neg (by omega)], rfl⟩

def i_F_thing : List (Nat × (Instr × Nat)) := [(0, (.aload_n 0, 1)), (1, (.iload_n 1, 1)), (2, (.invokevirtual 128, 3)), (5, (.ifCond .eq 12, 3)), (8, (.iload_n 2, 1)), (9, (.iconst 0, 1)), (10, (.iconst 5, 1)), (11, (.invokestatic 98, 3)), (14, (.ifCond .ne 5, 3)), (17, (.iconst (-1), 1)), (18, (.ireturn, 1)), (19, (.iload_n 2, 1)), (20, (.tableswitch 96 0 4 #[36, 48, 60, 72, 84], 36)), (56, (.aload_n 0, 1)), (57, (.getfield 26, 3)), (60, (.getfield 131, 3)), (63, (.iload_n 1, 1)), (64, (.invokestatic 117, 3)), (67, (.ireturn, 1)), (68, (.aload_n 0, 1)), (69, (.getfield 26, 3)), (72, (.getfield 134, 3)), (75, (.iload_n 1, 1)), (76, (.invokestatic 117, 3)), (79, (.ireturn, 1)), (80, (.aload_n 0, 1)), (81, (.getfield 36, 3)), (84, (.getfield 137, 3)), (87, (.iload_n 1, 1)), (88, (.invokestatic 117, 3)), (91, (.ireturn, 1)), (92, (.aload_n 0, 1)), (93, (.getfield 26, 3)), (96, (.getfield 140, 3)), (99, (.iload_n 1, 1)), (100, (.invokestatic 117, 3)), (103, (.ireturn, 1)), (104, (.aload_n 0, 1)), (105, (.getfield 36, 3)), (108, (.getfield 143, 3)), (111, (.iload_n 1, 1)), (112, (.invokestatic 117, 3)), (115, (.ireturn, 1)), (116, (.aload_n 0, 1)), (117, (.getfield 36, 3)), (120, (.aload_n 0, 1)), (121, (.getfield 26, 3)), (124, (.iload_n 1, 1)), (125, (.invokevirtual 146, 3)), (128, (.ireturn, 1))]
theorem k_F_thing : i_F_thing.all (fun q => decide (decode b_F_thing q.1 = .ok q.2)) = true := by decide +kernel

set_option maxHeartbeats 1000000 in
set_option maxRecDepth 20000 in
theorem c_F_thing (l : Launch) (G : GE) (σ : Wd) (pl sp : Nat) (π : PL) (x : ST) (us ks : List ST) (lk : List (Int × (Int × Int))) (tx : List Int) (j : Int) (hC : CR σ pl sp π x us ks lk tx) (hV : VK π x us ks j) (hj : j ≤ 100) (t k : Int) (ht : inR t) (hk : inR k) : Ct l G y_F_thing b_F_thing 3 (some (.int)) 3 64 [vR 0, vI t, vI k] σ (Dt (some (vI (o_thing π x t k))) σ) := by
  refine Ct.of cm_F_thing (Nat.le_of_ble_eq_true rfl) ?_
  intro X hXl hXG hXN hRm C E
  subst hXl; subst hXG
  have ⟨ht_1, ht_2⟩ := ht
  have ⟨hk_1, hk_2⟩ := hk
  show V X 0 [some (vR 0), some (vI t), some (vI k)] [] σ
  refine V_R (fun hR => ?_)
  obtain ⟨hF, hsp0, hsp, hne, hx, hU, hK, hl, hT⟩ := id hC
  obtain ⟨ok, xk, usk, ksk, ks2⟩ := id hV
  have hF0 := hF
  obtain ⟨hm_pl, hπ⟩ := hF
  have hπ0 := hπ
  obtain ⟨hpl, e0, e2, e7, e10, eT, eX⟩ := hπ
  obtain ⟨hpl_1, hpl_2, hpl_3, hpl_4, hpl_5, hpl_6⟩ := kd_P hpl
  have ⟨k1, k2, k3, k4, k5, k6, kT, kX⟩ := ok
  have hx0 := hx
  obtain ⟨hs, f0, f1, fQ, fT⟩ := hx
  simp only [Nat.reduceAdd] at fQ fT
  have ⟨x1, x2, x3, x4, xQ, xT⟩ := xk
  have p512 := kd5 hpl
  have s512 := kd5 hsp
  refine V_aload_n (pc := 0) C (dk k_F_thing 0 rfl) rfl ?_
  refine V_iload_n (pc := 1) C (dk k_F_thing 1 rfl) rfl ?_
  refine V_callV (pc := 2) C (dk k_F_thing 2 rfl) lk_F_128 cm_F_isThing vm_F_isThing (c_F_isThing _ _ _ pl π t hF0 ok ht) kq_0 rfl rfl rfl (Nat.le_of_ble_eq_true rfl) (Rm.mono hRm (by decide) (by decide)) ?_
  refine V_ifeqB (pc := 5) C (dk k_F_thing 3 rfl) 17 rfl (fun h1 => ?_) (fun h1 => ?_)
  · skip
    refine V_iconst (pc := 17) C (dk k_F_thing 9 rfl) rfl ?_
    refine V_iret (pc := 18) C E (dk k_F_thing 10 rfl) ?_
    exact ⟨by unfold o_thing; rw [if_neg (by omega)], rfl⟩
  · skip
    refine V_iload_n (pc := 8) C (dk k_F_thing 4 rfl) rfl ?_
    refine V_iconst (pc := 9) C (dk k_F_thing 5 rfl) rfl ?_
    refine V_iconst (pc := 10) C (dk k_F_thing 6 rfl) rfl ?_
    refine V_callS (pc := 11) C (dk k_F_thing 7 rfl) lk_F_98 cm_F_within sm_F_within (c_F_within _ _ _ k 0 5 hk ⟨by decide, by decide⟩ ⟨by decide, by decide⟩) rfl rfl (Nat.le_of_ble_eq_true rfl) (Rm.mono hRm (by decide) (by decide)) ?_
    refine V_ifneB (pc := 14) C (dk k_F_thing 8 rfl) 19 rfl (fun h2 => ?_) (fun h2 => ?_)
    · skip
      refine V_iload_n (pc := 19) C (dk k_F_thing 11 rfl) rfl ?_
      refine V_switch (pc := 20) C (dk k_F_thing 12 rfl) (by first | exact hR _ _ | with_reducible assumption | exact ⟨by omega, by omega⟩) (fun h3 tgt ht => ?_) ⟨116, rfl⟩ (fun h3 h3b => ?_)
      · obtain rfl : tgt = 116 := by omega
        refine V_aload_n (pc := 116) C (dk k_F_thing 43 rfl) rfl ?_
        refine V_getr (pc := 117) (o2 := 19) C (dk k_F_thing 44 rfl) fl_F_36 kq_0 (by decide) rfl (by decide) rfl ?_
        refine V_aload_n (pc := 120) C (dk k_F_thing 45 rfl) rfl ?_
        refine V_getm (pc := 121) (o2 := pl) C (dk k_F_thing 46 rfl) fl_F_26 kq_0 (by decide) rfl hm_pl ?_
        refine V_iload_n (pc := 124) C (dk k_F_thing 47 rfl) rfl ?_
        refine V_callV (pc := 125) C (dk k_F_thing 48 rfl) lk_F_146 cm_S_price vm_S_price (c_S_price _ _ _ 19 pl π x j t hπ0 ok hx0 xk (by omega) (by omega) (by omega)) kq_19 rfl rfl rfl (Nat.le_of_ble_eq_true rfl) (Rm.mono hRm (by decide) (by decide)) ?_
        refine V_iret (pc := 128) C E (dk k_F_thing 49 rfl) ?_
        exact ⟨by unfold o_thing; rw [if_pos (by omega), if_neg (by omega), if_neg (by omega), if_neg (by omega), if_neg (by omega), if_neg (by omega)], rfl⟩
      · skip
        have h3c : k = 0 ∨ k = 1 ∨ k = 2 ∨ k = 3 ∨ k = 4 := by omega
        rcases h3c with h3d | h3d | h3d | h3d | h3d
        · refine ⟨36, 56, by rw [h3d]; rfl, rfl, ?_⟩
          refine V_aload_n (pc := 56) C (dk k_F_thing 13 rfl) rfl ?_
          refine V_getm (pc := 57) (o2 := pl) C (dk k_F_thing 14 rfl) fl_F_26 kq_0 (by decide) rfl hm_pl ?_
          refine V_getr (pc := 60) (o2 := pl + 2) C (dk k_F_thing 15 rfl) fl_F_131 hpl (by decide) rfl (by decide) rfl ?_
          refine V_iload_n (pc := 63) C (dk k_F_thing 16 rfl) rfl ?_
          refine V_callS (pc := 64) C (dk k_F_thing 17 rfl) lk_F_117 cm_F_at sm_F_at (c_at _ _ _ (pl + 2) 8 t hpl_2 (by decide) (by omega) (by omega)) rfl rfl (Nat.le_of_ble_eq_true rfl) (Rm.mono hRm (by decide) (by decide)) ?_
          refine V_iret (pc := 67) C E (dk k_F_thing 18 rfl) ?_
          obtain ⟨gN, gP⟩ := fT t (by omega) (by omega)
          obtain ⟨gO, gK, gU⟩ := eT t (by omega) (by omega)
          exact ⟨by unfold o_thing; rw [if_pos (by omega), if_pos (by omega), gO], rfl⟩
        · refine ⟨48, 68, by rw [h3d]; rfl, rfl, ?_⟩
          refine V_aload_n (pc := 68) C (dk k_F_thing 19 rfl) rfl ?_
          refine V_getm (pc := 69) (o2 := pl) C (dk k_F_thing 20 rfl) fl_F_26 kq_0 (by decide) rfl hm_pl ?_
          refine V_getr (pc := 72) (o2 := pl + 3) C (dk k_F_thing 21 rfl) fl_F_134 hpl (by decide) rfl (by decide) rfl ?_
          refine V_iload_n (pc := 75) C (dk k_F_thing 22 rfl) rfl ?_
          refine V_callS (pc := 76) C (dk k_F_thing 23 rfl) lk_F_117 cm_F_at sm_F_at (c_at _ _ _ (pl + 3) 8 t hpl_3 (by decide) (by omega) (by omega)) rfl rfl (Nat.le_of_ble_eq_true rfl) (Rm.mono hRm (by decide) (by decide)) ?_
          refine V_iret (pc := 79) C E (dk k_F_thing 24 rfl) ?_
          obtain ⟨gN, gP⟩ := fT t (by omega) (by omega)
          obtain ⟨gO, gK, gU⟩ := eT t (by omega) (by omega)
          exact ⟨by unfold o_thing; rw [if_pos (by omega), if_neg (by omega), if_pos (by omega), gK], rfl⟩
        · refine ⟨60, 80, by rw [h3d]; rfl, rfl, ?_⟩
          refine V_aload_n (pc := 80) C (dk k_F_thing 25 rfl) rfl ?_
          refine V_getr (pc := 81) (o2 := 19) C (dk k_F_thing 26 rfl) fl_F_36 kq_0 (by decide) rfl (by decide) rfl ?_
          refine V_getr (pc := 84) (o2 := 22) C (dk k_F_thing 27 rfl) fl_F_137 kq_19 (by decide) rfl (by decide) rfl ?_
          refine V_iload_n (pc := 87) C (dk k_F_thing 28 rfl) rfl ?_
          refine V_callS (pc := 88) C (dk k_F_thing 29 rfl) lk_F_117 cm_F_at sm_F_at (c_at _ _ _ (22) 8 t kq_22 (by decide) (by omega) (by omega)) rfl rfl (Nat.le_of_ble_eq_true rfl) (Rm.mono hRm (by decide) (by decide)) ?_
          refine V_iret (pc := 91) C E (dk k_F_thing 30 rfl) ?_
          obtain ⟨gN, gP⟩ := fT t (by omega) (by omega)
          obtain ⟨gO, gK, gU⟩ := eT t (by omega) (by omega)
          exact ⟨by unfold o_thing; rw [if_pos (by omega), if_neg (by omega), if_neg (by omega), if_pos (by omega), gN], rfl⟩
        · refine ⟨72, 92, by rw [h3d]; rfl, rfl, ?_⟩
          refine V_aload_n (pc := 92) C (dk k_F_thing 31 rfl) rfl ?_
          refine V_getm (pc := 93) (o2 := pl) C (dk k_F_thing 32 rfl) fl_F_26 kq_0 (by decide) rfl hm_pl ?_
          refine V_getr (pc := 96) (o2 := pl + 5) C (dk k_F_thing 33 rfl) fl_F_140 hpl (by decide) rfl (by decide) rfl ?_
          refine V_iload_n (pc := 99) C (dk k_F_thing 34 rfl) rfl ?_
          refine V_callS (pc := 100) C (dk k_F_thing 35 rfl) lk_F_117 cm_F_at sm_F_at (c_at _ _ _ (pl + 5) 8 t hpl_5 (by decide) (by omega) (by omega)) rfl rfl (Nat.le_of_ble_eq_true rfl) (Rm.mono hRm (by decide) (by decide)) ?_
          refine V_iret (pc := 103) C E (dk k_F_thing 36 rfl) ?_
          obtain ⟨gN, gP⟩ := fT t (by omega) (by omega)
          obtain ⟨gO, gK, gU⟩ := eT t (by omega) (by omega)
          exact ⟨by unfold o_thing; rw [if_pos (by omega), if_neg (by omega), if_neg (by omega), if_neg (by omega), if_pos (by omega), gU], rfl⟩
        · refine ⟨84, 104, by rw [h3d]; rfl, rfl, ?_⟩
          refine V_aload_n (pc := 104) C (dk k_F_thing 37 rfl) rfl ?_
          refine V_getr (pc := 105) (o2 := 19) C (dk k_F_thing 38 rfl) fl_F_36 kq_0 (by decide) rfl (by decide) rfl ?_
          refine V_getr (pc := 108) (o2 := 23) C (dk k_F_thing 39 rfl) fl_F_143 kq_19 (by decide) rfl (by decide) rfl ?_
          refine V_iload_n (pc := 111) C (dk k_F_thing 40 rfl) rfl ?_
          refine V_callS (pc := 112) C (dk k_F_thing 41 rfl) lk_F_117 cm_F_at sm_F_at (c_at _ _ _ (23) 8 t kq_23 (by decide) (by omega) (by omega)) rfl rfl (Nat.le_of_ble_eq_true rfl) (Rm.mono hRm (by decide) (by decide)) ?_
          refine V_iret (pc := 115) C E (dk k_F_thing 42 rfl) ?_
          obtain ⟨gN, gP⟩ := fT t (by omega) (by omega)
          obtain ⟨gO, gK, gU⟩ := eT t (by omega) (by omega)
          exact ⟨by unfold o_thing; rw [if_pos (by omega), if_neg (by omega), if_neg (by omega), if_neg (by omega), if_neg (by omega), if_pos (by omega), gP], rfl⟩
    · skip
      refine V_iconst (pc := 17) C (dk k_F_thing 9 rfl) rfl ?_
      refine V_iret (pc := 18) C E (dk k_F_thing 10 rfl) ?_
      exact ⟨by unfold o_thing; rw [if_neg (by omega)], rfl⟩

def i_F_pays : List (Nat × (Instr × Nat)) := [(0, (.iload_n 1, 1)), (1, (.iconst 0, 1)), (2, (.bipush 99, 2)), (4, (.invokestatic 98, 3)), (7, (.ifCond .eq 22, 3)), (10, (.aload_n 0, 1)), (11, (.getfield 26, 3)), (14, (.aload_n 0, 1)), (15, (.getfield 36, 3)), (18, (.getfield 149, 3)), (21, (.iload_n 1, 1)), (22, (.iadd, 1)), (23, (.invokevirtual 152, 3)), (26, (.goto 4, 3)), (29, (.iconst (-1), 1)), (30, (.ireturn, 1))]
theorem k_F_pays : i_F_pays.all (fun q => decide (decode b_F_pays q.1 = .ok q.2)) = true := by decide +kernel

set_option maxHeartbeats 1000000 in
set_option maxRecDepth 20000 in
theorem c_F_pays (l : Launch) (G : GE) (σ : Wd) (pl sp : Nat) (π : PL) (x : ST) (us ks : List ST) (lk : List (Int × (Int × Int))) (tx : List Int) (j : Int) (hC : CR σ pl sp π x us ks lk tx) (hV : VK π x us ks j) (hj : j ≤ 100) (n : Int) (hn : inR n) : Ct l G y_F_pays b_F_pays 2 (some (.int)) 2 42 [vR 0, vI n] σ (Dt (some (vI (o_pays π x n))) σ) := by
  refine Ct.of cm_F_pays (Nat.le_of_ble_eq_true rfl) ?_
  intro X hXl hXG hXN hRm C E
  subst hXl; subst hXG
  have ⟨hn_1, hn_2⟩ := hn
  show V X 0 [some (vR 0), some (vI n)] [] σ
  refine V_R (fun hR => ?_)
  obtain ⟨hF, hsp0, hsp, hne, hx, hU, hK, hl, hT⟩ := id hC
  obtain ⟨ok, xk, usk, ksk, ks2⟩ := id hV
  have hF0 := hF
  obtain ⟨hm_pl, hπ⟩ := hF
  have hπ0 := hπ
  obtain ⟨hpl, e0, e2, e7, e10, eT, eX⟩ := hπ
  obtain ⟨hpl_1, hpl_2, hpl_3, hpl_4, hpl_5, hpl_6⟩ := kd_P hpl
  have ⟨k1, k2, k3, k4, k5, k6, kT, kX⟩ := ok
  have hx0 := hx
  obtain ⟨hs, f0, f1, fQ, fT⟩ := hx
  simp only [Nat.reduceAdd] at fQ fT
  have ⟨x1, x2, x3, x4, xQ, xT⟩ := xk
  have p512 := kd5 hpl
  have s512 := kd5 hsp
  refine V_iload_n (pc := 0) C (dk k_F_pays 0 rfl) rfl ?_
  refine V_iconst (pc := 1) C (dk k_F_pays 1 rfl) rfl ?_
  refine V_bipush (pc := 2) (n' := 99) C (dk k_F_pays 2 rfl) rfl ?_
  refine V_callS (pc := 4) C (dk k_F_pays 3 rfl) lk_F_98 cm_F_within sm_F_within (c_F_within _ _ _ n 0 99 hn ⟨by decide, by decide⟩ ⟨by decide, by decide⟩) rfl rfl (Nat.le_of_ble_eq_true rfl) (Rm.mono hRm (by decide) (by decide)) ?_
  refine V_ifeqB (pc := 7) C (dk k_F_pays 4 rfl) 29 rfl (fun h1 => ?_) (fun h1 => ?_)
  · skip
    refine V_iconst (pc := 29) C (dk k_F_pays 14 rfl) rfl ?_
    refine V_iret (pc := 30) C E (dk k_F_pays 15 rfl) ?_
    exact ⟨by unfold o_pays; first | rw [if_pos (by omega)] | rw [if_neg (by omega)], rfl⟩
  · skip
    refine V_aload_n (pc := 10) C (dk k_F_pays 5 rfl) rfl ?_
    refine V_getm (pc := 11) (o2 := pl) C (dk k_F_pays 6 rfl) fl_F_26 kq_0 (by decide) rfl hm_pl ?_
    refine V_aload_n (pc := 14) C (dk k_F_pays 7 rfl) rfl ?_
    refine V_getr (pc := 15) (o2 := 19) C (dk k_F_pays 8 rfl) fl_F_36 kq_0 (by decide) rfl (by decide) rfl ?_
    refine V_geti (pc := 18) (ji := 0) C (dk k_F_pays 9 rfl) fl_F_149 kq_19 (by decide) rfl rfl ?_
    refine V_iload_n (pc := 21) C (dk k_F_pays 10 rfl) rfl ?_
    refine V_iadd (pc := 22) C (dk k_F_pays 11 rfl) ?_
    rw [f0]
    refine V_callV (pc := 23) C (dk k_F_pays 12 rfl) lk_F_152 cm_P_rate vm_P_rate (c_P_rate _ _ _ pl π (sD x + n) hπ0 ok ⟨by omega, by omega⟩ (by omega)) hpl rfl rfl rfl (Nat.le_of_ble_eq_true rfl) (Rm.mono hRm (by decide) (by decide)) ?_
    refine V_goto (pc := 26) C (dk k_F_pays 13 rfl) 30 rfl ?_
    refine V_iret (pc := 30) C E (dk k_F_pays 15 rfl) ?_
    exact ⟨by unfold o_pays; first | rw [if_pos (by omega)] | rw [if_neg (by omega)], rfl⟩

def i_F_sell : List (Nat × (Instr × Nat)) := [(0, (.aload_n 0, 1)), (1, (.iload_n 1, 1)), (2, (.invokevirtual 128, 3)), (5, (.ifCond .ne 5, 3)), (8, (.iconst (-1), 1)), (9, (.ireturn, 1)), (10, (.aload_n 0, 1)), (11, (.getfield 36, 3)), (14, (.aload_n 0, 1)), (15, (.getfield 26, 3)), (18, (.iload_n 1, 1)), (19, (.invokevirtual 156, 3)), (22, (.ifCond .ne 6, 3)), (25, (.bipush (-2), 2)), (27, (.ireturn, 1)), (28, (.aload_n 0, 1)), (29, (.getfield 36, 3)), (32, (.aload_n 0, 1)), (33, (.getfield 26, 3)), (36, (.iload_n 1, 1)), (37, (.invokevirtual 146, 3)), (40, (.istore_n 2, 1)), (41, (.aload_n 0, 1)), (42, (.getfield 46, 3)), (45, (.aload_n 0, 1)), (46, (.getfield 36, 3)), (49, (.invokevirtual 160, 3)), (52, (.aload_n 0, 1)), (53, (.getfield 36, 3)), (56, (.aload_n 0, 1)), (57, (.getfield 26, 3)), (60, (.iload_n 1, 1)), (61, (.invokevirtual 164, 3)), (64, (.iload_n 2, 1)), (65, (.ireturn, 1))]
theorem k_F_sell : i_F_sell.all (fun q => decide (decode b_F_sell q.1 = .ok q.2)) = true := by decide +kernel

set_option maxHeartbeats 1000000 in
set_option maxRecDepth 20000 in
theorem c_F_sell (l : Launch) (G : GE) (σ : Wd) (pl sp : Nat) (π : PL) (x : ST) (us ks : List ST) (lk : List (Int × (Int × Int))) (tx : List Int) (j : Int) (hC : CR σ pl sp π x us ks lk tx) (hV : VK π x us ks j) (hj : j ≤ 100) (t : Int) (ht : inR t) : Ct l G y_F_sell b_F_sell 3 (some (.int)) 4 87 [vR 0, vI t] σ (Rt (some (vI (o_sell π x us t).1)) (fun σ' => CR σ' pl sp π (o_sell π x us t).2.1 (o_sell π x us t).2.2 ks lk tx ∧ Fc σ σ')) := by
  refine Ct.of cm_F_sell (Nat.le_of_ble_eq_true rfl) ?_
  intro X hXl hXG hXN hRm C E
  subst hXl; subst hXG
  have ⟨ht_1, ht_2⟩ := ht
  show V X 0 [some (vR 0), some (vI t), none] [] σ
  refine V_R (fun hR => ?_)
  obtain ⟨hF, hsp0, hsp, hne, hx, hU, hK, hl, hT⟩ := id hC
  obtain ⟨ok, xk, usk, ksk, ks2⟩ := id hV
  have hF0 := hF
  obtain ⟨hm_pl, hπ⟩ := hF
  have hπ0 := hπ
  obtain ⟨hpl, e0, e2, e7, e10, eT, eX⟩ := hπ
  obtain ⟨hpl_1, hpl_2, hpl_3, hpl_4, hpl_5, hpl_6⟩ := kd_P hpl
  have ⟨k1, k2, k3, k4, k5, k6, kT, kX⟩ := ok
  have hx0 := hx
  obtain ⟨hs, f0, f1, fQ, fT⟩ := hx
  simp only [Nat.reduceAdd] at fQ fT
  have ⟨x1, x2, x3, x4, xQ, xT⟩ := xk
  have p512 := kd5 hpl
  have s512 := kd5 hsp
  refine V_aload_n (pc := 0) C (dk k_F_sell 0 rfl) rfl ?_
  refine V_iload_n (pc := 1) C (dk k_F_sell 1 rfl) rfl ?_
  refine V_callV (pc := 2) C (dk k_F_sell 2 rfl) lk_F_128 cm_F_isThing vm_F_isThing (c_F_isThing _ _ _ pl π t hF0 ok ht) kq_0 rfl rfl rfl (Nat.le_of_ble_eq_true rfl) (Rm.mono hRm (by decide) (by decide)) ?_
  refine V_ifneB (pc := 5) C (dk k_F_sell 3 rfl) 10 rfl (fun h1 => ?_) (fun h1 => ?_)
  · skip
    refine V_aload_n (pc := 10) C (dk k_F_sell 6 rfl) rfl ?_
    refine V_getr (pc := 11) (o2 := 19) C (dk k_F_sell 7 rfl) fl_F_36 kq_0 (by decide) rfl (by decide) rfl ?_
    refine V_aload_n (pc := 14) C (dk k_F_sell 8 rfl) rfl ?_
    refine V_getm (pc := 15) (o2 := pl) C (dk k_F_sell 9 rfl) fl_F_26 kq_0 (by decide) rfl hm_pl ?_
    refine V_iload_n (pc := 18) C (dk k_F_sell 10 rfl) rfl ?_
    refine V_callV (pc := 19) C (dk k_F_sell 11 rfl) lk_F_156 cm_S_canSell vm_S_canSell (c_S_canSell _ _ _ 19 pl π x j t hπ0 ok hx0 xk (by omega) (by omega) (by omega)) kq_19 rfl rfl rfl (Nat.le_of_ble_eq_true rfl) (Rm.mono hRm (by decide) (by decide)) ?_
    refine V_ifneB (pc := 22) C (dk k_F_sell 12 rfl) 28 rfl (fun h2 => ?_) (fun h2 => ?_)
    · skip
      refine V_aload_n (pc := 28) C (dk k_F_sell 15 rfl) rfl ?_
      refine V_getr (pc := 29) (o2 := 19) C (dk k_F_sell 16 rfl) fl_F_36 kq_0 (by decide) rfl (by decide) rfl ?_
      refine V_aload_n (pc := 32) C (dk k_F_sell 17 rfl) rfl ?_
      refine V_getm (pc := 33) (o2 := pl) C (dk k_F_sell 18 rfl) fl_F_26 kq_0 (by decide) rfl hm_pl ?_
      refine V_iload_n (pc := 36) C (dk k_F_sell 19 rfl) rfl ?_
      refine V_callV (pc := 37) C (dk k_F_sell 20 rfl) lk_F_146 cm_S_price vm_S_price (c_S_price _ _ _ 19 pl π x j t hπ0 ok hx0 xk (by omega) (by omega) (by omega)) kq_19 rfl rfl rfl (Nat.le_of_ble_eq_true rfl) (Rm.mono hRm (by decide) (by decide)) ?_
      refine V_istore_n (pc := 40) C (dk k_F_sell 21 rfl) (by rw [hXN]; decide) ?_
      dsimp only [lst, lstL, lz, kill, Fin.val, Nat.reduceAdd]
      refine V_aload_n (pc := 41) C (dk k_F_sell 22 rfl) rfl ?_
      refine V_getr (pc := 42) (o2 := 29) C (dk k_F_sell 23 rfl) fl_F_46 kq_0 (by decide) rfl (by decide) rfl ?_
      refine V_aload_n (pc := 45) C (dk k_F_sell 24 rfl) rfl ?_
      refine V_getr (pc := 46) (o2 := 19) C (dk k_F_sell 25 rfl) fl_F_36 kq_0 (by decide) rfl (by decide) rfl ?_
      refine V_callV0r (pc := 49) C (dk k_F_sell 26 rfl) lk_F_160 cm_M_push vm_M_push (c_M_push _ _ _ 29 19 π x us ok hU hx0 (by omega)) kq_29 rfl rfl rfl (Nat.le_of_ble_eq_true rfl) (Rm.mono hRm (by decide) (by decide)) (fun τ1 hq1 => ?_)
      refine V_R (fun hR => ?_)
      have g : ∀ k, (k < 29 ∨ 71 ≤ k) → τ1 k = σ k := fun k a => hq1.2 k (by omega)
      have hm2 : (τ1 0 2).toNat = pl := by rw [g 0 (by omega)]; exact hm_pl
      refine V_aload_n (pc := 52) C (dk k_F_sell 27 rfl) rfl ?_
      refine V_getr (pc := 53) (o2 := 19) C (dk k_F_sell 28 rfl) fl_F_36 kq_0 (by decide) rfl (by decide) rfl ?_
      refine V_aload_n (pc := 56) C (dk k_F_sell 29 rfl) rfl ?_
      refine V_getm (pc := 57) (o2 := pl) C (dk k_F_sell 30 rfl) fl_F_26 kq_0 (by decide) rfl hm2 ?_
      refine V_iload_n (pc := 60) C (dk k_F_sell 31 rfl) rfl ?_
      refine V_callV0r (pc := 61) C (dk k_F_sell 32 rfl) lk_F_164 cm_S_moveToCellar vm_S_moveToCellar (c_S_moveToCellar _ _ _ 19 pl π x j t (hπ0.fr (fun k a b => g k (by omega))) ok (hx0.fr (fun k a b => g k (by omega))) xk (by omega) (by omega) (by omega) (by omega)) kq_19 rfl rfl rfl (Nat.le_of_ble_eq_true rfl) (Rm.mono hRm (by decide) (by decide)) (fun τ2 hq2 => ?_)
      refine V_R (fun hR => ?_)
      refine V_iload_n (pc := 64) C (dk k_F_sell 33 rfl) rfl ?_
      refine V_iret (pc := 65) C E (dk k_F_sell 34 rfl) ?_
      rw [show o_sell π x us t = (prc π x t, (sellX π x t, (x :: us).take 8)) by unfold o_sell; rw [if_pos (by omega), if_pos (by assumption)]]
      have f : ∀ k, ¬ (19 ≤ k ∧ k < 24) → ¬ (29 ≤ k ∧ k < 71) → τ2 k = σ k := fun k a b => (hq2.2 k (by omega)).trans (g k (by omega))
      exact ⟨rfl, hC.mk2 (fun k a => f k (by omega) (by omega)) hq2.1 (hq1.1.fr (fun k a b => hq2.2 k (by omega))) (hK.fr (fun k a b => f k (by omega) (by omega))) (hl.fr (fun k a b => f k (by omega) (by omega))) (hT.fr (f 1 (by omega) (by omega)) (f 2 (by omega) (by omega))), fun k a => f k (by omega) (by omega)⟩
    · skip
      refine V_bipush (pc := 25) (n' := (-2)) C (dk k_F_sell 13 rfl) rfl ?_
      refine V_iret (pc := 27) C E (dk k_F_sell 14 rfl) ?_
      rw [show o_sell π x us t = (-2, (x, us)) by unfold o_sell; rw [if_pos (by omega), if_neg (by assumption)]]
      exact ⟨rfl, hC, Fc.rf σ⟩
  · skip
    refine V_iconst (pc := 8) C (dk k_F_sell 4 rfl) rfl ?_
    refine V_iret (pc := 9) C E (dk k_F_sell 5 rfl) ?_
    rw [show o_sell π x us t = (-1, (x, us)) from if_neg (by omega)]
    exact ⟨rfl, hC, Fc.rf σ⟩

def i_F_buyBack : List (Nat × (Instr × Nat)) := [(0, (.aload_n 0, 1)), (1, (.iload_n 1, 1)), (2, (.invokevirtual 128, 3)), (5, (.ifCond .ne 5, 3)), (8, (.iconst (-1), 1)), (9, (.ireturn, 1)), (10, (.aload_n 0, 1)), (11, (.getfield 36, 3)), (14, (.aload_n 0, 1)), (15, (.getfield 26, 3)), (18, (.iload_n 1, 1)), (19, (.invokevirtual 168, 3)), (22, (.ifCond .ne 6, 3)), (25, (.bipush (-2), 2)), (27, (.ireturn, 1)), (28, (.aload_n 0, 1)), (29, (.getfield 36, 3)), (32, (.aload_n 0, 1)), (33, (.getfield 26, 3)), (36, (.iload_n 1, 1)), (37, (.invokevirtual 146, 3)), (40, (.istore_n 2, 1)), (41, (.aload_n 0, 1)), (42, (.getfield 46, 3)), (45, (.aload_n 0, 1)), (46, (.getfield 36, 3)), (49, (.invokevirtual 160, 3)), (52, (.aload_n 0, 1)), (53, (.getfield 36, 3)), (56, (.aload_n 0, 1)), (57, (.getfield 26, 3)), (60, (.iload_n 1, 1)), (61, (.invokevirtual 171, 3)), (64, (.iload_n 2, 1)), (65, (.ireturn, 1))]
theorem k_F_buyBack : i_F_buyBack.all (fun q => decide (decode b_F_buyBack q.1 = .ok q.2)) = true := by decide +kernel

set_option maxHeartbeats 1000000 in
set_option maxRecDepth 20000 in
theorem c_F_buyBack (l : Launch) (G : GE) (σ : Wd) (pl sp : Nat) (π : PL) (x : ST) (us ks : List ST) (lk : List (Int × (Int × Int))) (tx : List Int) (j : Int) (hC : CR σ pl sp π x us ks lk tx) (hV : VK π x us ks j) (hj : j ≤ 100) (t : Int) (ht : inR t) : Ct l G y_F_buyBack b_F_buyBack 3 (some (.int)) 4 87 [vR 0, vI t] σ (Rt (some (vI (o_buy π x us t).1)) (fun σ' => CR σ' pl sp π (o_buy π x us t).2.1 (o_buy π x us t).2.2 ks lk tx ∧ Fc σ σ')) := by
  refine Ct.of cm_F_buyBack (Nat.le_of_ble_eq_true rfl) ?_
  intro X hXl hXG hXN hRm C E
  subst hXl; subst hXG
  have ⟨ht_1, ht_2⟩ := ht
  show V X 0 [some (vR 0), some (vI t), none] [] σ
  refine V_R (fun hR => ?_)
  obtain ⟨hF, hsp0, hsp, hne, hx, hU, hK, hl, hT⟩ := id hC
  obtain ⟨ok, xk, usk, ksk, ks2⟩ := id hV
  have hF0 := hF
  obtain ⟨hm_pl, hπ⟩ := hF
  have hπ0 := hπ
  obtain ⟨hpl, e0, e2, e7, e10, eT, eX⟩ := hπ
  obtain ⟨hpl_1, hpl_2, hpl_3, hpl_4, hpl_5, hpl_6⟩ := kd_P hpl
  have ⟨k1, k2, k3, k4, k5, k6, kT, kX⟩ := ok
  have hx0 := hx
  obtain ⟨hs, f0, f1, fQ, fT⟩ := hx
  simp only [Nat.reduceAdd] at fQ fT
  have ⟨x1, x2, x3, x4, xQ, xT⟩ := xk
  have p512 := kd5 hpl
  have s512 := kd5 hsp
  refine V_aload_n (pc := 0) C (dk k_F_buyBack 0 rfl) rfl ?_
  refine V_iload_n (pc := 1) C (dk k_F_buyBack 1 rfl) rfl ?_
  refine V_callV (pc := 2) C (dk k_F_buyBack 2 rfl) lk_F_128 cm_F_isThing vm_F_isThing (c_F_isThing _ _ _ pl π t hF0 ok ht) kq_0 rfl rfl rfl (Nat.le_of_ble_eq_true rfl) (Rm.mono hRm (by decide) (by decide)) ?_
  refine V_ifneB (pc := 5) C (dk k_F_buyBack 3 rfl) 10 rfl (fun h1 => ?_) (fun h1 => ?_)
  · skip
    refine V_aload_n (pc := 10) C (dk k_F_buyBack 6 rfl) rfl ?_
    refine V_getr (pc := 11) (o2 := 19) C (dk k_F_buyBack 7 rfl) fl_F_36 kq_0 (by decide) rfl (by decide) rfl ?_
    refine V_aload_n (pc := 14) C (dk k_F_buyBack 8 rfl) rfl ?_
    refine V_getm (pc := 15) (o2 := pl) C (dk k_F_buyBack 9 rfl) fl_F_26 kq_0 (by decide) rfl hm_pl ?_
    refine V_iload_n (pc := 18) C (dk k_F_buyBack 10 rfl) rfl ?_
    refine V_callV (pc := 19) C (dk k_F_buyBack 11 rfl) lk_F_168 cm_S_canBuyBack vm_S_canBuyBack (c_S_canBuyBack _ _ _ 19 pl π x j t hπ0 ok hx0 xk (by omega) (by omega) (by omega)) kq_19 rfl rfl rfl (Nat.le_of_ble_eq_true rfl) (Rm.mono hRm (by decide) (by decide)) ?_
    refine V_ifneB (pc := 22) C (dk k_F_buyBack 12 rfl) 28 rfl (fun h2 => ?_) (fun h2 => ?_)
    · skip
      refine V_aload_n (pc := 28) C (dk k_F_buyBack 15 rfl) rfl ?_
      refine V_getr (pc := 29) (o2 := 19) C (dk k_F_buyBack 16 rfl) fl_F_36 kq_0 (by decide) rfl (by decide) rfl ?_
      refine V_aload_n (pc := 32) C (dk k_F_buyBack 17 rfl) rfl ?_
      refine V_getm (pc := 33) (o2 := pl) C (dk k_F_buyBack 18 rfl) fl_F_26 kq_0 (by decide) rfl hm_pl ?_
      refine V_iload_n (pc := 36) C (dk k_F_buyBack 19 rfl) rfl ?_
      refine V_callV (pc := 37) C (dk k_F_buyBack 20 rfl) lk_F_146 cm_S_price vm_S_price (c_S_price _ _ _ 19 pl π x j t hπ0 ok hx0 xk (by omega) (by omega) (by omega)) kq_19 rfl rfl rfl (Nat.le_of_ble_eq_true rfl) (Rm.mono hRm (by decide) (by decide)) ?_
      refine V_istore_n (pc := 40) C (dk k_F_buyBack 21 rfl) (by rw [hXN]; decide) ?_
      dsimp only [lst, lstL, lz, kill, Fin.val, Nat.reduceAdd]
      refine V_aload_n (pc := 41) C (dk k_F_buyBack 22 rfl) rfl ?_
      refine V_getr (pc := 42) (o2 := 29) C (dk k_F_buyBack 23 rfl) fl_F_46 kq_0 (by decide) rfl (by decide) rfl ?_
      refine V_aload_n (pc := 45) C (dk k_F_buyBack 24 rfl) rfl ?_
      refine V_getr (pc := 46) (o2 := 19) C (dk k_F_buyBack 25 rfl) fl_F_36 kq_0 (by decide) rfl (by decide) rfl ?_
      refine V_callV0r (pc := 49) C (dk k_F_buyBack 26 rfl) lk_F_160 cm_M_push vm_M_push (c_M_push _ _ _ 29 19 π x us ok hU hx0 (by omega)) kq_29 rfl rfl rfl (Nat.le_of_ble_eq_true rfl) (Rm.mono hRm (by decide) (by decide)) (fun τ1 hq1 => ?_)
      refine V_R (fun hR => ?_)
      have g : ∀ k, (k < 29 ∨ 71 ≤ k) → τ1 k = σ k := fun k a => hq1.2 k (by omega)
      have hm2 : (τ1 0 2).toNat = pl := by rw [g 0 (by omega)]; exact hm_pl
      refine V_aload_n (pc := 52) C (dk k_F_buyBack 27 rfl) rfl ?_
      refine V_getr (pc := 53) (o2 := 19) C (dk k_F_buyBack 28 rfl) fl_F_36 kq_0 (by decide) rfl (by decide) rfl ?_
      refine V_aload_n (pc := 56) C (dk k_F_buyBack 29 rfl) rfl ?_
      refine V_getm (pc := 57) (o2 := pl) C (dk k_F_buyBack 30 rfl) fl_F_26 kq_0 (by decide) rfl hm2 ?_
      refine V_iload_n (pc := 60) C (dk k_F_buyBack 31 rfl) rfl ?_
      refine V_callV0r (pc := 61) C (dk k_F_buyBack 32 rfl) lk_F_171 cm_S_moveToPerson vm_S_moveToPerson (c_S_moveToPerson _ _ _ 19 pl π x j t (hπ0.fr (fun k a b => g k (by omega))) ok (hx0.fr (fun k a b => g k (by omega))) xk (by omega) (by omega) (by omega) (by omega)) kq_19 rfl rfl rfl (Nat.le_of_ble_eq_true rfl) (Rm.mono hRm (by decide) (by decide)) (fun τ2 hq2 => ?_)
      refine V_R (fun hR => ?_)
      refine V_iload_n (pc := 64) C (dk k_F_buyBack 33 rfl) rfl ?_
      refine V_iret (pc := 65) C E (dk k_F_buyBack 34 rfl) ?_
      rw [show o_buy π x us t = (prc π x t, (buyX π x t, (x :: us).take 8)) by unfold o_buy; rw [if_pos (by omega), if_pos (by assumption)]]
      have f : ∀ k, ¬ (19 ≤ k ∧ k < 24) → ¬ (29 ≤ k ∧ k < 71) → τ2 k = σ k := fun k a b => (hq2.2 k (by omega)).trans (g k (by omega))
      exact ⟨rfl, hC.mk2 (fun k a => f k (by omega) (by omega)) hq2.1 (hq1.1.fr (fun k a b => hq2.2 k (by omega))) (hK.fr (fun k a b => f k (by omega) (by omega))) (hl.fr (fun k a b => f k (by omega) (by omega))) (hT.fr (f 1 (by omega) (by omega)) (f 2 (by omega) (by omega))), fun k a => f k (by omega) (by omega)⟩
    · skip
      refine V_bipush (pc := 25) (n' := (-2)) C (dk k_F_buyBack 13 rfl) rfl ?_
      refine V_iret (pc := 27) C E (dk k_F_buyBack 14 rfl) ?_
      rw [show o_buy π x us t = (-2, (x, us)) by unfold o_buy; rw [if_pos (by omega), if_neg (by assumption)]]
      exact ⟨rfl, hC, Fc.rf σ⟩
  · skip
    refine V_iconst (pc := 8) C (dk k_F_buyBack 4 rfl) rfl ?_
    refine V_iret (pc := 9) C E (dk k_F_buyBack 5 rfl) ?_
    rw [show o_buy π x us t = (-1, (x, us)) from if_neg (by omega)]
    exact ⟨rfl, hC, Fc.rf σ⟩


def i_F_see : List (Nat × (Instr × Nat)) := [(0, (.aload_n 0, 1)), (1, (.iload_n 1, 1)), (2, (.invokevirtual 128, 3)), (5, (.ifCond .eq 23, 3)), (8, (.iload_n 2, 1)), (9, (.iconst 0, 1)), (10, (.bipush 20, 2)), (12, (.invokestatic 98, 3)), (15, (.ifCond .eq 13, 3)), (18, (.iload_n 3, 1)), (19, (.iconst 0, 1)), (20, (.bipush 99, 2)), (22, (.invokestatic 98, 3)), (25, (.ifCond .ne 5, 3)), (28, (.iconst (-1), 1)), (29, (.ireturn, 1)), (30, (.aload_n 0, 1)), (31, (.getfield 56, 3)), (34, (.iload_n 1, 1)), (35, (.iload_n 2, 1)), (36, (.iload_n 3, 1)), (37, (.invokevirtual 233, 3)), (40, (.ifCond .eq 13, 3)), (43, (.aload_n 0, 1)), (44, (.getfield 56, 3)), (47, (.getfield 235, 3)), (50, (.goto 5, 3)), (53, (.bipush (-3), 2)), (55, (.ireturn, 1))]
theorem k_F_see : i_F_see.all (fun q => decide (decode b_F_see q.1 = .ok q.2)) = true := by decide +kernel

set_option maxHeartbeats 1000000 in
set_option maxRecDepth 20000 in
theorem c_F_see (l : Launch) (G : GE) (σ : Wd) (pl sp : Nat) (π : PL) (x : ST) (us ks : List ST) (lk : List (Int × (Int × Int))) (tx : List Int) (j : Int) (hC : CR σ pl sp π x us ks lk tx) (hV : VK π x us ks j) (hj : j ≤ 100) (t n v : Int) (ht : inR t) (hn : inR n) (hv : inR v) : Ct l G y_F_see b_F_see 4 (some (.int)) 2 45 [vR 0, vI t, vI n, vI v] σ (Rt (some (vI (o_see π lk t n v).1)) (fun σ' => CR σ' pl sp π x us ks (o_see π lk t n v).2 tx ∧ Fc σ σ')) := by
  refine Ct.of cm_F_see (Nat.le_of_ble_eq_true rfl) ?_
  intro X hXl hXG hXN hRm C E
  subst hXl; subst hXG
  have ⟨ht_1, ht_2⟩ := ht
  have ⟨hn_1, hn_2⟩ := hn
  have ⟨hv_1, hv_2⟩ := hv
  show V X 0 [some (vR 0), some (vI t), some (vI n), some (vI v)] [] σ
  refine V_R (fun hR => ?_)
  obtain ⟨hF, hsp0, hsp, hne, hx, hU, hK, hl, hT⟩ := id hC
  obtain ⟨ok, xk, usk, ksk, ks2⟩ := id hV
  have hF0 := hF
  obtain ⟨hm_pl, hπ⟩ := hF
  have hπ0 := hπ
  obtain ⟨hpl, e0, e2, e7, e10, eT, eX⟩ := hπ
  obtain ⟨hpl_1, hpl_2, hpl_3, hpl_4, hpl_5, hpl_6⟩ := kd_P hpl
  have ⟨k1, k2, k3, k4, k5, k6, kT, kX⟩ := ok
  have hx0 := hx
  obtain ⟨hs, f0, f1, fQ, fT⟩ := hx
  simp only [Nat.reduceAdd] at fQ fT
  have ⟨x1, x2, x3, x4, xQ, xT⟩ := xk
  have p512 := kd5 hpl
  have s512 := kd5 hsp
  obtain ⟨l1, l2, l3⟩ := id hl
  refine V_aload_n (pc := 0) C (dk k_F_see 0 rfl) rfl ?_
  refine V_iload_n (pc := 1) C (dk k_F_see 1 rfl) rfl ?_
  refine V_callV (pc := 2) C (dk k_F_see 2 rfl) lk_F_128 cm_F_isThing vm_F_isThing (c_F_isThing _ _ _ pl π t hF0 ok ht) kq_0 rfl rfl rfl (Nat.le_of_ble_eq_true rfl) (Rm.mono hRm (by decide) (by decide)) ?_
  refine V_ifeqB (pc := 5) C (dk k_F_see 3 rfl) 28 rfl (fun h1 => ?_) (fun h1 => ?_)
  · skip
    refine V_iconst (pc := 28) C (dk k_F_see 14 rfl) rfl ?_
    refine V_iret (pc := 29) C E (dk k_F_see 15 rfl) ?_
    rw [show o_see π lk t n v = (-1, lk) from if_neg (by omega)]
    exact ⟨rfl, hC, Fc.rf σ⟩
  · skip
    refine V_iload_n (pc := 8) C (dk k_F_see 4 rfl) rfl ?_
    refine V_iconst (pc := 9) C (dk k_F_see 5 rfl) rfl ?_
    refine V_bipush (pc := 10) (n' := 20) C (dk k_F_see 6 rfl) rfl ?_
    refine V_callS (pc := 12) C (dk k_F_see 7 rfl) lk_F_98 cm_F_within sm_F_within (c_F_within _ _ _ n 0 20 hn ⟨by decide, by decide⟩ ⟨by decide, by decide⟩) rfl rfl (Nat.le_of_ble_eq_true rfl) (Rm.mono hRm (by decide) (by decide)) ?_
    refine V_ifeqB (pc := 15) C (dk k_F_see 8 rfl) 28 rfl (fun h2 => ?_) (fun h2 => ?_)
    · skip
      refine V_iconst (pc := 28) C (dk k_F_see 14 rfl) rfl ?_
      refine V_iret (pc := 29) C E (dk k_F_see 15 rfl) ?_
      rw [show o_see π lk t n v = (-1, lk) from if_neg (by omega)]
      exact ⟨rfl, hC, Fc.rf σ⟩
    · skip
      refine V_iload_n (pc := 18) C (dk k_F_see 9 rfl) rfl ?_
      refine V_iconst (pc := 19) C (dk k_F_see 10 rfl) rfl ?_
      refine V_bipush (pc := 20) (n' := 99) C (dk k_F_see 11 rfl) rfl ?_
      refine V_callS (pc := 22) C (dk k_F_see 12 rfl) lk_F_98 cm_F_within sm_F_within (c_F_within _ _ _ v 0 99 hv ⟨by decide, by decide⟩ ⟨by decide, by decide⟩) rfl rfl (Nat.le_of_ble_eq_true rfl) (Rm.mono hRm (by decide) (by decide)) ?_
      refine V_ifneB (pc := 25) C (dk k_F_see 13 rfl) 30 rfl (fun h3 => ?_) (fun h3 => ?_)
      · skip
        refine V_aload_n (pc := 30) C (dk k_F_see 16 rfl) rfl ?_
        refine V_getr (pc := 31) (o2 := 113) C (dk k_F_see 17 rfl) fl_F_56 kq_0 (by decide) rfl (by decide) rfl ?_
        refine V_iload_n (pc := 34) C (dk k_F_see 18 rfl) rfl ?_
        refine V_iload_n (pc := 35) C (dk k_F_see 19 rfl) rfl ?_
        refine V_iload_n (pc := 36) C (dk k_F_see 20 rfl) rfl ?_
        refine V_callV (pc := 37) C (dk k_F_see 21 rfl) lk_F_233 cm_K_add vm_K_add (c_K_add _ _ _ t n v ht hn hv (by omega) (by omega)) kq_113 rfl rfl rfl (Nat.le_of_ble_eq_true rfl) (Rm.mono hRm (by decide) (by decide)) ?_
        refine V_ifeqB (pc := 40) C (dk k_F_see 22 rfl) 53 rfl (fun h4 => ?_) (fun h4 => ?_)
        · skip
          rw [if_neg (by assumption)]
          refine V_R (fun hR => ?_)
          refine V_bipush (pc := 53) (n' := (-3)) C (dk k_F_see 27 rfl) rfl ?_
          refine V_iret (pc := 55) C E (dk k_F_see 28 rfl) ?_
          first | (rw [show o_see π lk t n v = (-3, lk) by unfold o_see; rw [if_pos (by omega), if_neg (by omega)]]; exact ⟨rfl, hC, Fc.rf σ⟩) | (rw [show o_see π lk t n v = ((lk.length : Int) + 1, lk ++ [(t, (n, v))]) by unfold o_see; rw [if_pos (by omega), if_pos (by omega)]]; have f : ∀ k, (k < 113 ∨ 117 ≤ k) → up (up (up (up σ 114 (σ 113 3) t) 115 (σ 113 3) n) 116 (σ 113 3) v) 113 3 (σ 113 3 + 1) k = σ k := (fun k a => by simp (disch := omega) only [up_row]); exact ⟨by rw [up_at, l1], hC.mk2 (fun k a => f k (by omega)) (hx0.fr (fun k a b => f k (by omega))) (hU.fr (fun k a b => f k (by omega))) (hK.fr (fun k a b => f k (by omega))) (hl.add (by omega) (by omega) (by omega) (by omega) (by omega)) (hT.fr (f 1 (by omega)) (f 2 (by omega))), fun k a => f k (by omega)⟩)
        · skip
          rw [if_pos (by assumption)]
          refine V_R (fun hR => ?_)
          refine V_aload_n (pc := 43) C (dk k_F_see 23 rfl) rfl ?_
          refine V_getr (pc := 44) (o2 := 113) C (dk k_F_see 24 rfl) fl_F_56 kq_0 (by decide) rfl (by decide) rfl ?_
          refine V_geti (pc := 47) (ji := 3) C (dk k_F_see 25 rfl) fl_F_235 kq_113 (by decide) rfl rfl ?_
          refine V_goto (pc := 50) C (dk k_F_see 26 rfl) 55 rfl ?_
          refine V_iret (pc := 55) C E (dk k_F_see 28 rfl) ?_
          first | (rw [show o_see π lk t n v = (-3, lk) by unfold o_see; rw [if_pos (by omega), if_neg (by omega)]]; exact ⟨rfl, hC, Fc.rf σ⟩) | (rw [show o_see π lk t n v = ((lk.length : Int) + 1, lk ++ [(t, (n, v))]) by unfold o_see; rw [if_pos (by omega), if_pos (by omega)]]; have f : ∀ k, (k < 113 ∨ 117 ≤ k) → up (up (up (up σ 114 (σ 113 3) t) 115 (σ 113 3) n) 116 (σ 113 3) v) 113 3 (σ 113 3 + 1) k = σ k := (fun k a => by simp (disch := omega) only [up_row]); exact ⟨by rw [up_at, l1], hC.mk2 (fun k a => f k (by omega)) (hx0.fr (fun k a b => f k (by omega))) (hU.fr (fun k a b => f k (by omega))) (hK.fr (fun k a b => f k (by omega))) (hl.add (by omega) (by omega) (by omega) (by omega) (by omega)) (hT.fr (f 1 (by omega)) (f 2 (by omega))), fun k a => f k (by omega)⟩)
      · skip
        refine V_iconst (pc := 28) C (dk k_F_see 14 rfl) rfl ?_
        refine V_iret (pc := 29) C E (dk k_F_see 15 rfl) ?_
        rw [show o_see π lk t n v = (-1, lk) from if_neg (by omega)]
        exact ⟨rfl, hC, Fc.rf σ⟩

def i_F_forget : List (Nat × (Instr × Nat)) := [(0, (.aload_n 0, 1)), (1, (.getfield 56, 3)), (4, (.getfield 235, 3)), (7, (.istore_n 1, 1)), (8, (.aload_n 0, 1)), (9, (.getfield 56, 3)), (12, (.iconst 0, 1)), (13, (.putfield 235, 3)), (16, (.iload_n 1, 1)), (17, (.ireturn, 1))]
theorem k_F_forget : i_F_forget.all (fun q => decide (decode b_F_forget q.1 = .ok q.2)) = true := by decide +kernel

set_option maxHeartbeats 1000000 in
set_option maxRecDepth 20000 in
theorem c_F_forget (l : Launch) (G : GE) (σ : Wd) (pl sp : Nat) (π : PL) (x : ST) (us ks : List ST) (lk : List (Int × (Int × Int))) (tx : List Int) (j : Int) (hC : CR σ pl sp π x us ks lk tx) (hV : VK π x us ks j) (hj : j ≤ 100) : Ct l G y_F_forget b_F_forget 2 (some (.int)) 0 0 [vR 0] σ (Rt (some (vI lk.length)) (fun σ' => CR σ' pl sp π x us ks [] tx ∧ Fc σ σ')) := by
  refine Ct.of cm_F_forget (Nat.le_of_ble_eq_true rfl) ?_
  intro X hXl hXG hXN hRm C E
  subst hXl; subst hXG
  show V X 0 [some (vR 0), none] [] σ
  refine V_R (fun hR => ?_)
  obtain ⟨hF, hsp0, hsp, hne, hx, hU, hK, hl, hT⟩ := id hC
  obtain ⟨ok, xk, usk, ksk, ks2⟩ := id hV
  have hF0 := hF
  obtain ⟨hm_pl, hπ⟩ := hF
  have hπ0 := hπ
  obtain ⟨hpl, e0, e2, e7, e10, eT, eX⟩ := hπ
  obtain ⟨hpl_1, hpl_2, hpl_3, hpl_4, hpl_5, hpl_6⟩ := kd_P hpl
  have ⟨k1, k2, k3, k4, k5, k6, kT, kX⟩ := ok
  have hx0 := hx
  obtain ⟨hs, f0, f1, fQ, fT⟩ := hx
  simp only [Nat.reduceAdd] at fQ fT
  have ⟨x1, x2, x3, x4, xQ, xT⟩ := xk
  have p512 := kd5 hpl
  have s512 := kd5 hsp
  obtain ⟨l1, l2, l3⟩ := id hl
  refine V_aload_n (pc := 0) C (dk k_F_forget 0 rfl) rfl ?_
  refine V_getr (pc := 1) (o2 := 113) C (dk k_F_forget 1 rfl) fl_F_56 kq_0 (by decide) rfl (by decide) rfl ?_
  refine V_geti (pc := 4) (ji := 3) C (dk k_F_forget 2 rfl) fl_F_235 kq_113 (by decide) rfl rfl ?_
  refine V_istore_n (pc := 7) C (dk k_F_forget 3 rfl) (by rw [hXN]; decide) ?_
  dsimp only [lst, lstL, lz, kill, Fin.val, Nat.reduceAdd]
  refine V_aload_n (pc := 8) C (dk k_F_forget 4 rfl) rfl ?_
  refine V_getr (pc := 9) (o2 := 113) C (dk k_F_forget 5 rfl) fl_F_56 kq_0 (by decide) rfl (by decide) rfl ?_
  refine V_iconst (pc := 12) C (dk k_F_forget 6 rfl) rfl ?_
  refine V_puti (pc := 13) (ji := 3) C (dk k_F_forget 7 rfl) fl_F_235 fw_3_3 kq_113 (by decide) rfl rfl R0 ?_
  refine V_R (fun hR => ?_)
  refine V_iload_n (pc := 16) C (dk k_F_forget 8 rfl) rfl ?_
  refine V_iret (pc := 17) C E (dk k_F_forget 9 rfl) ?_
  have f : ∀ k, k ≠ 113 → up σ 113 3 0 k = σ k := fun k a => up_row _ _ _ a
  exact ⟨by rw [l1], hC.mk2 (fun k a => f k (by omega)) (hx0.fr (fun k a b => f k (by omega))) (hU.fr (fun k a b => f k (by omega))) (hK.fr (fun k a b => f k (by omega))) ⟨by rw [up_at]; rfl, by simp, fun k c h => by simp at h⟩ (hT.fr (f 1 (by omega)) (f 2 (by omega))), fun k a => f k (by omega)⟩

def i_F_behind : List (Nat × (Instr × Nat)) := [(0, (.iload_n 1, 1)), (1, (.iconst 0, 1)), (2, (.bipush 40, 2)), (4, (.invokestatic 98, 3)), (7, (.ifCond .eq 11, 3)), (10, (.aload_n 0, 1)), (11, (.iload_n 2, 1)), (12, (.invokevirtual 128, 3)), (15, (.ifCond .ne 5, 3)), (18, (.iconst (-1), 1)), (19, (.ireturn, 1)), (20, (.aload_n 0, 1)), (21, (.getfield 36, 3)), (24, (.getfield 143, 3)), (27, (.iload_n 2, 1)), (28, (.invokestatic 117, 3)), (31, (.iconst 1, 1)), (32, (.if_icmp .eq 15, 3)), (35, (.aload_n 0, 1)), (36, (.getfield 36, 3)), (39, (.getfield 137, 3)), (42, (.iload_n 2, 1)), (43, (.invokestatic 117, 3)), (46, (.ireturn, 1)), (47, (.aload_n 0, 1)), (48, (.iload_n 2, 1)), (49, (.aload_n 0, 1)), (50, (.getfield 26, 3)), (53, (.getfield 134, 3)), (56, (.iload_n 2, 1)), (57, (.invokestatic 117, 3)), (60, (.iload_n 1, 1)), (61, (.invokevirtual 185, 3)), (64, (.ireturn, 1))]
theorem k_F_behind : i_F_behind.all (fun q => decide (decode b_F_behind q.1 = .ok q.2)) = true := by decide +kernel

set_option maxHeartbeats 1000000 in
set_option maxRecDepth 20000 in
theorem c_F_behind (l : Launch) (G : GE) (σ : Wd) (pl sp : Nat) (π : PL) (x : ST) (us ks : List ST) (lk : List (Int × (Int × Int))) (tx : List Int) (j : Int) (hC : CR σ pl sp π x us ks lk tx) (hV : VK π x us ks j) (hj : j ≤ 100) (n t : Int) (hn : inR n) (ht : inR t) : Ct l G y_F_behind b_F_behind 3 (some (.int)) 3 73 [vR 0, vI n, vI t] σ (Dt (some (vI (o_behind π x n t))) σ) := by
  refine Ct.of cm_F_behind (Nat.le_of_ble_eq_true rfl) ?_
  intro X hXl hXG hXN hRm C E
  subst hXl; subst hXG
  have ⟨hn_1, hn_2⟩ := hn
  have ⟨ht_1, ht_2⟩ := ht
  show V X 0 [some (vR 0), some (vI n), some (vI t)] [] σ
  refine V_R (fun hR => ?_)
  obtain ⟨hF, hsp0, hsp, hne, hx, hU, hK, hl, hT⟩ := id hC
  obtain ⟨ok, xk, usk, ksk, ks2⟩ := id hV
  have hF0 := hF
  obtain ⟨hm_pl, hπ⟩ := hF
  have hπ0 := hπ
  obtain ⟨hpl, e0, e2, e7, e10, eT, eX⟩ := hπ
  obtain ⟨hpl_1, hpl_2, hpl_3, hpl_4, hpl_5, hpl_6⟩ := kd_P hpl
  have ⟨k1, k2, k3, k4, k5, k6, kT, kX⟩ := ok
  have hx0 := hx
  obtain ⟨hs, f0, f1, fQ, fT⟩ := hx
  simp only [Nat.reduceAdd] at fQ fT
  have ⟨x1, x2, x3, x4, xQ, xT⟩ := xk
  have p512 := kd5 hpl
  have s512 := kd5 hsp
  refine V_iload_n (pc := 0) C (dk k_F_behind 0 rfl) rfl ?_
  refine V_iconst (pc := 1) C (dk k_F_behind 1 rfl) rfl ?_
  refine V_bipush (pc := 2) (n' := 40) C (dk k_F_behind 2 rfl) rfl ?_
  refine V_callS (pc := 4) C (dk k_F_behind 3 rfl) lk_F_98 cm_F_within sm_F_within (c_F_within _ _ _ n 0 40 hn ⟨by decide, by decide⟩ ⟨by decide, by decide⟩) rfl rfl (Nat.le_of_ble_eq_true rfl) (Rm.mono hRm (by decide) (by decide)) ?_
  refine V_ifeqB (pc := 7) C (dk k_F_behind 4 rfl) 18 rfl (fun h1 => ?_) (fun h1 => ?_)
  · skip
    refine V_iconst (pc := 18) C (dk k_F_behind 9 rfl) rfl ?_
    refine V_iret (pc := 19) C E (dk k_F_behind 10 rfl) ?_
    exact ⟨by unfold o_behind; rw [if_neg (by omega)], rfl⟩
  · skip
    refine V_aload_n (pc := 10) C (dk k_F_behind 5 rfl) rfl ?_
    refine V_iload_n (pc := 11) C (dk k_F_behind 6 rfl) rfl ?_
    refine V_callV (pc := 12) C (dk k_F_behind 7 rfl) lk_F_128 cm_F_isThing vm_F_isThing (c_F_isThing _ _ _ pl π t hF0 ok ht) kq_0 rfl rfl rfl (Nat.le_of_ble_eq_true rfl) (Rm.mono hRm (by decide) (by decide)) ?_
    refine V_ifneB (pc := 15) C (dk k_F_behind 8 rfl) 20 rfl (fun h2 => ?_) (fun h2 => ?_)
    · skip
      obtain ⟨gN, gP⟩ := fT t (by omega) (by omega)
      obtain ⟨gO, gK, gU⟩ := eT t (by omega) (by omega)
      obtain ⟨kO0, kO1, kK0, kK1, kU0, kU1⟩ := kT t (by omega) (by omega)
      refine V_aload_n (pc := 20) C (dk k_F_behind 11 rfl) rfl ?_
      refine V_getr (pc := 21) (o2 := 19) C (dk k_F_behind 12 rfl) fl_F_36 kq_0 (by decide) rfl (by decide) rfl ?_
      refine V_getr (pc := 24) (o2 := 23) C (dk k_F_behind 13 rfl) fl_F_143 kq_19 (by decide) rfl (by decide) rfl ?_
      refine V_iload_n (pc := 27) C (dk k_F_behind 14 rfl) rfl ?_
      refine V_callS (pc := 28) C (dk k_F_behind 15 rfl) lk_F_117 cm_F_at sm_F_at (c_at _ _ _ (23) 8 t kq_23 (by decide) (by omega) (by omega)) rfl rfl (Nat.le_of_ble_eq_true rfl) (Rm.mono hRm (by decide) (by decide)) ?_
      refine V_iconst (pc := 31) C (dk k_F_behind 16 rfl) rfl ?_
      refine V_icmpeq (pc := 32) C (dk k_F_behind 17 rfl) 47 rfl (by first | exact hR _ _ | with_reducible assumption | exact ⟨by omega, by omega⟩) (by first | exact hR _ _ | with_reducible assumption | exact ⟨by omega, by omega⟩) (fun h3 => ?_) (fun h3 => ?_)
      · skip
        refine V_aload_n (pc := 47) C (dk k_F_behind 24 rfl) rfl ?_
        refine V_iload_n (pc := 48) C (dk k_F_behind 25 rfl) rfl ?_
        refine V_aload_n (pc := 49) C (dk k_F_behind 26 rfl) rfl ?_
        refine V_getm (pc := 50) (o2 := pl) C (dk k_F_behind 27 rfl) fl_F_26 kq_0 (by decide) rfl hm_pl ?_
        refine V_getr (pc := 53) (o2 := pl + 3) C (dk k_F_behind 28 rfl) fl_F_134 hpl (by decide) rfl (by decide) rfl ?_
        refine V_iload_n (pc := 56) C (dk k_F_behind 29 rfl) rfl ?_
        refine V_callS (pc := 57) C (dk k_F_behind 30 rfl) lk_F_117 cm_F_at sm_F_at (c_at _ _ _ (pl + 3) 8 t hpl_3 (by decide) (by omega) (by omega)) rfl rfl (Nat.le_of_ble_eq_true rfl) (Rm.mono hRm (by decide) (by decide)) ?_
        rw [gK]
        refine V_iload_n (pc := 60) C (dk k_F_behind 31 rfl) rfl ?_
        refine V_callV (pc := 61) C (dk k_F_behind 32 rfl) lk_F_185 cm_F_nearInCellar vm_F_nearInCellar (c_F_nearInCellar _ _ _ pl π x j t (pK π t) n hF0 ok hx0 xk (by omega) (by omega) (by omega) ⟨by omega, by omega⟩ (by omega) (by omega)) kq_0 rfl rfl rfl (Nat.le_of_ble_eq_true rfl) (Rm.mono hRm (by decide) (by decide)) ?_
        refine V_iret (pc := 64) C E (dk k_F_behind 33 rfl) ?_
        exact ⟨by unfold o_behind; rw [if_pos (by omega), if_pos (by omega)], rfl⟩
      · skip
        refine V_aload_n (pc := 35) C (dk k_F_behind 18 rfl) rfl ?_
        refine V_getr (pc := 36) (o2 := 19) C (dk k_F_behind 19 rfl) fl_F_36 kq_0 (by decide) rfl (by decide) rfl ?_
        refine V_getr (pc := 39) (o2 := 22) C (dk k_F_behind 20 rfl) fl_F_137 kq_19 (by decide) rfl (by decide) rfl ?_
        refine V_iload_n (pc := 42) C (dk k_F_behind 21 rfl) rfl ?_
        refine V_callS (pc := 43) C (dk k_F_behind 22 rfl) lk_F_117 cm_F_at sm_F_at (c_at _ _ _ (22) 8 t kq_22 (by decide) (by omega) (by omega)) rfl rfl (Nat.le_of_ble_eq_true rfl) (Rm.mono hRm (by decide) (by decide)) ?_
        refine V_iret (pc := 46) C E (dk k_F_behind 23 rfl) ?_
        exact ⟨by unfold o_behind; rw [if_pos (by omega), if_neg (by omega), gN], rfl⟩
    · skip
      refine V_iconst (pc := 18) C (dk k_F_behind 9 rfl) rfl ?_
      refine V_iret (pc := 19) C E (dk k_F_behind 10 rfl) ?_
      exact ⟨by unfold o_behind; rw [if_neg (by omega)], rfl⟩

def i_F_count : List (Nat × (Instr × Nat)) := [(0, (.iload_n 1, 1)), (1, (.tableswitch 173 0 11 #[63, 71, 79, 87, 95, 103, 116, 129, 141, 149, 157, 165], 63)), (64, (.aload_n 0, 1)), (65, (.getfield 26, 3)), (68, (.getfield 106, 3)), (71, (.ireturn, 1)), (72, (.aload_n 0, 1)), (73, (.getfield 26, 3)), (76, (.getfield 196, 3)), (79, (.ireturn, 1)), (80, (.aload_n 0, 1)), (81, (.getfield 36, 3)), (84, (.getfield 206, 3)), (87, (.ireturn, 1)), (88, (.aload_n 0, 1)), (89, (.getfield 26, 3)), (92, (.getfield 257, 3)), (95, (.ireturn, 1)), (96, (.aload_n 0, 1)), (97, (.getfield 36, 3)), (100, (.getfield 149, 3)), (103, (.ireturn, 1)), (104, (.aload_n 0, 1)), (105, (.getfield 36, 3)), (108, (.aload_n 0, 1)), (109, (.getfield 26, 3)), (112, (.iconst 1, 1)), (113, (.invokevirtual 260, 3)), (116, (.ireturn, 1)), (117, (.aload_n 0, 1)), (118, (.getfield 36, 3)), (121, (.aload_n 0, 1)), (122, (.getfield 26, 3)), (125, (.iconst 2, 1)), (126, (.invokevirtual 260, 3)), (129, (.ireturn, 1)), (130, (.aload_n 0, 1)), (131, (.getfield 36, 3)), (134, (.aload_n 0, 1)), (135, (.getfield 26, 3)), (138, (.invokevirtual 192, 3)), (141, (.ireturn, 1)), (142, (.aload_n 0, 1)), (143, (.getfield 56, 3)), (146, (.getfield 235, 3)), (149, (.ireturn, 1)), (150, (.aload_n 0, 1)), (151, (.getfield 46, 3)), (154, (.getfield 182, 3)), (157, (.ireturn, 1)), (158, (.aload_n 0, 1)), (159, (.getfield 50, 3)), (162, (.getfield 182, 3)), (165, (.ireturn, 1)), (166, (.aload_n 0, 1)), (167, (.getfield 10, 3)), (170, (.getfield 94, 3)), (173, (.ireturn, 1)), (174, (.iconst (-1), 1)), (175, (.ireturn, 1))]
theorem k_F_count : i_F_count.all (fun q => decide (decode b_F_count q.1 = .ok q.2)) = true := by decide +kernel

set_option maxHeartbeats 1000000 in
set_option maxRecDepth 20000 in
theorem c_F_count (l : Launch) (G : GE) (σ : Wd) (pl sp : Nat) (π : PL) (x : ST) (us ks : List ST) (lk : List (Int × (Int × Int))) (tx : List Int) (j : Int) (hC : CR σ pl sp π x us ks lk tx) (hV : VK π x us ks j) (hj : j ≤ 100) (k : Int) (hk : inR k) : Ct l G y_F_count b_F_count 2 (some (.int)) 2 45 [vR 0, vI k] σ (Dt (some (vI (o_count π x us ks lk tx k))) σ) := by
  refine Ct.of cm_F_count (Nat.le_of_ble_eq_true rfl) ?_
  intro X hXl hXG hXN hRm C E
  subst hXl; subst hXG
  have ⟨hk_1, hk_2⟩ := hk
  show V X 0 [some (vR 0), some (vI k)] [] σ
  refine V_R (fun hR => ?_)
  obtain ⟨hF, hsp0, hsp, hne, hx, hU, hK, hl, hT⟩ := id hC
  obtain ⟨ok, xk, usk, ksk, ks2⟩ := id hV
  have hF0 := hF
  obtain ⟨hm_pl, hπ⟩ := hF
  have hπ0 := hπ
  obtain ⟨hpl, e0, e2, e7, e10, eT, eX⟩ := hπ
  obtain ⟨hpl_1, hpl_2, hpl_3, hpl_4, hpl_5, hpl_6⟩ := kd_P hpl
  have ⟨k1, k2, k3, k4, k5, k6, kT, kX⟩ := ok
  have hx0 := hx
  obtain ⟨hs, f0, f1, fQ, fT⟩ := hx
  simp only [Nat.reduceAdd] at fQ fT
  have ⟨x1, x2, x3, x4, xQ, xT⟩ := xk
  have p512 := kd5 hpl
  have s512 := kd5 hsp
  obtain ⟨l1, l2, l3⟩ := id hl
  obtain ⟨t1, t2, t3⟩ := id hT
  obtain ⟨-, -, -, u3, -, -⟩ := id hU
  obtain ⟨-, -, -, w3, -, -⟩ := id hK
  refine V_iload_n (pc := 0) C (dk k_F_count 0 rfl) rfl ?_
  refine V_switch (pc := 1) C (dk k_F_count 1 rfl) (by first | exact hR _ _ | with_reducible assumption | exact ⟨by omega, by omega⟩) (fun h1 tgt ht => ?_) ⟨174, rfl⟩ (fun h1 h1b => ?_)
  · obtain rfl : tgt = 174 := by omega
    refine V_iconst (pc := 174) C (dk k_F_count 58 rfl) rfl ?_
    refine V_iret (pc := 175) C E (dk k_F_count 59 rfl) ?_
    exact ⟨by unfold o_count; rw [if_neg (by omega), if_neg (by omega), if_neg (by omega), if_neg (by omega), if_neg (by omega), if_neg (by omega), if_neg (by omega), if_neg (by omega), if_neg (by omega), if_neg (by omega), if_neg (by omega), if_neg (by omega)], rfl⟩
  · skip
    have h1c : k = 0 ∨ k = 1 ∨ k = 2 ∨ k = 3 ∨ k = 4 ∨ k = 5 ∨ k = 6 ∨ k = 7 ∨ k = 8 ∨ k = 9 ∨ k = 10 ∨ k = 11 := by omega
    rcases h1c with h1d | h1d | h1d | h1d | h1d | h1d | h1d | h1d | h1d | h1d | h1d | h1d
    · refine ⟨63, 64, by rw [h1d]; rfl, rfl, ?_⟩
      refine V_aload_n (pc := 64) C (dk k_F_count 2 rfl) rfl ?_
      refine V_getm (pc := 65) (o2 := pl) C (dk k_F_count 3 rfl) fl_F_26 kq_0 (by decide) rfl hm_pl ?_
      refine V_geti (pc := 68) (ji := 0) C (dk k_F_count 4 rfl) fl_F_106 hpl (by decide) rfl rfl ?_
      refine V_iret (pc := 71) C E (dk k_F_count 5 rfl) ?_
      exact ⟨by unfold o_count; rw [if_pos (by omega), e0], rfl⟩
    · refine ⟨71, 72, by rw [h1d]; rfl, rfl, ?_⟩
      refine V_aload_n (pc := 72) C (dk k_F_count 6 rfl) rfl ?_
      refine V_getm (pc := 73) (o2 := pl) C (dk k_F_count 7 rfl) fl_F_26 kq_0 (by decide) rfl hm_pl ?_
      refine V_geti (pc := 76) (ji := 2) C (dk k_F_count 8 rfl) fl_F_196 hpl (by decide) rfl rfl ?_
      refine V_iret (pc := 79) C E (dk k_F_count 9 rfl) ?_
      exact ⟨by unfold o_count; rw [if_neg (by omega), if_pos (by omega), e2], rfl⟩
    · refine ⟨79, 80, by rw [h1d]; rfl, rfl, ?_⟩
      refine V_aload_n (pc := 80) C (dk k_F_count 10 rfl) rfl ?_
      refine V_getr (pc := 81) (o2 := 19) C (dk k_F_count 11 rfl) fl_F_36 kq_0 (by decide) rfl (by decide) rfl ?_
      refine V_geti (pc := 84) (ji := 1) C (dk k_F_count 12 rfl) fl_F_206 kq_19 (by decide) rfl rfl ?_
      refine V_iret (pc := 87) C E (dk k_F_count 13 rfl) ?_
      exact ⟨by unfold o_count; rw [if_neg (by omega), if_neg (by omega), if_pos (by omega), f1], rfl⟩
    · refine ⟨87, 88, by rw [h1d]; rfl, rfl, ?_⟩
      refine V_aload_n (pc := 88) C (dk k_F_count 14 rfl) rfl ?_
      refine V_getm (pc := 89) (o2 := pl) C (dk k_F_count 15 rfl) fl_F_26 kq_0 (by decide) rfl hm_pl ?_
      refine V_geti (pc := 92) (ji := 10) C (dk k_F_count 16 rfl) fl_F_257 hpl (by decide) rfl rfl ?_
      refine V_iret (pc := 95) C E (dk k_F_count 17 rfl) ?_
      exact ⟨by unfold o_count; rw [if_neg (by omega), if_neg (by omega), if_neg (by omega), if_pos (by omega), e10], rfl⟩
    · refine ⟨95, 96, by rw [h1d]; rfl, rfl, ?_⟩
      refine V_aload_n (pc := 96) C (dk k_F_count 18 rfl) rfl ?_
      refine V_getr (pc := 97) (o2 := 19) C (dk k_F_count 19 rfl) fl_F_36 kq_0 (by decide) rfl (by decide) rfl ?_
      refine V_geti (pc := 100) (ji := 0) C (dk k_F_count 20 rfl) fl_F_149 kq_19 (by decide) rfl rfl ?_
      refine V_iret (pc := 103) C E (dk k_F_count 21 rfl) ?_
      exact ⟨by unfold o_count; rw [if_neg (by omega), if_neg (by omega), if_neg (by omega), if_neg (by omega), if_pos (by omega), f0], rfl⟩
    · refine ⟨103, 104, by rw [h1d]; rfl, rfl, ?_⟩
      refine V_aload_n (pc := 104) C (dk k_F_count 22 rfl) rfl ?_
      refine V_getr (pc := 105) (o2 := 19) C (dk k_F_count 23 rfl) fl_F_36 kq_0 (by decide) rfl (by decide) rfl ?_
      refine V_aload_n (pc := 108) C (dk k_F_count 24 rfl) rfl ?_
      refine V_getm (pc := 109) (o2 := pl) C (dk k_F_count 25 rfl) fl_F_26 kq_0 (by decide) rfl hm_pl ?_
      refine V_iconst (pc := 112) C (dk k_F_count 26 rfl) rfl ?_
      refine V_callV (pc := 113) C (dk k_F_count 27 rfl) lk_F_260 cm_S_howMany vm_S_howMany (c_S_howMany _ _ _ 19 pl π x j hπ0 ok hx0 xk (by omega) 1 ⟨by decide, by decide⟩) kq_19 rfl rfl rfl (Nat.le_of_ble_eq_true rfl) (Rm.mono hRm (by decide) (by decide)) ?_
      refine V_iret (pc := 116) C E (dk k_F_count 28 rfl) ?_
      exact ⟨by unfold o_count; rw [if_neg (by omega), if_neg (by omega), if_neg (by omega), if_neg (by omega), if_neg (by omega), if_pos (by omega)], rfl⟩
    · refine ⟨116, 117, by rw [h1d]; rfl, rfl, ?_⟩
      refine V_aload_n (pc := 117) C (dk k_F_count 29 rfl) rfl ?_
      refine V_getr (pc := 118) (o2 := 19) C (dk k_F_count 30 rfl) fl_F_36 kq_0 (by decide) rfl (by decide) rfl ?_
      refine V_aload_n (pc := 121) C (dk k_F_count 31 rfl) rfl ?_
      refine V_getm (pc := 122) (o2 := pl) C (dk k_F_count 32 rfl) fl_F_26 kq_0 (by decide) rfl hm_pl ?_
      refine V_iconst (pc := 125) C (dk k_F_count 33 rfl) rfl ?_
      refine V_callV (pc := 126) C (dk k_F_count 34 rfl) lk_F_260 cm_S_howMany vm_S_howMany (c_S_howMany _ _ _ 19 pl π x j hπ0 ok hx0 xk (by omega) 2 ⟨by decide, by decide⟩) kq_19 rfl rfl rfl (Nat.le_of_ble_eq_true rfl) (Rm.mono hRm (by decide) (by decide)) ?_
      refine V_iret (pc := 129) C E (dk k_F_count 35 rfl) ?_
      exact ⟨by unfold o_count; rw [if_neg (by omega), if_neg (by omega), if_neg (by omega), if_neg (by omega), if_neg (by omega), if_neg (by omega), if_pos (by omega)], rfl⟩
    · refine ⟨129, 130, by rw [h1d]; rfl, rfl, ?_⟩
      refine V_aload_n (pc := 130) C (dk k_F_count 36 rfl) rfl ?_
      refine V_getr (pc := 131) (o2 := 19) C (dk k_F_count 37 rfl) fl_F_36 kq_0 (by decide) rfl (by decide) rfl ?_
      refine V_aload_n (pc := 134) C (dk k_F_count 38 rfl) rfl ?_
      refine V_getm (pc := 135) (o2 := pl) C (dk k_F_count 39 rfl) fl_F_26 kq_0 (by decide) rfl hm_pl ?_
      refine V_callV (pc := 138) C (dk k_F_count 40 rfl) lk_F_192 cm_S_nearOfCellar vm_S_nearOfCellar (c_S_nearOfCellar _ _ _ 19 pl π x j hπ0 ok hx0 xk (by omega)) kq_19 rfl rfl rfl (Nat.le_of_ble_eq_true rfl) (Rm.mono hRm (by decide) (by decide)) ?_
      refine V_iret (pc := 141) C E (dk k_F_count 41 rfl) ?_
      exact ⟨by unfold o_count cellar; rw [if_neg (by omega), if_neg (by omega), if_neg (by omega), if_neg (by omega), if_neg (by omega), if_neg (by omega), if_neg (by omega), if_pos (by omega)], rfl⟩
    · refine ⟨141, 142, by rw [h1d]; rfl, rfl, ?_⟩
      refine V_aload_n (pc := 142) C (dk k_F_count 42 rfl) rfl ?_
      refine V_getr (pc := 143) (o2 := 113) C (dk k_F_count 43 rfl) fl_F_56 kq_0 (by decide) rfl (by decide) rfl ?_
      refine V_geti (pc := 146) (ji := 3) C (dk k_F_count 44 rfl) fl_F_235 kq_113 (by decide) rfl rfl ?_
      refine V_iret (pc := 149) C E (dk k_F_count 45 rfl) ?_
      exact ⟨by unfold o_count; rw [if_neg (by omega), if_neg (by omega), if_neg (by omega), if_neg (by omega), if_neg (by omega), if_neg (by omega), if_neg (by omega), if_neg (by omega), if_pos (by omega), l1], rfl⟩
    · refine ⟨149, 150, by rw [h1d]; rfl, rfl, ?_⟩
      refine V_aload_n (pc := 150) C (dk k_F_count 46 rfl) rfl ?_
      refine V_getr (pc := 151) (o2 := 29) C (dk k_F_count 47 rfl) fl_F_46 kq_0 (by decide) rfl (by decide) rfl ?_
      refine V_geti (pc := 154) (ji := 2) C (dk k_F_count 48 rfl) fl_F_182 kq_29 (by decide) rfl rfl ?_
      refine V_iret (pc := 157) C E (dk k_F_count 49 rfl) ?_
      exact ⟨by unfold o_count; rw [if_neg (by omega), if_neg (by omega), if_neg (by omega), if_neg (by omega), if_neg (by omega), if_neg (by omega), if_neg (by omega), if_neg (by omega), if_neg (by omega), if_pos (by omega), u3], rfl⟩
    · refine ⟨157, 158, by rw [h1d]; rfl, rfl, ?_⟩
      refine V_aload_n (pc := 158) C (dk k_F_count 50 rfl) rfl ?_
      refine V_getr (pc := 159) (o2 := 71) C (dk k_F_count 51 rfl) fl_F_50 kq_0 (by decide) rfl (by decide) rfl ?_
      refine V_geti (pc := 162) (ji := 2) C (dk k_F_count 52 rfl) fl_F_182 kq_71 (by decide) rfl rfl ?_
      refine V_iret (pc := 165) C E (dk k_F_count 53 rfl) ?_
      exact ⟨by unfold o_count; rw [if_neg (by omega), if_neg (by omega), if_neg (by omega), if_neg (by omega), if_neg (by omega), if_neg (by omega), if_neg (by omega), if_neg (by omega), if_neg (by omega), if_neg (by omega), if_pos (by omega), w3], rfl⟩
    · refine ⟨165, 166, by rw [h1d]; rfl, rfl, ?_⟩
      refine V_aload_n (pc := 166) C (dk k_F_count 54 rfl) rfl ?_
      refine V_getr (pc := 167) (o2 := 1) C (dk k_F_count 55 rfl) fl_F_10 kq_0 (by decide) rfl (by decide) rfl ?_
      refine V_geti (pc := 170) (ji := 1) C (dk k_F_count 56 rfl) fl_F_94 kq_1 (by decide) rfl rfl ?_
      refine V_iret (pc := 173) C E (dk k_F_count 57 rfl) ?_
      exact ⟨by unfold o_count; rw [if_neg (by omega), if_neg (by omega), if_neg (by omega), if_neg (by omega), if_neg (by omega), if_neg (by omega), if_neg (by omega), if_neg (by omega), if_neg (by omega), if_neg (by omega), if_neg (by omega), if_pos (by omega), t1], rfl⟩
end
section
/-- as STok, the day up to e further on -/
def STd (π : PL) (x : ST) (j e : Int) : Prop := 0 ≤ sD x ∧ sD x ≤ 24 * j + e ∧ 0 ≤ sM x ∧ sM x ≤ 99 + 900 * j ∧ (∀ q : Int, 0 ≤ q → q < pP π → 0 ≤ sG x q ∧ sG x q ≤ 99 + 900 * j ∧ 0 ≤ sR x q ∧ sR x q ≤ 160 * sD x) ∧ (∀ t : Int, 0 ≤ t → t < pN π → 0 ≤ sN x t ∧ sN x t ≤ 99 ∧ 0 ≤ sP x t ∧ sP x t ≤ 2 ∧ (sP x t = 2 ↔ sN x t = 0))
theorem STok.d {π : PL} {x : ST} {j : Int} (h : STok π x j) : STd π x j 0 := by
  obtain ⟨a, b, c, d, e, f⟩ := h
  exact ⟨a, by omega, c, d, e, f⟩
theorem STd.ok {π : PL} {x : ST} {j e i : Int} (h : STd π x j e) (hi : 24 * j + e ≤ 24 * i) (hj : j ≤ i) : STok π x i := by
  obtain ⟨a, b, c, d, e, f⟩ := h
  exact ⟨a, by omega, c, by omega, fun q h0 h1 => by have := e q h0 h1; omega, f⟩
theorem STok.up {π : PL} {x : ST} {j i : Int} (h : STok π x j) (hj : j ≤ i) : STok π x i := h.d.ok (by omega) hj
theorem day_ok {π : PL} {x : ST} {j e : Int} (ok : PLok π) (h : STd π x j e) : STd π (dayX π x) j (e + 1) := by
  obtain ⟨h1, h2, h3, h4, hQ, hT⟩ := h
  have xk : STok π x (j + (if 0 ≤ e then e else 0)) := by
    refine ⟨h1, ?_, h3, ?_, fun q a b => ?_, hT⟩
    · split <;> omega
    · split <;> omega
    · have := hQ q a b; split <;> omega
  refine ⟨?_, ?_, h3, h4, fun q a b => ?_, fun t a b => ?_⟩
  · show 0 ≤ sD x + 1; omega
  · show sD x + 1 ≤ _; omega
  · obtain ⟨g1, g2, g3, g4⟩ := hQ q a b
    have ⟨n0, n1⟩ := nxR_b ok xk a b (Nat.le_refl _)
    refine ⟨g1, g2, n0, ?_⟩
    show nxR π x q (pN π) ≤ 160 * (sD x + 1)
    have := ok.2.2.1
    omega
  · obtain ⟨g1, g2, g3, g4, g5⟩ := hT t a b
    have ⟨n0, n1⟩ := nx_b (k := pK π t) (d := sD x) g1 g2
    show 0 ≤ nxN π x t ∧ nxN π x t ≤ 99 ∧ 0 ≤ nxP π x t ∧ nxP π x t ≤ 2 ∧ (nxP π x t = 2 ↔ nxN π x t = 0)
    unfold nxN nxP
    by_cases hp : sP x t = 1
    · rw [if_pos hp, if_pos hp]
      by_cases hz : nx (pK π t) (sN x t) (sD x) = 0
      · rw [if_pos hz]; omega
      · rw [if_neg hz]; omega
    · rw [if_neg hp, if_neg hp]; omega
theorem days_ok {π : PL} {x : ST} {j : Int} (ok : PLok π) (h : STok π x j) : ∀ i : Nat, STd π (daysX π x i) j i
  | 0 => h.d
  | i + 1 => by
    have := day_ok ok (days_ok ok h i)
    exact this

def i_F_undo : List (Nat × (Instr × Nat)) := [(0, (.aload_n 0, 1)), (1, (.getfield 46, 3)), (4, (.aload_n 0, 1)), (5, (.getfield 36, 3)), (8, (.invokevirtual 178, 3)), (11, (.ifCond .eq 13, 3)), (14, (.aload_n 0, 1)), (15, (.getfield 46, 3)), (18, (.getfield 182, 3)), (21, (.goto 5, 3)), (24, (.bipush (-2), 2)), (26, (.ireturn, 1))]
theorem k_F_undo : i_F_undo.all (fun q => decide (decode b_F_undo q.1 = .ok q.2)) = true := by decide +kernel

set_option maxHeartbeats 1000000 in
set_option maxRecDepth 20000 in
theorem c_F_undo (l : Launch) (G : GE) (σ : Wd) (pl sp : Nat) (π : PL) (x : ST) (y : ST) (us ks : List ST) (lk : List (Int × (Int × Int))) (tx : List Int) (j : Int) (hC : CR σ pl sp π x (y :: us) ks lk tx) (hV : VK π x (y :: us) ks j) (hj : j ≤ 100) : Ct l G y_F_undo b_F_undo 1 (some (.int)) 4 88 [vR 0] σ (Rt (some (vI us.length)) (fun σ' => CR σ' pl sp π y us ks lk tx ∧ Fc σ σ')) := by
  refine Ct.of cm_F_undo (Nat.le_of_ble_eq_true rfl) ?_
  intro X hXl hXG hXN hRm C E
  subst hXl; subst hXG
  show V X 0 [some (vR 0)] [] σ
  refine V_R (fun hR => ?_)
  obtain ⟨hF, hsp0, hsp, hne, hx, hU, hK, hl, hT⟩ := id hC
  obtain ⟨ok, xk, usk, ksk, ks2⟩ := id hV
  have hF0 := hF
  obtain ⟨hm_pl, hπ⟩ := hF
  have hπ0 := hπ
  obtain ⟨hpl, e0, e2, e7, e10, eT, eX⟩ := hπ
  obtain ⟨hpl_1, hpl_2, hpl_3, hpl_4, hpl_5, hpl_6⟩ := kd_P hpl
  have ⟨k1, k2, k3, k4, k5, k6, kT, kX⟩ := ok
  have hx0 := hx
  obtain ⟨hs, f0, f1, fQ, fT⟩ := hx
  simp only [Nat.reduceAdd] at fQ fT
  have ⟨x1, x2, x3, x4, xQ, xT⟩ := xk
  have p512 := kd5 hpl
  have s512 := kd5 hsp
  refine V_aload_n (pc := 0) C (dk k_F_undo 0 rfl) rfl ?_
  refine V_getr (pc := 1) (o2 := 29) C (dk k_F_undo 1 rfl) fl_F_46 kq_0 (by decide) rfl (by decide) rfl ?_
  refine V_aload_n (pc := 4) C (dk k_F_undo 2 rfl) rfl ?_
  refine V_getr (pc := 5) (o2 := 19) C (dk k_F_undo 3 rfl) fl_F_36 kq_0 (by decide) rfl (by decide) rfl ?_
  refine V_callVr (pc := 8) C (dk k_F_undo 4 rfl) lk_F_178 cm_M_popInto vm_M_popInto (c_M_popInto _ _ _ 29 19 π y us ok hU hs (by omega)) kq_29 rfl rfl rfl (Nat.le_of_ble_eq_true rfl) (Rm.mono hRm (by decide) (by decide)) (fun τ1 hq1 => ?_)
  refine V_R (fun hR => ?_)
  obtain ⟨qU, qx, qf⟩ := hq1
  have f : ∀ k, ¬ (19 ≤ k ∧ k < 24) → ¬ (29 ≤ k ∧ k < 71) → τ1 k = σ k := fun k a b => qf k (by omega) (by omega)
  refine V_ifeq (pc := 11) C (dk k_F_undo 5 rfl) 24 rfl (by first | exact hR _ _ | with_reducible assumption | exact ⟨by omega, by omega⟩) (fun h1 => ?_) (fun h1 => ?_)
  · skip
    exfalso; omega
  · skip
    refine V_aload_n (pc := 14) C (dk k_F_undo 6 rfl) rfl ?_
    refine V_getr (pc := 15) (o2 := 29) C (dk k_F_undo 7 rfl) fl_F_46 kq_0 (by decide) rfl (by decide) rfl ?_
    refine V_geti (pc := 18) (ji := 2) C (dk k_F_undo 8 rfl) fl_F_182 kq_29 (by decide) rfl rfl ?_
    refine V_goto (pc := 21) C (dk k_F_undo 9 rfl) 26 rfl ?_
    refine V_iret (pc := 26) C E (dk k_F_undo 11 rfl) ?_
    exact ⟨by rw [qU.2.2.2.1], hC.mk2 (fun k a => f k (by omega) (by omega)) qx qU (hK.fr (fun k a b => f k (by omega) (by omega))) (hl.fr (fun k a b => f k (by omega) (by omega))) (hT.fr (f 1 (by omega) (by omega)) (f 2 (by omega) (by omega))), fun k a => f k (by omega) (by omega)⟩

set_option maxHeartbeats 1000000 in
set_option maxRecDepth 20000 in
theorem c_F_undo0 (l : Launch) (G : GE) (σ : Wd) (pl sp : Nat) (π : PL) (x : ST) (ks : List ST) (lk : List (Int × (Int × Int))) (tx : List Int) (j : Int) (hC : CR σ pl sp π x [] ks lk tx) (hV : VK π x [] ks j) (hj : j ≤ 100) : Ct l G y_F_undo b_F_undo 1 (some (.int)) 4 88 [vR 0] σ (Dt (some (vI (-2))) σ) := by
  refine Ct.of cm_F_undo (Nat.le_of_ble_eq_true rfl) ?_
  intro X hXl hXG hXN hRm C E
  subst hXl; subst hXG
  show V X 0 [some (vR 0)] [] σ
  refine V_R (fun hR => ?_)
  obtain ⟨hF, hsp0, hsp, hne, hx, hU, hK, hl, hT⟩ := id hC
  obtain ⟨ok, xk, usk, ksk, ks2⟩ := id hV
  have hF0 := hF
  obtain ⟨hm_pl, hπ⟩ := hF
  have hπ0 := hπ
  obtain ⟨hpl, e0, e2, e7, e10, eT, eX⟩ := hπ
  obtain ⟨hpl_1, hpl_2, hpl_3, hpl_4, hpl_5, hpl_6⟩ := kd_P hpl
  have ⟨k1, k2, k3, k4, k5, k6, kT, kX⟩ := ok
  have hx0 := hx
  obtain ⟨hs, f0, f1, fQ, fT⟩ := hx
  simp only [Nat.reduceAdd] at fQ fT
  have ⟨x1, x2, x3, x4, xQ, xT⟩ := xk
  have p512 := kd5 hpl
  have s512 := kd5 hsp
  refine V_aload_n (pc := 0) C (dk k_F_undo 0 rfl) rfl ?_
  refine V_getr (pc := 1) (o2 := 29) C (dk k_F_undo 1 rfl) fl_F_46 kq_0 (by decide) rfl (by decide) rfl ?_
  refine V_aload_n (pc := 4) C (dk k_F_undo 2 rfl) rfl ?_
  refine V_getr (pc := 5) (o2 := 19) C (dk k_F_undo 3 rfl) fl_F_36 kq_0 (by decide) rfl (by decide) rfl ?_
  refine V_callV (pc := 8) C (dk k_F_undo 4 rfl) lk_F_178 cm_M_popInto vm_M_popInto (c_M_popInto0 _ _ _ 29 19 π hU) kq_29 rfl rfl rfl (Nat.le_of_ble_eq_true rfl) (Rm.mono hRm (by decide) (by decide)) ?_
  refine V_ifeq (pc := 11) C (dk k_F_undo 5 rfl) 24 rfl (by first | exact hR _ _ | with_reducible assumption | exact ⟨by omega, by omega⟩) (fun h1 => ?_) (fun h1 => ?_)
  · skip
    refine V_bipush (pc := 24) (n' := (-2)) C (dk k_F_undo 10 rfl) rfl ?_
    refine V_iret (pc := 26) C E (dk k_F_undo 11 rfl) ?_
    first | exact ⟨rfl, rfl⟩ | (refine ⟨?_, rfl⟩; first | (rw [if_pos (by omega)]; done) | (rw [if_neg (by omega)]; done))
  · skip
    exfalso; omega

def i_F_keep : List (Nat × (Instr × Nat)) := [(0, (.aload_n 0, 1)), (1, (.getfield 50, 3)), (4, (.getfield 182, 3)), (7, (.iconst 2, 1)), (8, (.if_icmp .lt 6, 3)), (11, (.bipush (-3), 2)), (13, (.ireturn, 1)), (14, (.aload_n 0, 1)), (15, (.getfield 50, 3)), (18, (.aload_n 0, 1)), (19, (.getfield 36, 3)), (22, (.invokevirtual 160, 3)), (25, (.aload_n 0, 1)), (26, (.getfield 50, 3)), (29, (.getfield 182, 3)), (32, (.ireturn, 1))]
theorem k_F_keep : i_F_keep.all (fun q => decide (decode b_F_keep q.1 = .ok q.2)) = true := by decide +kernel

set_option maxHeartbeats 1000000 in
set_option maxRecDepth 20000 in
theorem c_F_keep (l : Launch) (G : GE) (σ : Wd) (pl sp : Nat) (π : PL) (x : ST) (us ks : List ST) (lk : List (Int × (Int × Int))) (tx : List Int) (j : Int) (hC : CR σ pl sp π x us ks lk tx) (hV : VK π x us ks j) (hj : j ≤ 100) : Ct l G y_F_keep b_F_keep 1 (some (.int)) 4 87 [vR 0] σ (Rt (some (vI (o_keep x ks).1)) (fun σ' => CR σ' pl sp π x us (o_keep x ks).2 lk tx ∧ Fc σ σ')) := by
  refine Ct.of cm_F_keep (Nat.le_of_ble_eq_true rfl) ?_
  intro X hXl hXG hXN hRm C E
  subst hXl; subst hXG
  show V X 0 [some (vR 0)] [] σ
  refine V_R (fun hR => ?_)
  obtain ⟨hF, hsp0, hsp, hne, hx, hU, hK, hl, hT⟩ := id hC
  obtain ⟨ok, xk, usk, ksk, ks2⟩ := id hV
  have hF0 := hF
  obtain ⟨hm_pl, hπ⟩ := hF
  have hπ0 := hπ
  obtain ⟨hpl, e0, e2, e7, e10, eT, eX⟩ := hπ
  obtain ⟨hpl_1, hpl_2, hpl_3, hpl_4, hpl_5, hpl_6⟩ := kd_P hpl
  have ⟨k1, k2, k3, k4, k5, k6, kT, kX⟩ := ok
  have hx0 := hx
  obtain ⟨hs, f0, f1, fQ, fT⟩ := hx
  simp only [Nat.reduceAdd] at fQ fT
  have ⟨x1, x2, x3, x4, xQ, xT⟩ := xk
  have p512 := kd5 hpl
  have s512 := kd5 hsp
  obtain ⟨-, -, -, w3, -, -⟩ := id hK
  refine V_aload_n (pc := 0) C (dk k_F_keep 0 rfl) rfl ?_
  refine V_getr (pc := 1) (o2 := 71) C (dk k_F_keep 1 rfl) fl_F_50 kq_0 (by decide) rfl (by decide) rfl ?_
  refine V_geti (pc := 4) (ji := 2) C (dk k_F_keep 2 rfl) fl_F_182 kq_71 (by decide) rfl rfl ?_
  refine V_iconst (pc := 7) C (dk k_F_keep 3 rfl) rfl ?_
  refine V_icmplt (pc := 8) C (dk k_F_keep 4 rfl) 14 rfl (by first | exact hR _ _ | with_reducible assumption | exact ⟨by omega, by omega⟩) (by first | exact hR _ _ | with_reducible assumption | exact ⟨by omega, by omega⟩) (fun h1 => ?_) (fun h1 => ?_)
  · skip
    refine V_aload_n (pc := 14) C (dk k_F_keep 7 rfl) rfl ?_
    refine V_getr (pc := 15) (o2 := 71) C (dk k_F_keep 8 rfl) fl_F_50 kq_0 (by decide) rfl (by decide) rfl ?_
    refine V_aload_n (pc := 18) C (dk k_F_keep 9 rfl) rfl ?_
    refine V_getr (pc := 19) (o2 := 19) C (dk k_F_keep 10 rfl) fl_F_36 kq_0 (by decide) rfl (by decide) rfl ?_
    refine V_callV0r (pc := 22) C (dk k_F_keep 11 rfl) lk_F_160 cm_M_push vm_M_push (c_M_push _ _ _ 71 19 π x ks ok hK hx0 (by omega)) kq_71 rfl rfl rfl (Nat.le_of_ble_eq_true rfl) (Rm.mono hRm (by decide) (by decide)) (fun τ1 hq1 => ?_)
    refine V_R (fun hR => ?_)
    obtain ⟨qK, qf⟩ := hq1
    have f : ∀ k, (k < 71 ∨ 113 ≤ k) → τ1 k = σ k := fun k a => qf k (by omega)
    rw [List.take_of_length_le (by rw [List.length_cons]; omega)] at qK
    refine V_aload_n (pc := 25) C (dk k_F_keep 12 rfl) rfl ?_
    refine V_getr (pc := 26) (o2 := 71) C (dk k_F_keep 13 rfl) fl_F_50 kq_0 (by decide) rfl (by decide) rfl ?_
    refine V_geti (pc := 29) (ji := 2) C (dk k_F_keep 14 rfl) fl_F_182 kq_71 (by decide) rfl rfl ?_
    refine V_iret (pc := 32) C E (dk k_F_keep 15 rfl) ?_
    rw [show o_keep x ks = ((ks.length : Int) + 1, x :: ks) from if_neg (by omega)]
    exact ⟨by rw [qK.2.2.2.1, List.length_cons]; rfl, hC.mk2 (fun k a => f k (by omega)) (hx0.fr (fun k a b => f k (by omega))) (hU.fr (fun k a b => f k (by omega))) qK (hl.fr (fun k a b => f k (by omega))) (hT.fr (f 1 (by omega)) (f 2 (by omega))), fun k a => f k (by omega)⟩
  · skip
    refine V_bipush (pc := 11) (n' := (-3)) C (dk k_F_keep 5 rfl) rfl ?_
    refine V_iret (pc := 13) C E (dk k_F_keep 6 rfl) ?_
    rw [show o_keep x ks = (-3, ks) from if_pos (by omega)]
    exact ⟨rfl, hC, Fc.rf σ⟩

def i_F_back : List (Nat × (Instr × Nat)) := [(0, (.aload_n 0, 1)), (1, (.getfield 50, 3)), (4, (.aload_n 0, 1)), (5, (.getfield 36, 3)), (8, (.invokevirtual 178, 3)), (11, (.ifCond .ne 6, 3)), (14, (.bipush (-2), 2)), (16, (.ireturn, 1)), (17, (.aload_n 0, 1)), (18, (.getfield 46, 3)), (21, (.iconst 0, 1)), (22, (.putfield 182, 3)), (25, (.aload_n 0, 1)), (26, (.getfield 50, 3)), (29, (.getfield 182, 3)), (32, (.ireturn, 1))]
theorem k_F_back : i_F_back.all (fun q => decide (decode b_F_back q.1 = .ok q.2)) = true := by decide +kernel

set_option maxHeartbeats 1000000 in
set_option maxRecDepth 20000 in
theorem c_F_back (l : Launch) (G : GE) (σ : Wd) (pl sp : Nat) (π : PL) (x : ST) (y : ST) (us ks : List ST) (lk : List (Int × (Int × Int))) (tx : List Int) (j : Int) (hC : CR σ pl sp π x us (y :: ks) lk tx) (hV : VK π x us (y :: ks) j) (hj : j ≤ 100) : Ct l G y_F_back b_F_back 1 (some (.int)) 4 88 [vR 0] σ (Rt (some (vI ks.length)) (fun σ' => CR σ' pl sp π y [] ks lk tx ∧ Fc σ σ')) := by
  refine Ct.of cm_F_back (Nat.le_of_ble_eq_true rfl) ?_
  intro X hXl hXG hXN hRm C E
  subst hXl; subst hXG
  show V X 0 [some (vR 0)] [] σ
  refine V_R (fun hR => ?_)
  obtain ⟨hF, hsp0, hsp, hne, hx, hU, hK, hl, hT⟩ := id hC
  obtain ⟨ok, xk, usk, ksk, ks2⟩ := id hV
  have hF0 := hF
  obtain ⟨hm_pl, hπ⟩ := hF
  have hπ0 := hπ
  obtain ⟨hpl, e0, e2, e7, e10, eT, eX⟩ := hπ
  obtain ⟨hpl_1, hpl_2, hpl_3, hpl_4, hpl_5, hpl_6⟩ := kd_P hpl
  have ⟨k1, k2, k3, k4, k5, k6, kT, kX⟩ := ok
  have hx0 := hx
  obtain ⟨hs, f0, f1, fQ, fT⟩ := hx
  simp only [Nat.reduceAdd] at fQ fT
  have ⟨x1, x2, x3, x4, xQ, xT⟩ := xk
  have p512 := kd5 hpl
  have s512 := kd5 hsp
  refine V_aload_n (pc := 0) C (dk k_F_back 0 rfl) rfl ?_
  refine V_getr (pc := 1) (o2 := 71) C (dk k_F_back 1 rfl) fl_F_50 kq_0 (by decide) rfl (by decide) rfl ?_
  refine V_aload_n (pc := 4) C (dk k_F_back 2 rfl) rfl ?_
  refine V_getr (pc := 5) (o2 := 19) C (dk k_F_back 3 rfl) fl_F_36 kq_0 (by decide) rfl (by decide) rfl ?_
  refine V_callVr (pc := 8) C (dk k_F_back 4 rfl) lk_F_178 cm_M_popInto vm_M_popInto (c_M_popInto _ _ _ 71 19 π y ks ok hK hs (by omega)) kq_71 rfl rfl rfl (Nat.le_of_ble_eq_true rfl) (Rm.mono hRm (by decide) (by decide)) (fun τ1 hq1 => ?_)
  refine V_R (fun hR => ?_)
  obtain ⟨qK, qx, qf⟩ := hq1
  have f : ∀ k, ¬ (19 ≤ k ∧ k < 24) → k ≠ 29 → ¬ (71 ≤ k ∧ k < 113) → up τ1 29 2 0 k = σ k := fun k a b c => by rw [up_row _ _ _ b]; exact qf k (by omega) (by omega)
  have e71 : up τ1 29 2 0 71 = τ1 71 := up_row _ _ _ (by decide)
  refine V_ifne (pc := 11) C (dk k_F_back 5 rfl) 17 rfl (by first | exact hR _ _ | with_reducible assumption | exact ⟨by omega, by omega⟩) (fun h1 => ?_) (fun h1 => ?_)
  · skip
    refine V_aload_n (pc := 17) C (dk k_F_back 8 rfl) rfl ?_
    refine V_getr (pc := 18) (o2 := 29) C (dk k_F_back 9 rfl) fl_F_46 kq_0 (by decide) rfl (by decide) rfl ?_
    refine V_iconst (pc := 21) C (dk k_F_back 10 rfl) rfl ?_
    refine V_puti (pc := 22) (ji := 2) C (dk k_F_back 11 rfl) fl_F_182 fw_4_2 kq_29 (by decide) rfl rfl R0 ?_
    refine V_R (fun hR => ?_)
    refine V_aload_n (pc := 25) C (dk k_F_back 12 rfl) rfl ?_
    refine V_getr (pc := 26) (o2 := 71) C (dk k_F_back 13 rfl) fl_F_50 kq_0 (by decide) rfl (by decide) rfl ?_
    refine V_geti (pc := 29) (ji := 2) C (dk k_F_back 14 rfl) fl_F_182 kq_71 (by decide) rfl rfl ?_
    refine V_iret (pc := 32) C E (dk k_F_back 15 rfl) ?_
    obtain ⟨u0, u1, u2, u3, u4, u5⟩ := hU
    have e29 : τ1 29 = σ 29 := qf 29 (by omega) (by omega)
    exact ⟨by rw [e71, qK.2.2.2.1], hC.mk2 (fun k a => f k (by omega) (by omega) (by omega)) (qx.fr (fun k a b => up_row _ _ _ (by omega))) ⟨u0, by rw [up_ne2 _ (by decide), e29]; exact u1, by rw [up_ne2 _ (by decide), e29]; exact u2, by rw [up_at]; rfl, by simp, fun k y h => by simp at h⟩ (qK.fr (fun k a b => up_row _ _ _ (by omega))) (hl.fr (fun k a b => f k (by omega) (by omega) (by omega))) (hT.fr (f 1 (by omega) (by omega) (by omega)) (f 2 (by omega) (by omega) (by omega))), fun k a => f k (by omega) (by omega) (by omega)⟩
  · skip
    exfalso; omega

set_option maxHeartbeats 1000000 in
set_option maxRecDepth 20000 in
theorem c_F_back0 (l : Launch) (G : GE) (σ : Wd) (pl sp : Nat) (π : PL) (x : ST) (us : List ST) (lk : List (Int × (Int × Int))) (tx : List Int) (j : Int) (hC : CR σ pl sp π x us [] lk tx) (hV : VK π x us [] j) (hj : j ≤ 100) : Ct l G y_F_back b_F_back 1 (some (.int)) 4 88 [vR 0] σ (Dt (some (vI (-2))) σ) := by
  refine Ct.of cm_F_back (Nat.le_of_ble_eq_true rfl) ?_
  intro X hXl hXG hXN hRm C E
  subst hXl; subst hXG
  show V X 0 [some (vR 0)] [] σ
  refine V_R (fun hR => ?_)
  obtain ⟨hF, hsp0, hsp, hne, hx, hU, hK, hl, hT⟩ := id hC
  obtain ⟨ok, xk, usk, ksk, ks2⟩ := id hV
  have hF0 := hF
  obtain ⟨hm_pl, hπ⟩ := hF
  have hπ0 := hπ
  obtain ⟨hpl, e0, e2, e7, e10, eT, eX⟩ := hπ
  obtain ⟨hpl_1, hpl_2, hpl_3, hpl_4, hpl_5, hpl_6⟩ := kd_P hpl
  have ⟨k1, k2, k3, k4, k5, k6, kT, kX⟩ := ok
  have hx0 := hx
  obtain ⟨hs, f0, f1, fQ, fT⟩ := hx
  simp only [Nat.reduceAdd] at fQ fT
  have ⟨x1, x2, x3, x4, xQ, xT⟩ := xk
  have p512 := kd5 hpl
  have s512 := kd5 hsp
  refine V_aload_n (pc := 0) C (dk k_F_back 0 rfl) rfl ?_
  refine V_getr (pc := 1) (o2 := 71) C (dk k_F_back 1 rfl) fl_F_50 kq_0 (by decide) rfl (by decide) rfl ?_
  refine V_aload_n (pc := 4) C (dk k_F_back 2 rfl) rfl ?_
  refine V_getr (pc := 5) (o2 := 19) C (dk k_F_back 3 rfl) fl_F_36 kq_0 (by decide) rfl (by decide) rfl ?_
  refine V_callV (pc := 8) C (dk k_F_back 4 rfl) lk_F_178 cm_M_popInto vm_M_popInto (c_M_popInto0 _ _ _ 71 19 π hK) kq_71 rfl rfl rfl (Nat.le_of_ble_eq_true rfl) (Rm.mono hRm (by decide) (by decide)) ?_
  refine V_ifne (pc := 11) C (dk k_F_back 5 rfl) 17 rfl (by first | exact hR _ _ | with_reducible assumption | exact ⟨by omega, by omega⟩) (fun h1 => ?_) (fun h1 => ?_)
  · skip
    exfalso; omega
  · skip
    refine V_bipush (pc := 14) (n' := (-2)) C (dk k_F_back 6 rfl) rfl ?_
    refine V_iret (pc := 16) C E (dk k_F_back 7 rfl) ?_
    first | exact ⟨rfl, rfl⟩ | (refine ⟨?_, rfl⟩; first | (rw [if_pos (by omega)]; done) | (rw [if_neg (by omega)]; done))

def i_F_pass : List (Nat × (Instr × Nat)) := [(0, (.iload_n 1, 1)), (1, (.iconst 1, 1)), (2, (.bipush 24, 2)), (4, (.invokestatic 98, 3)), (7, (.ifCond .ne 5, 3)), (10, (.iconst (-1), 1)), (11, (.ireturn, 1)), (12, (.aload_n 0, 1)), (13, (.getfield 46, 3)), (16, (.aload_n 0, 1)), (17, (.getfield 36, 3)), (20, (.invokevirtual 160, 3)), (23, (.iconst 0, 1)), (24, (.istore_n 2, 1)), (25, (.iload_n 2, 1)), (26, (.iload_n 1, 1)), (27, (.if_icmp .ge 20, 3)), (30, (.aload_n 0, 1)), (31, (.getfield 36, 3)), (34, (.aload_n 0, 1)), (35, (.getfield 26, 3)), (38, (.invokevirtual 174, 3)), (41, (.iinc 2 1, 3)), (44, (.goto (-19), 3)), (47, (.aload_n 0, 1)), (48, (.getfield 36, 3)), (51, (.getfield 149, 3)), (54, (.ireturn, 1))]
theorem k_F_pass : i_F_pass.all (fun q => decide (decode b_F_pass q.1 = .ok q.2)) = true := by decide +kernel

set_option maxHeartbeats 1000000 in
set_option maxRecDepth 20000 in
theorem c_F_pass (l : Launch) (G : GE) (σ : Wd) (pl sp : Nat) (π : PL) (x : ST) (us ks : List ST) (lk : List (Int × (Int × Int))) (tx : List Int) (j : Int) (hC : CR σ pl sp π x us ks lk tx) (hV : VK π x us ks j) (hj : j ≤ 100) (n : Int) (hn : inR n) : Ct l G y_F_pass b_F_pass 3 (some (.int)) 4 94 [vR 0, vI n] σ (Rt (some (vI (o_pass π x us n).1)) (fun σ' => CR σ' pl sp π (o_pass π x us n).2.1 (o_pass π x us n).2.2 ks lk tx ∧ Fc σ σ')) := by
  refine Ct.of cm_F_pass (Nat.le_of_ble_eq_true rfl) ?_
  intro X hXl hXG hXN hRm C E
  subst hXl; subst hXG
  have ⟨hn_1, hn_2⟩ := hn
  show V X 0 [some (vR 0), some (vI n), none] [] σ
  refine V_R (fun hR => ?_)
  obtain ⟨hF, hsp0, hsp, hne, hx, hU, hK, hl, hT⟩ := id hC
  obtain ⟨ok, xk, usk, ksk, ks2⟩ := id hV
  have hF0 := hF
  obtain ⟨hm_pl, hπ⟩ := hF
  have hπ0 := hπ
  obtain ⟨hpl, e0, e2, e7, e10, eT, eX⟩ := hπ
  obtain ⟨hpl_1, hpl_2, hpl_3, hpl_4, hpl_5, hpl_6⟩ := kd_P hpl
  have ⟨k1, k2, k3, k4, k5, k6, kT, kX⟩ := ok
  have hx0 := hx
  obtain ⟨hs, f0, f1, fQ, fT⟩ := hx
  simp only [Nat.reduceAdd] at fQ fT
  have ⟨x1, x2, x3, x4, xQ, xT⟩ := xk
  have p512 := kd5 hpl
  have s512 := kd5 hsp
  refine V_iload_n (pc := 0) C (dk k_F_pass 0 rfl) rfl ?_
  refine V_iconst (pc := 1) C (dk k_F_pass 1 rfl) rfl ?_
  refine V_bipush (pc := 2) (n' := 24) C (dk k_F_pass 2 rfl) rfl ?_
  refine V_callS (pc := 4) C (dk k_F_pass 3 rfl) lk_F_98 cm_F_within sm_F_within (c_F_within _ _ _ n 1 24 hn ⟨by decide, by decide⟩ ⟨by decide, by decide⟩) rfl rfl (Nat.le_of_ble_eq_true rfl) (Rm.mono hRm (by decide) (by decide)) ?_
  refine V_ifneB (pc := 7) C (dk k_F_pass 4 rfl) 12 rfl (fun h1 => ?_) (fun h1 => ?_)
  · skip
    refine V_aload_n (pc := 12) C (dk k_F_pass 7 rfl) rfl ?_
    refine V_getr (pc := 13) (o2 := 29) C (dk k_F_pass 8 rfl) fl_F_46 kq_0 (by decide) rfl (by decide) rfl ?_
    refine V_aload_n (pc := 16) C (dk k_F_pass 9 rfl) rfl ?_
    refine V_getr (pc := 17) (o2 := 19) C (dk k_F_pass 10 rfl) fl_F_36 kq_0 (by decide) rfl (by decide) rfl ?_
    refine V_callV0r (pc := 20) C (dk k_F_pass 11 rfl) lk_F_160 cm_M_push vm_M_push (c_M_push _ _ _ 29 19 π x us ok hU hx0 (by omega)) kq_29 rfl rfl rfl (Nat.le_of_ble_eq_true rfl) (Rm.mono hRm (by decide) (by decide)) (fun τ1 hq1 => ?_)
    refine V_R (fun hR => ?_)
    have g : ∀ k, (k < 29 ∨ 71 ≤ k) → τ1 k = σ k := fun k a => hq1.2 k (by omega)
    refine V_iconst (pc := 23) C (dk k_F_pass 12 rfl) rfl ?_
    refine V_istore_n (pc := 24) C (dk k_F_pass 13 rfl) (by rw [hXN]; decide) ?_
    dsimp only [lst, lstL, lz, kill, Fin.val, Nat.reduceAdd]
    refine V_eq (V_loop (fun q : Nat × Wd => (q.1 : Int) ≤ n ∧ StR q.2 19 π (daysX π x q.1) ∧ Fr 19 5 τ1 q.2) (fun q => [some (vR 0), some (vI n), some (vI (q.1 : Int))]) (fun q => q.2) (fun q => n.toNat - q.1) (fun q hq ih => ?_) (0, τ1) ⟨by dsimp only; omega, hx0.fr (fun k a b => g k (by omega)), Fr.rf _ _ _⟩) rfl rfl rfl
    obtain ⟨i, τ⟩ := q
    obtain ⟨hi, tx1, tfr⟩ := hq
    dsimp only at hi tx1 tfr ih ⊢
    refine V_R (fun hR => ?_)
    refine V_iload_n (pc := 25) C (dk k_F_pass 14 rfl) rfl ?_
    refine V_iload_n (pc := 26) C (dk k_F_pass 15 rfl) rfl ?_
    refine V_icmpge (pc := 27) C (dk k_F_pass 16 rfl) 47 rfl (by first | exact hR _ _ | with_reducible assumption | exact ⟨by omega, by omega⟩) (by first | exact hR _ _ | with_reducible assumption | exact ⟨by omega, by omega⟩) (fun h2 => ?_) (fun h2 => ?_)
    · skip
      refine V_aload_n (pc := 47) C (dk k_F_pass 24 rfl) rfl ?_
      refine V_getr (pc := 48) (o2 := 19) C (dk k_F_pass 25 rfl) fl_F_36 kq_0 (by decide) rfl (by decide) rfl ?_
      refine V_geti (pc := 51) (ji := 0) C (dk k_F_pass 26 rfl) fl_F_149 kq_19 (by decide) rfl rfl ?_
      refine V_iret (pc := 54) C E (dk k_F_pass 27 rfl) ?_
      obtain rfl : n = i := by omega
      rw [show o_pass π x us (i : Int) = (sD (daysX π x i), (daysX π x i, (x :: us).take 8)) by unfold o_pass; rw [if_pos (by omega), Int.toNat_natCast]]
      have f : ∀ k, ¬ (19 ≤ k ∧ k < 24) → ¬ (29 ≤ k ∧ k < 71) → τ k = σ k := fun k a b => (tfr k (by omega)).trans (g k (by omega))
      exact ⟨by rw [tx1.2.1], hC.mk2 (fun k a => f k (by omega) (by omega)) tx1 (hq1.1.fr (fun k a b => tfr k (by omega))) (hK.fr (fun k a b => f k (by omega) (by omega))) (hl.fr (fun k a b => f k (by omega) (by omega))) (hT.fr (f 1 (by omega) (by omega)) (f 2 (by omega) (by omega))), fun k a => f k (by omega) (by omega)⟩
    · skip
      refine V_aload_n (pc := 30) C (dk k_F_pass 17 rfl) rfl ?_
      refine V_getr (pc := 31) (o2 := 19) C (dk k_F_pass 18 rfl) fl_F_36 kq_0 (by decide) rfl (by decide) rfl ?_
      refine V_aload_n (pc := 34) C (dk k_F_pass 19 rfl) rfl ?_
      refine V_getm (pc := 35) (o2 := pl) C (dk k_F_pass 20 rfl) fl_F_26 kq_0 (by decide) rfl (by rw [tfr 0 (by omega), g 0 (by omega)]; exact hm_pl) ?_
      refine V_callV0r (pc := 38) C (dk k_F_pass 21 rfl) lk_F_174 cm_S_passDay vm_S_passDay (c_S_passDay _ _ _ 19 pl π (daysX π x i) (j + 1) (hπ0.fr (fun k a b => by rw [tfr k (by omega)]; exact g k (by omega))) ok tx1 ((days_ok ok xk i).ok (by omega) (by omega)) (by omega)) kq_19 rfl rfl rfl (Nat.le_of_ble_eq_true rfl) (Rm.mono hRm (by decide) (by decide)) (fun τ2 hq2 => ?_)
      refine V_R (fun hR => ?_)
      refine V_iinc (pc := 41) C (dk k_F_pass 22 rfl) (by rw [hXN]; decide) rfl ?_
      dsimp only [lst, lstL, lz, kill, Fin.val, Nat.reduceAdd]
      refine V_goto (pc := 44) C (dk k_F_pass 23 rfl) 25 rfl ?_
      exact ih (i + 1, τ2) ⟨by dsimp only; omega, hq2.1, tfr.tr hq2.2⟩ (by dsimp only; omega)
  · skip
    refine V_iconst (pc := 10) C (dk k_F_pass 5 rfl) rfl ?_
    refine V_iret (pc := 11) C E (dk k_F_pass 6 rfl) ?_
    rw [show o_pass π x us n = (-1, (x, us)) from if_neg (by omega)]
    exact ⟨rfl, hC, Fc.rf σ⟩

theorem cellar_b {π : PL} {x : ST} {j : Int} (ok : PLok π) (xk : STok π x j) : 0 ≤ cellar π x ∧ cellar π x ≤ 792 := by
  have ⟨a, b⟩ := sm_b (fun t => if sP x t = 1 then sN x t else 0) 99 (by omega) (pN π) (fun t c d => by
    have := xk.2.2.2.2.2 t c d
    split <;> omega)
  have := ok.2.2.1
  unfold cellar
  omega

def i_F_heard : List (Nat × (Instr × Nat)) := [(0, (.iload_n 1, 1)), (1, (.iconst 1, 1)), (2, (.sipush 999, 3)), (5, (.invokestatic 98, 3)), (8, (.ifCond .ne 5, 3)), (11, (.iconst (-1), 1)), (12, (.ireturn, 1)), (13, (.aload_n 0, 1)), (14, (.getfield 40, 3)), (17, (.aload_n 0, 1)), (18, (.getfield 36, 3)), (21, (.invokevirtual 189, 3)), (24, (.iconst 0, 1)), (25, (.istore_n 2, 1)), (26, (.iload_n 2, 1)), (27, (.bipush 60, 2)), (29, (.if_icmp .gt 37, 3)), (32, (.aload_n 0, 1)), (33, (.getfield 40, 3)), (36, (.aload_n 0, 1)), (37, (.getfield 26, 3)), (40, (.invokevirtual 192, 3)), (43, (.iload_n 1, 1)), (44, (.if_icmp .lt 5, 3)), (47, (.iload_n 2, 1)), (48, (.ireturn, 1)), (49, (.aload_n 0, 1)), (50, (.getfield 40, 3)), (53, (.aload_n 0, 1)), (54, (.getfield 26, 3)), (57, (.invokevirtual 174, 3)), (60, (.iinc 2 1, 3)), (63, (.goto (-37), 3)), (66, (.bipush (-4), 2)), (68, (.ireturn, 1))]
theorem k_F_heard : i_F_heard.all (fun q => decide (decode b_F_heard q.1 = .ok q.2)) = true := by decide +kernel

set_option maxHeartbeats 1000000 in
set_option maxRecDepth 20000 in
theorem c_F_heard (l : Launch) (G : GE) (σ : Wd) (pl sp : Nat) (π : PL) (x : ST) (us ks : List ST) (lk : List (Int × (Int × Int))) (tx : List Int) (j : Int) (hC : CR σ pl sp π x us ks lk tx) (hV : VK π x us ks j) (hj : j ≤ 100) (h : Int) (hh : inR h) : Ct l G y_F_heard b_F_heard 3 (some (.int)) 4 94 [vR 0, vI h] σ (Rt (some (vI (o_heard π x h))) (fun σ' => CR σ' pl sp π x us ks lk tx ∧ Fc σ σ')) := by
  refine Ct.of cm_F_heard (Nat.le_of_ble_eq_true rfl) ?_
  intro X hXl hXG hXN hRm C E
  subst hXl; subst hXG
  have ⟨hh_1, hh_2⟩ := hh
  show V X 0 [some (vR 0), some (vI h), none] [] σ
  refine V_R (fun hR => ?_)
  obtain ⟨hF, hsp0, hsp, hne, hx, hU, hK, hl, hT⟩ := id hC
  obtain ⟨ok, xk, usk, ksk, ks2⟩ := id hV
  have hF0 := hF
  obtain ⟨hm_pl, hπ⟩ := hF
  have hπ0 := hπ
  obtain ⟨hpl, e0, e2, e7, e10, eT, eX⟩ := hπ
  obtain ⟨hpl_1, hpl_2, hpl_3, hpl_4, hpl_5, hpl_6⟩ := kd_P hpl
  have ⟨k1, k2, k3, k4, k5, k6, kT, kX⟩ := ok
  have hx0 := hx
  obtain ⟨hs, f0, f1, fQ, fT⟩ := hx
  simp only [Nat.reduceAdd] at fQ fT
  have ⟨x1, x2, x3, x4, xQ, xT⟩ := xk
  have p512 := kd5 hpl
  have s512 := kd5 hsp
  refine V_iload_n (pc := 0) C (dk k_F_heard 0 rfl) rfl ?_
  refine V_iconst (pc := 1) C (dk k_F_heard 1 rfl) rfl ?_
  refine V_sipush (pc := 2) (n' := 999) C (dk k_F_heard 2 rfl) rfl ?_
  refine V_callS (pc := 5) C (dk k_F_heard 3 rfl) lk_F_98 cm_F_within sm_F_within (c_F_within _ _ _ h 1 999 hh ⟨by decide, by decide⟩ ⟨by decide, by decide⟩) rfl rfl (Nat.le_of_ble_eq_true rfl) (Rm.mono hRm (by decide) (by decide)) ?_
  refine V_ifneB (pc := 8) C (dk k_F_heard 4 rfl) 13 rfl (fun h1 => ?_) (fun h1 => ?_)
  · skip
    refine V_aload_n (pc := 13) C (dk k_F_heard 7 rfl) rfl ?_
    refine V_getr (pc := 14) (o2 := 24) C (dk k_F_heard 8 rfl) fl_F_40 kq_0 (by decide) rfl (by decide) rfl ?_
    refine V_aload_n (pc := 17) C (dk k_F_heard 9 rfl) rfl ?_
    refine V_getr (pc := 18) (o2 := 19) C (dk k_F_heard 10 rfl) fl_F_36 kq_0 (by decide) rfl (by decide) rfl ?_
    refine V_callV0r (pc := 21) C (dk k_F_heard 11 rfl) lk_F_189 cm_S_copyFrom vm_S_copyFrom (c_S_copyFrom _ _ _ 24 19 kq_24 hs (by decide)) kq_24 rfl rfl rfl (Nat.le_of_ble_eq_true rfl) (Rm.mono hRm (by decide) (by decide)) (fun τ1 hq1 => ?_)
    refine V_R (fun hR => ?_)
    refine V_iconst (pc := 24) C (dk k_F_heard 12 rfl) rfl ?_
    refine V_istore_n (pc := 25) C (dk k_F_heard 13 rfl) (by rw [hXN]; decide) ?_
    dsimp only [lst, lstL, lz, kill, Fin.val, Nat.reduceAdd]
    refine V_eq (V_loop (fun q : Nat × Wd => q.1 ≤ 61 ∧ StR q.2 24 π (daysX π x q.1) ∧ Fr 24 5 σ q.2 ∧ o_heard π x h = hrd π x h (61 - q.1) q.1) (fun q => [some (vR 0), some (vI h), some (vI (q.1 : Int))]) (fun q => q.2) (fun q => 61 - q.1) (fun q hq ih => ?_) (0, τ1) ⟨Nat.zero_le 61, StR.copy kq_24 ok hx0 hq1.1.1 hq1.1.2.1 hq1.1.2.2.1 hq1.1.2.2.2, hq1.2, if_pos (by omega)⟩) rfl rfl rfl
    obtain ⟨i, τ⟩ := q
    obtain ⟨hi, tx1, tfr, ho⟩ := hq
    dsimp only at hi tx1 tfr ho ih ⊢
    refine V_R (fun hR => ?_)
    have hp2 : PlR τ pl π := hπ0.fr (fun k a b => tfr k (by omega))
    refine V_iload_n (pc := 26) C (dk k_F_heard 14 rfl) rfl ?_
    refine V_bipush (pc := 27) (n' := 60) C (dk k_F_heard 15 rfl) rfl ?_
    refine V_icmpgt (pc := 29) C (dk k_F_heard 16 rfl) 66 rfl (by first | exact hR _ _ | with_reducible assumption | exact ⟨by omega, by omega⟩) (by first | exact hR _ _ | with_reducible assumption | exact ⟨by omega, by omega⟩) (fun h2 => ?_) (fun h2 => ?_)
    · skip
      refine V_bipush (pc := 66) (n' := (-4)) C (dk k_F_heard 33 rfl) rfl ?_
      refine V_iret (pc := 68) C E (dk k_F_heard 34 rfl) ?_
      obtain rfl : i = 61 := by omega
      rw [ho]
      exact ⟨rfl, hC.fr (fun k a => tfr k (by unfold scr at a; omega)), fun k a => tfr k (by omega)⟩
    · skip
      have xk2 := (days_ok ok xk i).ok (i := j + 3) (by omega) (by omega)
      refine V_aload_n (pc := 32) C (dk k_F_heard 17 rfl) rfl ?_
      refine V_getr (pc := 33) (o2 := 24) C (dk k_F_heard 18 rfl) fl_F_40 kq_0 (by decide) rfl (by decide) rfl ?_
      refine V_aload_n (pc := 36) C (dk k_F_heard 19 rfl) rfl ?_
      refine V_getm (pc := 37) (o2 := pl) C (dk k_F_heard 20 rfl) fl_F_26 kq_0 (by decide) rfl (by rw [tfr 0 (by omega)]; exact hm_pl) ?_
      refine V_callV (pc := 40) C (dk k_F_heard 21 rfl) lk_F_192 cm_S_nearOfCellar vm_S_nearOfCellar (c_S_nearOfCellar _ _ _ 24 pl π (daysX π x i) (j + 3) hp2 ok tx1 xk2 (by omega)) kq_24 rfl rfl rfl (Nat.le_of_ble_eq_true rfl) (Rm.mono hRm (by decide) (by decide)) ?_
      have hce : inR (cellar π (daysX π x i)) := by
        have ⟨c0, c1⟩ := cellar_b ok xk2
        exact ⟨by omega, by omega⟩
      show V X _ _ [vI (cellar π (daysX π x i))] _
      refine V_iload_n (pc := 43) C (dk k_F_heard 22 rfl) rfl ?_
      refine V_icmplt (pc := 44) C (dk k_F_heard 23 rfl) 49 rfl hce (by first | exact hR _ _ | with_reducible assumption | exact ⟨by omega, by omega⟩) (fun h3 => ?_) (fun h3 => ?_)
      · skip
        refine V_aload_n (pc := 49) C (dk k_F_heard 26 rfl) rfl ?_
        refine V_getr (pc := 50) (o2 := 24) C (dk k_F_heard 27 rfl) fl_F_40 kq_0 (by decide) rfl (by decide) rfl ?_
        refine V_aload_n (pc := 53) C (dk k_F_heard 28 rfl) rfl ?_
        refine V_getm (pc := 54) (o2 := pl) C (dk k_F_heard 29 rfl) fl_F_26 kq_0 (by decide) rfl (by rw [tfr 0 (by omega)]; exact hm_pl) ?_
        refine V_callV0r (pc := 57) C (dk k_F_heard 30 rfl) lk_F_174 cm_S_passDay vm_S_passDay (c_S_passDay _ _ _ 24 pl π (daysX π x i) (j + 3) hp2 ok tx1 xk2 (by omega)) kq_24 rfl rfl rfl (Nat.le_of_ble_eq_true rfl) (Rm.mono hRm (by decide) (by decide)) (fun τ2 hq2 => ?_)
        refine V_R (fun hR => ?_)
        refine V_iinc (pc := 60) C (dk k_F_heard 31 rfl) (by rw [hXN]; decide) rfl ?_
        dsimp only [lst, lstL, lz, kill, Fin.val, Nat.reduceAdd]
        refine V_goto (pc := 63) C (dk k_F_heard 32 rfl) 26 rfl ?_
        exact ih (i + 1, τ2) ⟨by dsimp only; omega, hq2.1, tfr.tr hq2.2, by rw [ho, show 61 - i = (61 - (i + 1)) + 1 by omega, hrd, if_neg (by omega)]⟩ (by dsimp only; omega)
      · skip
        refine V_iload_n (pc := 47) C (dk k_F_heard 24 rfl) rfl ?_
        refine V_iret (pc := 48) C E (dk k_F_heard 25 rfl) ?_
        rw [ho, show 61 - i = (61 - (i + 1)) + 1 by omega, hrd, if_pos (by omega)]
        exact ⟨rfl, hC.fr (fun k a => tfr k (by unfold scr at a; omega)), fun k a => tfr k (by omega)⟩
  · skip
    refine V_iconst (pc := 11) C (dk k_F_heard 5 rfl) rfl ?_
    refine V_iret (pc := 12) C E (dk k_F_heard 6 rfl) ?_
    rw [show o_heard π x h = -1 from if_neg (by omega)]
    exact ⟨rfl, hC, Fc.rf σ⟩

/-- the best day of those up to i on -/
def whn (π : PL) (x : ST) (t : Int) : Nat → Int
  | 0 => 0
  | i + 1 => if sN x t * rt π (sD x + whn π x t i) < sN x t * rt π (sD x + (i + 1 : Nat)) then ((i + 1 : Nat) : Int) else whn π x t i
theorem whn_b (π : PL) (x : ST) (t : Int) : ∀ i : Nat, 0 ≤ whn π x t i ∧ whn π x t i ≤ i
  | 0 => ⟨Int.le_refl _, Int.le_refl _⟩
  | i + 1 => by
    have ⟨a, b⟩ := whn_b π x t i
    unfold whn
    split <;> omega
def o_when (π : PL) (x : ST) (t k : Int) : Int := if isT π t ∧ 0 ≤ k ∧ k ≤ 1 then (if sP x t = 0 then (if k = 0 then whn π x t 20 else sN x t * rt π (sD x + whn π x t 20)) else -2) else -1
theorem pr_b {π : PL} {x : ST} {j t d : Int} (ok : PLok π) (xk : STok π x j) (h0 : 0 ≤ t) (h1 : t < pN π) : 0 ≤ sN x t * rt π d ∧ sN x t * rt π d ≤ 891 := by
  obtain ⟨a1, a2⟩ := rt_b ok (d := d)
  obtain ⟨b1, b2, -⟩ := xk.2.2.2.2.2 t h0 h1
  exact ⟨Int.mul_nonneg b1 a1, Int.le_trans (Int.mul_le_mul b2 a2 a1 (by omega)) (by omega)⟩

def i_F_when : List (Nat × (Instr × Nat)) := [(0, (.aload_n 0, 1)), (1, (.iload_n 1, 1)), (2, (.invokevirtual 128, 3)), (5, (.ifCond .eq 12, 3)), (8, (.iload_n 2, 1)), (9, (.iconst 0, 1)), (10, (.iconst 1, 1)), (11, (.invokestatic 98, 3)), (14, (.ifCond .ne 5, 3)), (17, (.iconst (-1), 1)), (18, (.ireturn, 1)), (19, (.aload_n 0, 1)), (20, (.getfield 36, 3)), (23, (.getfield 143, 3)), (26, (.iload_n 1, 1)), (27, (.invokestatic 117, 3)), (30, (.ifCond .eq 6, 3)), (33, (.bipush (-2), 2)), (35, (.ireturn, 1)), (36, (.iconst 0, 1)), (37, (.istore_n 3, 1)), (38, (.iconst 1, 1)), (39, (.istore 4, 2)), (41, (.iload 4, 2)), (43, (.bipush 20, 2)), (45, (.if_icmp .gt 28, 3)), (48, (.aload_n 0, 1)), (49, (.iload_n 1, 1)), (50, (.iload 4, 2)), (52, (.invokevirtual 219, 3)), (55, (.aload_n 0, 1)), (56, (.iload_n 1, 1)), (57, (.iload_n 3, 1)), (58, (.invokevirtual 219, 3)), (61, (.if_icmp .le 6, 3)), (64, (.iload 4, 2)), (66, (.istore_n 3, 1)), (67, (.iinc 4 1, 3)), (70, (.goto (-29), 3)), (73, (.iload_n 2, 1)), (74, (.ifCond .ne 7, 3)), (77, (.iload_n 3, 1)), (78, (.goto 9, 3)), (81, (.aload_n 0, 1)), (82, (.iload_n 1, 1)), (83, (.iload_n 3, 1)), (84, (.invokevirtual 219, 3)), (87, (.ireturn, 1))]
theorem k_F_when : i_F_when.all (fun q => decide (decode b_F_when q.1 = .ok q.2)) = true := by decide +kernel

set_option maxHeartbeats 1000000 in
set_option maxRecDepth 20000 in
theorem c_F_when (l : Launch) (G : GE) (σ : Wd) (pl sp : Nat) (π : PL) (x : ST) (us ks : List ST) (lk : List (Int × (Int × Int))) (tx : List Int) (j : Int) (hC : CR σ pl sp π x us ks lk tx) (hV : VK π x us ks j) (hj : j ≤ 100) (t k : Int) (ht : inR t) (hk : inR k) : Ct l G y_F_when b_F_when 5 (some (.int)) 3 64 [vR 0, vI t, vI k] σ (Dt (some (vI (o_when π x t k))) σ) := by
  refine Ct.of cm_F_when (Nat.le_of_ble_eq_true rfl) ?_
  intro X hXl hXG hXN hRm C E
  subst hXl; subst hXG
  have ⟨ht_1, ht_2⟩ := ht
  have ⟨hk_1, hk_2⟩ := hk
  show V X 0 [some (vR 0), some (vI t), some (vI k), none, none] [] σ
  refine V_R (fun hR => ?_)
  obtain ⟨hF, hsp0, hsp, hne, hx, hU, hK, hl, hT⟩ := id hC
  obtain ⟨ok, xk, usk, ksk, ks2⟩ := id hV
  have hF0 := hF
  obtain ⟨hm_pl, hπ⟩ := hF
  have hπ0 := hπ
  obtain ⟨hpl, e0, e2, e7, e10, eT, eX⟩ := hπ
  obtain ⟨hpl_1, hpl_2, hpl_3, hpl_4, hpl_5, hpl_6⟩ := kd_P hpl
  have ⟨k1, k2, k3, k4, k5, k6, kT, kX⟩ := ok
  have hx0 := hx
  obtain ⟨hs, f0, f1, fQ, fT⟩ := hx
  simp only [Nat.reduceAdd] at fQ fT
  have ⟨x1, x2, x3, x4, xQ, xT⟩ := xk
  have p512 := kd5 hpl
  have s512 := kd5 hsp
  refine V_aload_n (pc := 0) C (dk k_F_when 0 rfl) rfl ?_
  refine V_iload_n (pc := 1) C (dk k_F_when 1 rfl) rfl ?_
  refine V_callV (pc := 2) C (dk k_F_when 2 rfl) lk_F_128 cm_F_isThing vm_F_isThing (c_F_isThing _ _ _ pl π t hF0 ok ht) kq_0 rfl rfl rfl (Nat.le_of_ble_eq_true rfl) (Rm.mono hRm (by decide) (by decide)) ?_
  refine V_ifeqB (pc := 5) C (dk k_F_when 3 rfl) 17 rfl (fun h1 => ?_) (fun h1 => ?_)
  · skip
    refine V_iconst (pc := 17) C (dk k_F_when 9 rfl) rfl ?_
    refine V_iret (pc := 18) C E (dk k_F_when 10 rfl) ?_
    exact ⟨by unfold o_when; rw [if_neg (by omega)], rfl⟩
  · skip
    refine V_iload_n (pc := 8) C (dk k_F_when 4 rfl) rfl ?_
    refine V_iconst (pc := 9) C (dk k_F_when 5 rfl) rfl ?_
    refine V_iconst (pc := 10) C (dk k_F_when 6 rfl) rfl ?_
    refine V_callS (pc := 11) C (dk k_F_when 7 rfl) lk_F_98 cm_F_within sm_F_within (c_F_within _ _ _ k 0 1 hk ⟨by decide, by decide⟩ ⟨by decide, by decide⟩) rfl rfl (Nat.le_of_ble_eq_true rfl) (Rm.mono hRm (by decide) (by decide)) ?_
    refine V_ifneB (pc := 14) C (dk k_F_when 8 rfl) 19 rfl (fun h2 => ?_) (fun h2 => ?_)
    · skip
      refine V_aload_n (pc := 19) C (dk k_F_when 11 rfl) rfl ?_
      obtain ⟨gN, gP⟩ := fT t (by omega) (by omega)
      refine V_getr (pc := 20) (o2 := 19) C (dk k_F_when 12 rfl) fl_F_36 kq_0 (by decide) rfl (by decide) rfl ?_
      refine V_getr (pc := 23) (o2 := 23) C (dk k_F_when 13 rfl) fl_F_143 kq_19 (by decide) rfl (by decide) rfl ?_
      refine V_iload_n (pc := 26) C (dk k_F_when 14 rfl) rfl ?_
      refine V_callS (pc := 27) C (dk k_F_when 15 rfl) lk_F_117 cm_F_at sm_F_at (c_at _ _ _ (23) 8 t kq_23 (by decide) (by omega) (by omega)) rfl rfl (Nat.le_of_ble_eq_true rfl) (Rm.mono hRm (by decide) (by decide)) ?_
      refine V_ifeq (pc := 30) C (dk k_F_when 16 rfl) 36 rfl (by first | exact hR _ _ | with_reducible assumption | exact ⟨by omega, by omega⟩) (fun h3 => ?_) (fun h3 => ?_)
      · skip
        refine V_iconst (pc := 36) C (dk k_F_when 19 rfl) rfl ?_
        refine V_istore_n (pc := 37) C (dk k_F_when 20 rfl) (by rw [hXN]; decide) ?_
        dsimp only [lst, lstL, lz, kill, Fin.val, Nat.reduceAdd]
        refine V_iconst (pc := 38) C (dk k_F_when 21 rfl) rfl ?_
        refine V_istore (pc := 39) C (dk k_F_when 22 rfl) (by rw [hXN]; decide) ?_
        dsimp only [lst, lstL, lz, kill, Fin.val, Nat.reduceAdd]
        refine V_eq (V_loop (fun i : Nat => i ≤ 20) (fun i => [some (vR 0), some (vI t), some (vI k), some (vI (whn π x t i)), some (vI ((i : Int) + 1))]) (fun _ => σ) (fun i => 20 - i) (fun i hi ih => ?_) 0 (by decide)) rfl rfl rfl
        have ⟨wb0, wb1⟩ := whn_b π x t i
        have hp1 := pr_b (d := sD x + ((i : Int) + 1)) ok xk (t := t) (by omega) (by omega)
        have hp2 := pr_b (d := sD x + whn π x t i) ok xk (t := t) (by omega) (by omega)
        refine V_iload (pc := 41) C (dk k_F_when 23 rfl) rfl ?_
        refine V_bipush (pc := 43) (n' := 20) C (dk k_F_when 24 rfl) rfl ?_
        refine V_icmpgt (pc := 45) C (dk k_F_when 25 rfl) 73 rfl (by first | exact hR _ _ | with_reducible assumption | exact ⟨by omega, by omega⟩) (by first | exact hR _ _ | with_reducible assumption | exact ⟨by omega, by omega⟩) (fun h4 => ?_) (fun h4 => ?_)
        · skip
          refine V_iload_n (pc := 73) C (dk k_F_when 39 rfl) rfl ?_
          refine V_ifne (pc := 74) C (dk k_F_when 40 rfl) 81 rfl (by first | exact hR _ _ | with_reducible assumption | exact ⟨by omega, by omega⟩) (fun h5 => ?_) (fun h5 => ?_)
          · skip
            refine V_aload_n (pc := 81) C (dk k_F_when 43 rfl) rfl ?_
            refine V_iload_n (pc := 82) C (dk k_F_when 44 rfl) rfl ?_
            refine V_iload_n (pc := 83) C (dk k_F_when 45 rfl) rfl ?_
            refine V_callV (pc := 84) C (dk k_F_when 46 rfl) lk_F_219 cm_F_priceBehind vm_F_priceBehind (c_F_priceBehind _ _ _ pl π x j t (whn π x t i) hF0 ok hx0 xk (by omega) (by omega) (by omega) (by omega) (by omega)) kq_0 rfl rfl rfl (Nat.le_of_ble_eq_true rfl) (Rm.mono hRm (by decide) (by decide)) ?_
            refine V_iret (pc := 87) C E (dk k_F_when 47 rfl) ?_
            obtain rfl : i = 20 := by omega
            exact ⟨by unfold o_when; rw [if_pos (by omega), if_pos (by omega)]; first | rw [if_pos (by omega)] | rw [if_neg (by omega)], rfl⟩
          · skip
            refine V_iload_n (pc := 77) C (dk k_F_when 41 rfl) rfl ?_
            refine V_goto (pc := 78) C (dk k_F_when 42 rfl) 87 rfl ?_
            refine V_iret (pc := 87) C E (dk k_F_when 47 rfl) ?_
            obtain rfl : i = 20 := by omega
            exact ⟨by unfold o_when; rw [if_pos (by omega), if_pos (by omega)]; first | rw [if_pos (by omega)] | rw [if_neg (by omega)], rfl⟩
        · skip
          refine V_aload_n (pc := 48) C (dk k_F_when 26 rfl) rfl ?_
          refine V_iload_n (pc := 49) C (dk k_F_when 27 rfl) rfl ?_
          refine V_iload (pc := 50) C (dk k_F_when 28 rfl) rfl ?_
          refine V_callV (pc := 52) C (dk k_F_when 29 rfl) lk_F_219 cm_F_priceBehind vm_F_priceBehind (c_F_priceBehind _ _ _ pl π x j t ((i : Int) + 1) hF0 ok hx0 xk (by omega) (by omega) (by omega) (by omega) (by omega)) kq_0 rfl rfl rfl (Nat.le_of_ble_eq_true rfl) (Rm.mono hRm (by decide) (by decide)) ?_
          refine V_aload_n (pc := 55) C (dk k_F_when 30 rfl) rfl ?_
          refine V_iload_n (pc := 56) C (dk k_F_when 31 rfl) rfl ?_
          refine V_iload_n (pc := 57) C (dk k_F_when 32 rfl) rfl ?_
          refine V_callV (pc := 58) C (dk k_F_when 33 rfl) lk_F_219 cm_F_priceBehind vm_F_priceBehind (c_F_priceBehind _ _ _ pl π x j t (whn π x t i) hF0 ok hx0 xk (by omega) (by omega) (by omega) (by omega) (by omega)) kq_0 rfl rfl rfl (Nat.le_of_ble_eq_true rfl) (Rm.mono hRm (by decide) (by decide)) ?_
          refine V_icmple (pc := 61) C (dk k_F_when 34 rfl) 67 rfl ⟨by omega, by omega⟩ ⟨by omega, by omega⟩ (fun h6 => ?_) (fun h6 => ?_)
          · skip
            refine V_iinc (pc := 67) C (dk k_F_when 37 rfl) (by rw [hXN]; decide) rfl ?_
            dsimp only [lst, lstL, lz, kill, Fin.val, Nat.reduceAdd]
            refine V_goto (pc := 70) C (dk k_F_when 38 rfl) 41 rfl ?_
            refine V_eq (ih (i + 1) (by omega) (by omega)) ?_ rfl rfl
            rw [whn]
            first | rw [if_pos (show sN x t * rt π (sD x + whn π x t i) < sN x t * rt π (sD x + (i + 1 : Nat)) by rw [Int.natCast_add]; exact Int.not_le.mp (by assumption))] | rw [if_neg (show ¬ sN x t * rt π (sD x + whn π x t i) < sN x t * rt π (sD x + (i + 1 : Nat)) by rw [Int.natCast_add]; exact Int.not_lt.mpr (by assumption))]
            rfl
          · skip
            refine V_iload (pc := 64) C (dk k_F_when 35 rfl) rfl ?_
            refine V_istore_n (pc := 66) C (dk k_F_when 36 rfl) (by rw [hXN]; decide) ?_
            dsimp only [lst, lstL, lz, kill, Fin.val, Nat.reduceAdd]
            refine V_iinc (pc := 67) C (dk k_F_when 37 rfl) (by rw [hXN]; decide) rfl ?_
            dsimp only [lst, lstL, lz, kill, Fin.val, Nat.reduceAdd]
            refine V_goto (pc := 70) C (dk k_F_when 38 rfl) 41 rfl ?_
            refine V_eq (ih (i + 1) (by omega) (by omega)) ?_ rfl rfl
            rw [whn]
            first | rw [if_pos (show sN x t * rt π (sD x + whn π x t i) < sN x t * rt π (sD x + (i + 1 : Nat)) by rw [Int.natCast_add]; exact Int.not_le.mp (by assumption))] | rw [if_neg (show ¬ sN x t * rt π (sD x + whn π x t i) < sN x t * rt π (sD x + (i + 1 : Nat)) by rw [Int.natCast_add]; exact Int.not_lt.mpr (by assumption))]
            rfl
      · skip
        refine V_bipush (pc := 33) (n' := (-2)) C (dk k_F_when 17 rfl) rfl ?_
        refine V_iret (pc := 35) C E (dk k_F_when 18 rfl) ?_
        exact ⟨by unfold o_when; rw [if_pos (by omega), if_neg (by omega)], rfl⟩
    · skip
      refine V_iconst (pc := 17) C (dk k_F_when 9 rfl) rfl ?_
      refine V_iret (pc := 18) C E (dk k_F_when 10 rfl) ?_
      exact ⟨by unfold o_when; rw [if_neg (by omega)], rfl⟩

/-- two things fit: neither gone, near by v together -/
abbrev pfit (x : ST) (v : Int) (a b : Nat) : Prop := (sP x a ≠ 2 ∧ sP x b ≠ 2) ∧ sN x a + sN x b = v
def prI (x : ST) (v : Int) (a : Nat) : Nat → Nat → Int
  | 0, _ => -4
  | f + 1, b => if pfit x v a b then 10 * (a : Int) + b else prI x v a f (b + 1)
def prO (x : ST) (v : Int) (n : Nat) : Nat → Nat → Int
  | 0, _ => -4
  | f + 1, a => if prI x v a (n - (a + 1)) (a + 1) = -4 then prO x v n f (a + 1) else prI x v a (n - (a + 1)) (a + 1)
def o_pair (π : PL) (x : ST) (v : Int) : Int := if 2 ≤ v ∧ v ≤ 198 then prO x v (pN π) (pN π) 0 else -1

def i_F_pair : List (Nat × (Instr × Nat)) := [(0, (.iload_n 1, 1)), (1, (.iconst 2, 1)), (2, (.sipush 198, 3)), (5, (.invokestatic 98, 3)), (8, (.ifCond .ne 5, 3)), (11, (.iconst (-1), 1)), (12, (.ireturn, 1)), (13, (.iconst 0, 1)), (14, (.istore_n 2, 1)), (15, (.iload_n 2, 1)), (16, (.aload_n 0, 1)), (17, (.getfield 26, 3)), (20, (.getfield 196, 3)), (23, (.if_icmp .ge 106, 3)), (26, (.iload_n 2, 1)), (27, (.iconst 1, 1)), (28, (.iadd, 1)), (29, (.istore_n 3, 1)), (30, (.iload_n 3, 1)), (31, (.aload_n 0, 1)), (32, (.getfield 26, 3)), (35, (.getfield 196, 3)), (38, (.if_icmp .ge 85, 3)), (41, (.aload_n 0, 1)), (42, (.getfield 36, 3)), (45, (.getfield 143, 3)), (48, (.iload_n 2, 1)), (49, (.invokestatic 117, 3)), (52, (.iconst 2, 1)), (53, (.if_icmp .eq 22, 3)), (56, (.aload_n 0, 1)), (57, (.getfield 36, 3)), (60, (.getfield 143, 3)), (63, (.iload_n 3, 1)), (64, (.invokestatic 117, 3)), (67, (.iconst 2, 1)), (68, (.if_icmp .eq 7, 3)), (71, (.iconst 1, 1)), (72, (.goto 4, 3)), (75, (.iconst 0, 1)), (76, (.istore 4, 2)), (78, (.iload 4, 2)), (80, (.ifCond .eq 37, 3)), (83, (.aload_n 0, 1)), (84, (.getfield 36, 3)), (87, (.getfield 137, 3)), (90, (.iload_n 2, 1)), (91, (.invokestatic 117, 3)), (94, (.aload_n 0, 1)), (95, (.getfield 36, 3)), (98, (.getfield 137, 3)), (101, (.iload_n 3, 1)), (102, (.invokestatic 117, 3)), (105, (.iadd, 1)), (106, (.iload_n 1, 1)), (107, (.if_icmp .ne 10, 3)), (110, (.bipush 10, 2)), (112, (.iload_n 2, 1)), (113, (.imul, 1)), (114, (.iload_n 3, 1)), (115, (.iadd, 1)), (116, (.ireturn, 1)), (117, (.iinc 3 1, 3)), (120, (.goto (-90), 3)), (123, (.iinc 2 1, 3)), (126, (.goto (-111), 3)), (129, (.bipush (-4), 2)), (131, (.ireturn, 1))]
theorem k_F_pair : i_F_pair.all (fun q => decide (decode b_F_pair q.1 = .ok q.2)) = true := by decide +kernel

set_option maxHeartbeats 1000000 in
set_option maxRecDepth 20000 in
theorem c_F_pair (l : Launch) (G : GE) (σ : Wd) (pl sp : Nat) (π : PL) (x : ST) (us ks : List ST) (lk : List (Int × (Int × Int))) (tx : List Int) (j : Int) (hC : CR σ pl sp π x us ks lk tx) (hV : VK π x us ks j) (hj : j ≤ 100) (v : Int) (hv : inR v) : Ct l G y_F_pair b_F_pair 5 (some (.int)) 1 22 [vR 0, vI v] σ (Dt (some (vI (o_pair π x v))) σ) := by
  refine Ct.of cm_F_pair (Nat.le_of_ble_eq_true rfl) ?_
  intro X hXl hXG hXN hRm C E
  subst hXl; subst hXG
  have ⟨hv_1, hv_2⟩ := hv
  show V X 0 [some (vR 0), some (vI v), none, none, none] [] σ
  refine V_R (fun hR => ?_)
  obtain ⟨hF, hsp0, hsp, hne, hx, hU, hK, hl, hT⟩ := id hC
  obtain ⟨ok, xk, usk, ksk, ks2⟩ := id hV
  have hF0 := hF
  obtain ⟨hm_pl, hπ⟩ := hF
  have hπ0 := hπ
  obtain ⟨hpl, e0, e2, e7, e10, eT, eX⟩ := hπ
  obtain ⟨hpl_1, hpl_2, hpl_3, hpl_4, hpl_5, hpl_6⟩ := kd_P hpl
  have ⟨k1, k2, k3, k4, k5, k6, kT, kX⟩ := ok
  have hx0 := hx
  obtain ⟨hs, f0, f1, fQ, fT⟩ := hx
  simp only [Nat.reduceAdd] at fQ fT
  have ⟨x1, x2, x3, x4, xQ, xT⟩ := xk
  have p512 := kd5 hpl
  have s512 := kd5 hsp
  refine V_iload_n (pc := 0) C (dk k_F_pair 0 rfl) rfl ?_
  refine V_iconst (pc := 1) C (dk k_F_pair 1 rfl) rfl ?_
  refine V_sipush (pc := 2) (n' := 198) C (dk k_F_pair 2 rfl) rfl ?_
  refine V_callS (pc := 5) C (dk k_F_pair 3 rfl) lk_F_98 cm_F_within sm_F_within (c_F_within _ _ _ v 2 198 hv ⟨by decide, by decide⟩ ⟨by decide, by decide⟩) rfl rfl (Nat.le_of_ble_eq_true rfl) (Rm.mono hRm (by decide) (by decide)) ?_
  refine V_ifneB (pc := 8) C (dk k_F_pair 4 rfl) 13 rfl (fun h1 => ?_) (fun h1 => ?_)
  · skip
    refine V_iconst (pc := 13) C (dk k_F_pair 7 rfl) rfl ?_
    refine V_istore_n (pc := 14) C (dk k_F_pair 8 rfl) (by rw [hXN]; decide) ?_
    dsimp only [lst, lstL, lz, kill, Fin.val, Nat.reduceAdd]
    refine V_eq (V_loop (fun a : Nat => a ≤ pN π ∧ o_pair π x v = prO x v (pN π) (pN π - a) a) (fun a => [some (vR 0), some (vI v), some (vI (a : Int)), none, none]) (fun _ => σ) (fun a => pN π - a) (fun a ha iha => ?_) 0 ⟨Nat.zero_le _, if_pos (by omega)⟩) rfl rfl rfl
    obtain ⟨ha, hoa⟩ := ha
    refine V_iload_n (pc := 15) C (dk k_F_pair 9 rfl) rfl ?_
    refine V_aload_n (pc := 16) C (dk k_F_pair 10 rfl) rfl ?_
    refine V_getm (pc := 17) (o2 := pl) C (dk k_F_pair 11 rfl) fl_F_26 kq_0 (by decide) rfl hm_pl ?_
    refine V_geti (pc := 20) (ji := 2) C (dk k_F_pair 12 rfl) fl_F_196 hpl (by decide) rfl rfl ?_
    refine V_icmpge (pc := 23) C (dk k_F_pair 13 rfl) 129 rfl (by first | exact hR _ _ | with_reducible assumption | exact ⟨by omega, by omega⟩) (by first | exact hR _ _ | with_reducible assumption | exact ⟨by omega, by omega⟩) (fun h2 => ?_) (fun h2 => ?_)
    · skip
      refine V_bipush (pc := 129) (n' := (-4)) C (dk k_F_pair 66 rfl) rfl ?_
      refine V_iret (pc := 131) C E (dk k_F_pair 67 rfl) ?_
      obtain rfl : a = pN π := by omega
      rw [hoa, Nat.sub_self]
      exact ⟨rfl, rfl⟩
    · skip
      refine V_iload_n (pc := 26) C (dk k_F_pair 14 rfl) rfl ?_
      refine V_iconst (pc := 27) C (dk k_F_pair 15 rfl) rfl ?_
      refine V_iadd (pc := 28) C (dk k_F_pair 16 rfl) ?_
      refine V_istore_n (pc := 29) C (dk k_F_pair 17 rfl) (by rw [hXN]; decide) ?_
      dsimp only [lst, lstL, lz, kill, Fin.val, Nat.reduceAdd]
      refine V_eq (V_loop (fun b : Nat => a + 1 ≤ b ∧ b ≤ pN π ∧ o_pair π x v = if prI x v a (pN π - b) b = -4 then prO x v (pN π) (pN π - (a + 1)) (a + 1) else prI x v a (pN π - b) b) (fun b => [some (vR 0), some (vI v), some (vI (a : Int)), some (vI (b : Int)), none]) (fun _ => σ) (fun b => pN π - b) (fun b hb ihb => ?_) (a + 1) ⟨Nat.le_refl _, by omega, by rw [hoa, show pN π - a = (pN π - (a + 1)) + 1 by omega, prO]⟩) rfl rfl rfl
      obtain ⟨hb0, hb, hob⟩ := hb
      refine V_iload_n (pc := 30) C (dk k_F_pair 18 rfl) rfl ?_
      refine V_aload_n (pc := 31) C (dk k_F_pair 19 rfl) rfl ?_
      refine V_getm (pc := 32) (o2 := pl) C (dk k_F_pair 20 rfl) fl_F_26 kq_0 (by decide) rfl hm_pl ?_
      refine V_geti (pc := 35) (ji := 2) C (dk k_F_pair 21 rfl) fl_F_196 hpl (by decide) rfl rfl ?_
      refine V_icmpge (pc := 38) C (dk k_F_pair 22 rfl) 123 rfl (by first | exact hR _ _ | with_reducible assumption | exact ⟨by omega, by omega⟩) (by first | exact hR _ _ | with_reducible assumption | exact ⟨by omega, by omega⟩) (fun h3 => ?_) (fun h3 => ?_)
      · skip
        refine V_iinc (pc := 123) C (dk k_F_pair 64 rfl) (by rw [hXN]; decide) rfl ?_
        dsimp only [lst, lstL, lz, kill, Fin.val, Nat.reduceAdd]
        refine V_goto (pc := 126) C (dk k_F_pair 65 rfl) 15 rfl ?_
        refine V_fg 3 ?_
        dsimp only [fg]
        refine iha (a + 1) ⟨by omega, ?_⟩ (by omega)
        obtain rfl : b = pN π := by omega
        rw [hob, Nat.sub_self, prI, if_pos rfl]
      · skip
        obtain ⟨aN, aP⟩ := fT a (by omega) (by omega)
        obtain ⟨bN, bP⟩ := fT b (by omega) (by omega)
        obtain ⟨a0, a1, -, -, -⟩ := xT a (by omega) (by omega)
        obtain ⟨b0, b1, -, -, -⟩ := xT b (by omega) (by omega)
        refine V_aload_n (pc := 41) C (dk k_F_pair 23 rfl) rfl ?_
        refine V_getr (pc := 42) (o2 := 19) C (dk k_F_pair 24 rfl) fl_F_36 kq_0 (by decide) rfl (by decide) rfl ?_
        refine V_getr (pc := 45) (o2 := 23) C (dk k_F_pair 25 rfl) fl_F_143 kq_19 (by decide) rfl (by decide) rfl ?_
        refine V_iload_n (pc := 48) C (dk k_F_pair 26 rfl) rfl ?_
        refine V_callS (pc := 49) C (dk k_F_pair 27 rfl) lk_F_117 cm_F_at sm_F_at (c_at _ _ _ (23) 8 a kq_23 (by decide) (by omega) (by omega)) rfl rfl (Nat.le_of_ble_eq_true rfl) (Rm.mono hRm (by decide) (by decide)) ?_
        refine V_iconst (pc := 52) C (dk k_F_pair 28 rfl) rfl ?_
        refine V_icmpeq (pc := 53) C (dk k_F_pair 29 rfl) 75 rfl (by first | exact hR _ _ | with_reducible assumption | exact ⟨by omega, by omega⟩) (by first | exact hR _ _ | with_reducible assumption | exact ⟨by omega, by omega⟩) (fun h4 => ?_) (fun h4 => ?_)
        · skip
          refine V_iconst (pc := 75) C (dk k_F_pair 39 rfl) rfl ?_
          refine V_istore (pc := 76) C (dk k_F_pair 40 rfl) (by rw [hXN]; decide) ?_
          dsimp only [lst, lstL, lz, kill, Fin.val, Nat.reduceAdd]
          refine V_iload (pc := 78) C (dk k_F_pair 41 rfl) rfl ?_
          refine V_ifeq (pc := 80) C (dk k_F_pair 42 rfl) 117 rfl (by first | exact hR _ _ | with_reducible assumption | exact ⟨by omega, by omega⟩) (fun h5 => ?_) (fun h5 => ?_)
          · skip
            refine V_iinc (pc := 117) C (dk k_F_pair 62 rfl) (by rw [hXN]; decide) rfl ?_
            dsimp only [lst, lstL, lz, kill, Fin.val, Nat.reduceAdd]
            refine V_goto (pc := 120) C (dk k_F_pair 63 rfl) 30 rfl ?_
            refine V_fg 4 ?_
            dsimp only [fg]
            refine ihb (b + 1) ⟨by omega, by omega, ?_⟩ (by omega)
            have hnf : ¬ pfit x v a b := fun z => by obtain ⟨⟨z1, z2⟩, z3⟩ := z; omega
            rw [hob, show pN π - b = (pN π - (b + 1)) + 1 by omega, prI, if_neg hnf]
          · skip
            refine V_aload_n (pc := 83) C (dk k_F_pair 43 rfl) rfl ?_
            refine V_getr (pc := 84) (o2 := 19) C (dk k_F_pair 44 rfl) fl_F_36 kq_0 (by decide) rfl (by decide) rfl ?_
            refine V_getr (pc := 87) (o2 := 22) C (dk k_F_pair 45 rfl) fl_F_137 kq_19 (by decide) rfl (by decide) rfl ?_
            refine V_iload_n (pc := 90) C (dk k_F_pair 46 rfl) rfl ?_
            refine V_callS (pc := 91) C (dk k_F_pair 47 rfl) lk_F_117 cm_F_at sm_F_at (c_at _ _ _ (22) 8 a kq_22 (by decide) (by omega) (by omega)) rfl rfl (Nat.le_of_ble_eq_true rfl) (Rm.mono hRm (by decide) (by decide)) ?_
            refine V_aload_n (pc := 94) C (dk k_F_pair 48 rfl) rfl ?_
            refine V_getr (pc := 95) (o2 := 19) C (dk k_F_pair 49 rfl) fl_F_36 kq_0 (by decide) rfl (by decide) rfl ?_
            refine V_getr (pc := 98) (o2 := 22) C (dk k_F_pair 50 rfl) fl_F_137 kq_19 (by decide) rfl (by decide) rfl ?_
            refine V_iload_n (pc := 101) C (dk k_F_pair 51 rfl) rfl ?_
            refine V_callS (pc := 102) C (dk k_F_pair 52 rfl) lk_F_117 cm_F_at sm_F_at (c_at _ _ _ (22) 8 b kq_22 (by decide) (by omega) (by omega)) rfl rfl (Nat.le_of_ble_eq_true rfl) (Rm.mono hRm (by decide) (by decide)) ?_
            refine V_iadd (pc := 105) C (dk k_F_pair 53 rfl) ?_
            refine V_iload_n (pc := 106) C (dk k_F_pair 54 rfl) rfl ?_
            refine V_icmpne (pc := 107) C (dk k_F_pair 55 rfl) 117 rfl (by first | exact hR _ _ | with_reducible assumption | exact ⟨by omega, by omega⟩) (by first | exact hR _ _ | with_reducible assumption | exact ⟨by omega, by omega⟩) (fun h6 => ?_) (fun h6 => ?_)
            · skip
              refine V_iinc (pc := 117) C (dk k_F_pair 62 rfl) (by rw [hXN]; decide) rfl ?_
              dsimp only [lst, lstL, lz, kill, Fin.val, Nat.reduceAdd]
              refine V_goto (pc := 120) C (dk k_F_pair 63 rfl) 30 rfl ?_
              refine V_fg 4 ?_
              dsimp only [fg]
              refine ihb (b + 1) ⟨by omega, by omega, ?_⟩ (by omega)
              have hnf : ¬ pfit x v a b := fun z => by obtain ⟨⟨z1, z2⟩, z3⟩ := z; omega
              rw [hob, show pN π - b = (pN π - (b + 1)) + 1 by omega, prI, if_neg hnf]
            · skip
              refine V_bipush (pc := 110) (n' := 10) C (dk k_F_pair 56 rfl) rfl ?_
              refine V_iload_n (pc := 112) C (dk k_F_pair 57 rfl) rfl ?_
              refine V_imul (pc := 113) C (dk k_F_pair 58 rfl) ?_
              refine V_iload_n (pc := 114) C (dk k_F_pair 59 rfl) rfl ?_
              refine V_iadd (pc := 115) C (dk k_F_pair 60 rfl) ?_
              refine V_iret (pc := 116) C E (dk k_F_pair 61 rfl) ?_
              first | (exfalso; omega) | (have hnf : pfit x v a b := ⟨⟨by omega, by omega⟩, by omega⟩; rw [hob, show pN π - b = (pN π - (b + 1)) + 1 by omega, prI, if_pos hnf, if_neg (by omega)]; exact ⟨rfl, rfl⟩)
        · skip
          refine V_aload_n (pc := 56) C (dk k_F_pair 30 rfl) rfl ?_
          refine V_getr (pc := 57) (o2 := 19) C (dk k_F_pair 31 rfl) fl_F_36 kq_0 (by decide) rfl (by decide) rfl ?_
          refine V_getr (pc := 60) (o2 := 23) C (dk k_F_pair 32 rfl) fl_F_143 kq_19 (by decide) rfl (by decide) rfl ?_
          refine V_iload_n (pc := 63) C (dk k_F_pair 33 rfl) rfl ?_
          refine V_callS (pc := 64) C (dk k_F_pair 34 rfl) lk_F_117 cm_F_at sm_F_at (c_at _ _ _ (23) 8 b kq_23 (by decide) (by omega) (by omega)) rfl rfl (Nat.le_of_ble_eq_true rfl) (Rm.mono hRm (by decide) (by decide)) ?_
          refine V_iconst (pc := 67) C (dk k_F_pair 35 rfl) rfl ?_
          refine V_icmpeq (pc := 68) C (dk k_F_pair 36 rfl) 75 rfl (by first | exact hR _ _ | with_reducible assumption | exact ⟨by omega, by omega⟩) (by first | exact hR _ _ | with_reducible assumption | exact ⟨by omega, by omega⟩) (fun h7 => ?_) (fun h7 => ?_)
          · skip
            refine V_iconst (pc := 75) C (dk k_F_pair 39 rfl) rfl ?_
            refine V_istore (pc := 76) C (dk k_F_pair 40 rfl) (by rw [hXN]; decide) ?_
            dsimp only [lst, lstL, lz, kill, Fin.val, Nat.reduceAdd]
            refine V_iload (pc := 78) C (dk k_F_pair 41 rfl) rfl ?_
            refine V_ifeq (pc := 80) C (dk k_F_pair 42 rfl) 117 rfl (by first | exact hR _ _ | with_reducible assumption | exact ⟨by omega, by omega⟩) (fun h8 => ?_) (fun h8 => ?_)
            · skip
              refine V_iinc (pc := 117) C (dk k_F_pair 62 rfl) (by rw [hXN]; decide) rfl ?_
              dsimp only [lst, lstL, lz, kill, Fin.val, Nat.reduceAdd]
              refine V_goto (pc := 120) C (dk k_F_pair 63 rfl) 30 rfl ?_
              refine V_fg 4 ?_
              dsimp only [fg]
              refine ihb (b + 1) ⟨by omega, by omega, ?_⟩ (by omega)
              have hnf : ¬ pfit x v a b := fun z => by obtain ⟨⟨z1, z2⟩, z3⟩ := z; omega
              rw [hob, show pN π - b = (pN π - (b + 1)) + 1 by omega, prI, if_neg hnf]
            · skip
              refine V_aload_n (pc := 83) C (dk k_F_pair 43 rfl) rfl ?_
              refine V_getr (pc := 84) (o2 := 19) C (dk k_F_pair 44 rfl) fl_F_36 kq_0 (by decide) rfl (by decide) rfl ?_
              refine V_getr (pc := 87) (o2 := 22) C (dk k_F_pair 45 rfl) fl_F_137 kq_19 (by decide) rfl (by decide) rfl ?_
              refine V_iload_n (pc := 90) C (dk k_F_pair 46 rfl) rfl ?_
              refine V_callS (pc := 91) C (dk k_F_pair 47 rfl) lk_F_117 cm_F_at sm_F_at (c_at _ _ _ (22) 8 a kq_22 (by decide) (by omega) (by omega)) rfl rfl (Nat.le_of_ble_eq_true rfl) (Rm.mono hRm (by decide) (by decide)) ?_
              refine V_aload_n (pc := 94) C (dk k_F_pair 48 rfl) rfl ?_
              refine V_getr (pc := 95) (o2 := 19) C (dk k_F_pair 49 rfl) fl_F_36 kq_0 (by decide) rfl (by decide) rfl ?_
              refine V_getr (pc := 98) (o2 := 22) C (dk k_F_pair 50 rfl) fl_F_137 kq_19 (by decide) rfl (by decide) rfl ?_
              refine V_iload_n (pc := 101) C (dk k_F_pair 51 rfl) rfl ?_
              refine V_callS (pc := 102) C (dk k_F_pair 52 rfl) lk_F_117 cm_F_at sm_F_at (c_at _ _ _ (22) 8 b kq_22 (by decide) (by omega) (by omega)) rfl rfl (Nat.le_of_ble_eq_true rfl) (Rm.mono hRm (by decide) (by decide)) ?_
              refine V_iadd (pc := 105) C (dk k_F_pair 53 rfl) ?_
              refine V_iload_n (pc := 106) C (dk k_F_pair 54 rfl) rfl ?_
              refine V_icmpne (pc := 107) C (dk k_F_pair 55 rfl) 117 rfl (by first | exact hR _ _ | with_reducible assumption | exact ⟨by omega, by omega⟩) (by first | exact hR _ _ | with_reducible assumption | exact ⟨by omega, by omega⟩) (fun h9 => ?_) (fun h9 => ?_)
              · skip
                refine V_iinc (pc := 117) C (dk k_F_pair 62 rfl) (by rw [hXN]; decide) rfl ?_
                dsimp only [lst, lstL, lz, kill, Fin.val, Nat.reduceAdd]
                refine V_goto (pc := 120) C (dk k_F_pair 63 rfl) 30 rfl ?_
                refine V_fg 4 ?_
                dsimp only [fg]
                refine ihb (b + 1) ⟨by omega, by omega, ?_⟩ (by omega)
                have hnf : ¬ pfit x v a b := fun z => by obtain ⟨⟨z1, z2⟩, z3⟩ := z; omega
                rw [hob, show pN π - b = (pN π - (b + 1)) + 1 by omega, prI, if_neg hnf]
              · skip
                refine V_bipush (pc := 110) (n' := 10) C (dk k_F_pair 56 rfl) rfl ?_
                refine V_iload_n (pc := 112) C (dk k_F_pair 57 rfl) rfl ?_
                refine V_imul (pc := 113) C (dk k_F_pair 58 rfl) ?_
                refine V_iload_n (pc := 114) C (dk k_F_pair 59 rfl) rfl ?_
                refine V_iadd (pc := 115) C (dk k_F_pair 60 rfl) ?_
                refine V_iret (pc := 116) C E (dk k_F_pair 61 rfl) ?_
                first | (exfalso; omega) | (have hnf : pfit x v a b := ⟨⟨by omega, by omega⟩, by omega⟩; rw [hob, show pN π - b = (pN π - (b + 1)) + 1 by omega, prI, if_pos hnf, if_neg (by omega)]; exact ⟨rfl, rfl⟩)
          · skip
            refine V_iconst (pc := 71) C (dk k_F_pair 37 rfl) rfl ?_
            refine V_goto (pc := 72) C (dk k_F_pair 38 rfl) 76 rfl ?_
            refine V_istore (pc := 76) C (dk k_F_pair 40 rfl) (by rw [hXN]; decide) ?_
            dsimp only [lst, lstL, lz, kill, Fin.val, Nat.reduceAdd]
            refine V_iload (pc := 78) C (dk k_F_pair 41 rfl) rfl ?_
            refine V_ifeq (pc := 80) C (dk k_F_pair 42 rfl) 117 rfl (by first | exact hR _ _ | with_reducible assumption | exact ⟨by omega, by omega⟩) (fun h10 => ?_) (fun h10 => ?_)
            · skip
              refine V_iinc (pc := 117) C (dk k_F_pair 62 rfl) (by rw [hXN]; decide) rfl ?_
              dsimp only [lst, lstL, lz, kill, Fin.val, Nat.reduceAdd]
              refine V_goto (pc := 120) C (dk k_F_pair 63 rfl) 30 rfl ?_
              refine V_fg 4 ?_
              dsimp only [fg]
              refine ihb (b + 1) ⟨by omega, by omega, ?_⟩ (by omega)
              have hnf : ¬ pfit x v a b := fun z => by obtain ⟨⟨z1, z2⟩, z3⟩ := z; omega
              rw [hob, show pN π - b = (pN π - (b + 1)) + 1 by omega, prI, if_neg hnf]
            · skip
              refine V_aload_n (pc := 83) C (dk k_F_pair 43 rfl) rfl ?_
              refine V_getr (pc := 84) (o2 := 19) C (dk k_F_pair 44 rfl) fl_F_36 kq_0 (by decide) rfl (by decide) rfl ?_
              refine V_getr (pc := 87) (o2 := 22) C (dk k_F_pair 45 rfl) fl_F_137 kq_19 (by decide) rfl (by decide) rfl ?_
              refine V_iload_n (pc := 90) C (dk k_F_pair 46 rfl) rfl ?_
              refine V_callS (pc := 91) C (dk k_F_pair 47 rfl) lk_F_117 cm_F_at sm_F_at (c_at _ _ _ (22) 8 a kq_22 (by decide) (by omega) (by omega)) rfl rfl (Nat.le_of_ble_eq_true rfl) (Rm.mono hRm (by decide) (by decide)) ?_
              refine V_aload_n (pc := 94) C (dk k_F_pair 48 rfl) rfl ?_
              refine V_getr (pc := 95) (o2 := 19) C (dk k_F_pair 49 rfl) fl_F_36 kq_0 (by decide) rfl (by decide) rfl ?_
              refine V_getr (pc := 98) (o2 := 22) C (dk k_F_pair 50 rfl) fl_F_137 kq_19 (by decide) rfl (by decide) rfl ?_
              refine V_iload_n (pc := 101) C (dk k_F_pair 51 rfl) rfl ?_
              refine V_callS (pc := 102) C (dk k_F_pair 52 rfl) lk_F_117 cm_F_at sm_F_at (c_at _ _ _ (22) 8 b kq_22 (by decide) (by omega) (by omega)) rfl rfl (Nat.le_of_ble_eq_true rfl) (Rm.mono hRm (by decide) (by decide)) ?_
              refine V_iadd (pc := 105) C (dk k_F_pair 53 rfl) ?_
              refine V_iload_n (pc := 106) C (dk k_F_pair 54 rfl) rfl ?_
              refine V_icmpne (pc := 107) C (dk k_F_pair 55 rfl) 117 rfl (by first | exact hR _ _ | with_reducible assumption | exact ⟨by omega, by omega⟩) (by first | exact hR _ _ | with_reducible assumption | exact ⟨by omega, by omega⟩) (fun h11 => ?_) (fun h11 => ?_)
              · skip
                refine V_iinc (pc := 117) C (dk k_F_pair 62 rfl) (by rw [hXN]; decide) rfl ?_
                dsimp only [lst, lstL, lz, kill, Fin.val, Nat.reduceAdd]
                refine V_goto (pc := 120) C (dk k_F_pair 63 rfl) 30 rfl ?_
                refine V_fg 4 ?_
                dsimp only [fg]
                refine ihb (b + 1) ⟨by omega, by omega, ?_⟩ (by omega)
                have hnf : ¬ pfit x v a b := fun z => by obtain ⟨⟨z1, z2⟩, z3⟩ := z; omega
                rw [hob, show pN π - b = (pN π - (b + 1)) + 1 by omega, prI, if_neg hnf]
              · skip
                refine V_bipush (pc := 110) (n' := 10) C (dk k_F_pair 56 rfl) rfl ?_
                refine V_iload_n (pc := 112) C (dk k_F_pair 57 rfl) rfl ?_
                refine V_imul (pc := 113) C (dk k_F_pair 58 rfl) ?_
                refine V_iload_n (pc := 114) C (dk k_F_pair 59 rfl) rfl ?_
                refine V_iadd (pc := 115) C (dk k_F_pair 60 rfl) ?_
                refine V_iret (pc := 116) C E (dk k_F_pair 61 rfl) ?_
                first | (exfalso; omega) | (have hnf : pfit x v a b := ⟨⟨by omega, by omega⟩, by omega⟩; rw [hob, show pN π - b = (pN π - (b + 1)) + 1 by omega, prI, if_pos hnf, if_neg (by omega)]; exact ⟨rfl, rfl⟩)
  · skip
    refine V_iconst (pc := 11) C (dk k_F_pair 5 rfl) rfl ?_
    refine V_iret (pc := 12) C E (dk k_F_pair 6 rfl) ?_
    exact ⟨by unfold o_pair; rw [if_neg (by omega)], rfl⟩

def i_F_kinds : List (Nat × (Instr × Nat)) := [(0, (.aload_n 0, 1)), (1, (.iload_n 1, 1)), (2, (.invokevirtual 128, 3)), (5, (.ifCond .ne 5, 3)), (8, (.iconst (-1), 1)), (9, (.ireturn, 1)), (10, (.iconst 0, 1)), (11, (.istore_n 2, 1)), (12, (.iconst 0, 1)), (13, (.istore_n 3, 1)), (14, (.iload_n 3, 1)), (15, (.iconst 4, 1)), (16, (.if_icmp .ge 24, 3)), (19, (.aload_n 0, 1)), (20, (.iload_n 1, 1)), (21, (.iload_n 3, 1)), (22, (.invokevirtual 236, 3)), (25, (.ifCond .eq 9, 3)), (28, (.iload_n 2, 1)), (29, (.iconst 1, 1)), (30, (.iload_n 3, 1)), (31, (.ishl, 1)), (32, (.ior, 1)), (33, (.istore_n 2, 1)), (34, (.iinc 3 1, 3)), (37, (.goto (-23), 3)), (40, (.iload_n 2, 1)), (41, (.ireturn, 1))]
theorem k_F_kinds : i_F_kinds.all (fun q => decide (decode b_F_kinds q.1 = .ok q.2)) = true := by decide +kernel

set_option maxHeartbeats 1000000 in
set_option maxRecDepth 20000 in
theorem c_F_kinds (l : Launch) (G : GE) (σ : Wd) (pl sp : Nat) (π : PL) (x : ST) (us ks : List ST) (lk : List (Int × (Int × Int))) (tx : List Int) (j : Int) (hC : CR σ pl sp π x us ks lk tx) (hV : VK π x us ks j) (hj : j ≤ 100) (t : Int) (ht : inR t) : Ct l G y_F_kinds b_F_kinds 4 (some (.int)) 4 96 [vR 0, vI t] σ (Dt (some (vI (o_kinds π x lk t))) σ) := by
  refine Ct.of cm_F_kinds (Nat.le_of_ble_eq_true rfl) ?_
  intro X hXl hXG hXN hRm C E
  subst hXl; subst hXG
  have ⟨ht_1, ht_2⟩ := ht
  show V X 0 [some (vR 0), some (vI t), none, none] [] σ
  refine V_R (fun hR => ?_)
  obtain ⟨hF, hsp0, hsp, hne, hx, hU, hK, hl, hT⟩ := id hC
  obtain ⟨ok, xk, usk, ksk, ks2⟩ := id hV
  have hF0 := hF
  obtain ⟨hm_pl, hπ⟩ := hF
  have hπ0 := hπ
  obtain ⟨hpl, e0, e2, e7, e10, eT, eX⟩ := hπ
  obtain ⟨hpl_1, hpl_2, hpl_3, hpl_4, hpl_5, hpl_6⟩ := kd_P hpl
  have ⟨k1, k2, k3, k4, k5, k6, kT, kX⟩ := ok
  have hx0 := hx
  obtain ⟨hs, f0, f1, fQ, fT⟩ := hx
  simp only [Nat.reduceAdd] at fQ fT
  have ⟨x1, x2, x3, x4, xQ, xT⟩ := xk
  have p512 := kd5 hpl
  have s512 := kd5 hsp
  refine V_aload_n (pc := 0) C (dk k_F_kinds 0 rfl) rfl ?_
  refine V_iload_n (pc := 1) C (dk k_F_kinds 1 rfl) rfl ?_
  refine V_callV (pc := 2) C (dk k_F_kinds 2 rfl) lk_F_128 cm_F_isThing vm_F_isThing (c_F_isThing _ _ _ pl π t hF0 ok ht) kq_0 rfl rfl rfl (Nat.le_of_ble_eq_true rfl) (Rm.mono hRm (by decide) (by decide)) ?_
  refine V_ifneB (pc := 5) C (dk k_F_kinds 3 rfl) 10 rfl (fun h1 => ?_) (fun h1 => ?_)
  · skip
    refine V_iconst (pc := 10) C (dk k_F_kinds 6 rfl) rfl ?_
    refine V_istore_n (pc := 11) C (dk k_F_kinds 7 rfl) (by rw [hXN]; decide) ?_
    dsimp only [lst, lstL, lz, kill, Fin.val, Nat.reduceAdd]
    refine V_iconst (pc := 12) C (dk k_F_kinds 8 rfl) rfl ?_
    refine V_istore_n (pc := 13) C (dk k_F_kinds 9 rfl) (by rw [hXN]; decide) ?_
    dsimp only [lst, lstL, lz, kill, Fin.val, Nat.reduceAdd]
    refine V_eq (V_loop (fun i : Nat => i ≤ 4) (fun i => [some (vR 0), some (vI t), some (vI (bs (fun k => lk.all (lkq t k (sN x t) (sD x))) i)), some (vI (i : Int))]) (fun _ => σ) (fun i => 4 - i) (fun i hi ih => ?_) 0 (by decide)) rfl rfl rfl
    have hb := bs_256 (fun k => lk.all (lkq t k (sN x t) (sD x))) (show i ≤ 8 by omega)
    refine V_iload_n (pc := 14) C (dk k_F_kinds 10 rfl) rfl ?_
    refine V_iconst (pc := 15) C (dk k_F_kinds 11 rfl) rfl ?_
    refine V_icmpge (pc := 16) C (dk k_F_kinds 12 rfl) 40 rfl (by first | exact hR _ _ | with_reducible assumption | exact ⟨by omega, by omega⟩) (by first | exact hR _ _ | with_reducible assumption | exact ⟨by omega, by omega⟩) (fun h2 => ?_) (fun h2 => ?_)
    · skip
      refine V_iload_n (pc := 40) C (dk k_F_kinds 26 rfl) rfl ?_
      refine V_iret (pc := 41) C E (dk k_F_kinds 27 rfl) ?_
      obtain rfl : i = 4 := by omega
      exact ⟨by unfold o_kinds; rw [if_pos (by omega)], rfl⟩
    · skip
      refine V_aload_n (pc := 19) C (dk k_F_kinds 13 rfl) rfl ?_
      refine V_iload_n (pc := 20) C (dk k_F_kinds 14 rfl) rfl ?_
      refine V_iload_n (pc := 21) C (dk k_F_kinds 15 rfl) rfl ?_
      refine V_callV (pc := 22) C (dk k_F_kinds 16 rfl) lk_F_236 cm_F_fitsLooks vm_F_fitsLooks (c_F_fitsLooks _ _ _ pl π x j t i lk hF0 ok hx0 xk (by omega) hl (by omega) (by omega) ⟨by omega, by omega⟩) kq_0 rfl rfl rfl (Nat.le_of_ble_eq_true rfl) (Rm.mono hRm (by decide) (by decide)) ?_
      refine V_ifeqB (pc := 25) C (dk k_F_kinds 17 rfl) 34 rfl (fun h3 => ?_) (fun h3 => ?_)
      · skip
        refine V_iinc (pc := 34) C (dk k_F_kinds 24 rfl) (by rw [hXN]; decide) rfl ?_
        dsimp only [lst, lstL, lz, kill, Fin.val, Nat.reduceAdd]
        refine V_goto (pc := 37) C (dk k_F_kinds 25 rfl) 14 rfl ?_
        refine V_eq (ih (i + 1) (by omega) (by omega)) ?_ rfl rfl
        rw [bs_s]
        first | rw [if_pos (by assumption), ← bs_or] | rw [if_neg (by assumption), Int.add_zero]
        rfl
      · skip
        refine V_iload_n (pc := 28) C (dk k_F_kinds 18 rfl) rfl ?_
        refine V_iconst (pc := 29) C (dk k_F_kinds 19 rfl) rfl ?_
        refine V_iload_n (pc := 30) C (dk k_F_kinds 20 rfl) rfl ?_
        have hp8 := bs_p8 (show i < 8 by omega)
        refine V_ishl (pc := 31) C (dk k_F_kinds 21 rfl) (by omega) (by omega) (by omega) hp8.1 ?_
        refine V_ior (pc := 32) C (dk k_F_kinds 22 rfl) ⟨by omega, by omega⟩ ⟨by omega, by omega⟩ (by omega) (by omega) ?_
        refine V_istore_n (pc := 33) C (dk k_F_kinds 23 rfl) (by rw [hXN]; decide) ?_
        dsimp only [lst, lstL, lz, kill, Fin.val, Nat.reduceAdd]
        refine V_iinc (pc := 34) C (dk k_F_kinds 24 rfl) (by rw [hXN]; decide) rfl ?_
        dsimp only [lst, lstL, lz, kill, Fin.val, Nat.reduceAdd]
        refine V_goto (pc := 37) C (dk k_F_kinds 25 rfl) 14 rfl ?_
        refine V_eq (ih (i + 1) (by omega) (by omega)) ?_ rfl rfl
        rw [bs_s]
        first | rw [if_pos (by assumption), ← bs_or] | rw [if_neg (by assumption), Int.add_zero]
        rfl
  · skip
    refine V_iconst (pc := 8) C (dk k_F_kinds 4 rfl) rfl ?_
    refine V_iret (pc := 9) C E (dk k_F_kinds 5 rfl) ?_
    exact ⟨by unfold o_kinds; rw [if_neg (by omega)], rfl⟩
end
section
/-- between the steps of Euclid, from any start -/
def euJ (a b i x y : Int) : Prop := (i = 0 ∧ x = a ∧ y = b) ∨ (1 ≤ i ∧ euI a b i x y)
theorem euJ_s {a b i x y : Int} (ha : 0 ≤ a) (hb : 0 ≤ b) (ha1 : a < 34359738368) (hb1 : b < 34359738368) (h : euJ a b i x y) (hy : y ≠ 0) (hi : i < 100) : euJ a b (i + 1) y (x % y) := by
  rcases h with ⟨rfl, rfl, rfl⟩ | ⟨h1, h⟩
  · refine Or.inr ⟨by omega, by omega, by omega, by omega, Int.emod_nonneg _ hy, by omega, ?_, ?_, fun _ => ⟨Int.emod_lt_of_pos _ (by omega), ?_⟩⟩
    · have := Int.emod_lt_of_pos x (show 0 < y by omega); omega
    · rw [Int.emod_def, Int.gcd_sub_mul_left_right, Int.gcd_comm]
    · show y * (x % y) * 2 ^ 0 ≤ x * y
      rw [Int.pow_zero, Int.mul_one, Int.mul_comm x y]
      have : x % y ≤ x := by
        have h3 := Int.emod_add_mul_ediv x y
        have : 0 ≤ y * (x / y) := Int.mul_nonneg (by omega) (Int.ediv_nonneg (by omega) (by omega))
        omega
      exact Int.mul_le_mul_of_nonneg_left this (by omega)
  · have ⟨e1, e2, e3, e4, e5, e6, e7, e8⟩ := h
    have y0 : 0 < y := by omega
    have m0 : 0 ≤ x % y := Int.emod_nonneg x hy
    have m1 : x % y < y := Int.emod_lt_of_pos x y0
    refine Or.inr ⟨by omega, by omega, by omega, y0, m0, e6, by omega, ?_, fun _ => ⟨m1, ?_⟩⟩
    · rw [← e7, Int.emod_def, Int.gcd_sub_mul_left_right, Int.gcd_comm]
    · obtain ⟨f1, f2⟩ := e8 h1
      have h2 := eu_half y0 f1
      have e : (i + 1 - 1).toNat = (i - 1).toNat + 1 := by omega
      rw [e, Int.pow_succ]
      have hp : (0 : Int) ≤ 2 ^ (i - 1).toNat := Int.pow_nonneg (by omega)
      calc y * (x % y) * (2 ^ (i - 1).toNat * 2) = (y * (x % y) * 2) * 2 ^ (i - 1).toNat := by rw [Int.mul_comm (2 ^ (i - 1).toNat) 2, ← Int.mul_assoc]
        _ ≤ (x * y) * 2 ^ (i - 1).toNat := Int.mul_le_mul_of_nonneg_right h2 hp
        _ ≤ a * b := f2
theorem euJ_b {a b i x y : Int} (ha : 0 ≤ a) (hb : 0 ≤ b) (ha1 : a < 34359738368) (hb1 : b < 34359738368) (h : euJ a b i x y) : 0 ≤ i ∧ i ≤ 100 ∧ 0 ≤ x ∧ 0 ≤ y ∧ x < 4611686018427387904 ∧ y < 4611686018427387904 ∧ Int.gcd x y = Int.gcd a b := by
  rcases h with ⟨rfl, rfl, rfl⟩ | ⟨h1, e1, e2, e3, e4, e5, e6, e7, e8⟩
  · exact ⟨by omega, by omega, ha, hb, by omega, by omega, rfl⟩
  · exact ⟨by omega, by omega, by omega, by omega, by omega, by omega, e7⟩

set_option maxHeartbeats 1000000 in
set_option maxRecDepth 20000 in
theorem c_cd (l : Launch) (G : GE) (σ : Wd) (a b : Int) (ha : 0 ≤ a) (hb : 0 ≤ b) (ha1 : a < 34359738368) (hb1 : b < 34359738368) : Ct l G y_F_commonDivisor b_F_commonDivisor 11 (some (.long)) 0 0 [vL a, vL b] σ (Dt (some (vL (Int.gcd a b : Nat))) σ) := by
  refine Ct.of cm_F_commonDivisor (Nat.le_of_ble_eq_true rfl) ?_
  intro X hXl hXG hXN hRm C E
  subst hXl; subst hXG
  show V X 0 [some (vL a), none, some (vL b), none, none, none, none, none, none, none, none] [] σ
  refine V_R (fun hR => ?_)
  refine V_lload_n (pc := 0) C (dk k_F_commonDivisor 0 rfl) rfl ?_
  refine V_lstore (pc := 1) C (dk k_F_commonDivisor 1 rfl) (by rw [hXN]; decide) ?_
  dsimp only [lst, lstL, lz, kill, Fin.val, Nat.reduceAdd]
  refine V_lload_n (pc := 3) C (dk k_F_commonDivisor 2 rfl) rfl ?_
  refine V_lstore (pc := 4) C (dk k_F_commonDivisor 3 rfl) (by rw [hXN]; decide) ?_
  dsimp only [lst, lstL, lz, kill, Fin.val, Nat.reduceAdd]
  refine V_iconst (pc := 6) C (dk k_F_commonDivisor 4 rfl) rfl ?_
  refine V_istore (pc := 7) C (dk k_F_commonDivisor 5 rfl) (by rw [hXN]; decide) ?_
  dsimp only [lst, lstL, lz, kill, Fin.val, Nat.reduceAdd]
  refine V_eq (V_loop (fun q : Int × (Int × Int) => euJ a b q.1 q.2.1 q.2.2) (fun q => [some (vL a), none, some (vL b), none, some (vL q.2.1), none, some (vL q.2.2), none, some (vI q.1), none, none]) (fun _ => σ) (fun q => (100 - q.1).toNat) (fun q hq ih => ?_) (0, (a, b)) (Or.inl ⟨rfl, rfl, rfl⟩)) rfl rfl rfl
  obtain ⟨i, x, y⟩ := q
  dsimp only at *
  have ⟨g1, g2, g3, g4, g5, g6, g7⟩ := euJ_b ha hb ha1 hb1 hq
  refine V_iload (pc := 9) C (dk k_F_commonDivisor 6 rfl) rfl ?_
  refine V_bipush (pc := 11) (n' := 100) C (dk k_F_commonDivisor 7 rfl) rfl ?_
  refine V_icmpge (pc := 13) C (dk k_F_commonDivisor 8 rfl) 44 rfl (by first | exact hR _ _ | with_reducible assumption | exact ⟨by omega, by omega⟩) (by first | exact hR _ _ | with_reducible assumption | exact ⟨by omega, by omega⟩) (fun h1 => ?_) (fun h1 => ?_)
  · skip
    refine V_lload (pc := 44) C (dk k_F_commonDivisor 23 rfl) rfl ?_
    refine V_lret (pc := 46) C E (dk k_F_commonDivisor 24 rfl) ?_
    have hab : a * b ≤ 34359738368 * 34359738368 := Int.mul_le_mul (by omega) (by omega) hb (by omega)
    have hi100 : i = 100 → y = 0 := fun q => by subst q; rcases hq with ⟨h, -⟩ | ⟨-, h⟩; exact absurd h (by decide); exact euI_end (by omega) h
    obtain rfl : y = 0 := by omega
    refine ⟨?_, rfl⟩
    rw [← g7, Int.gcd_zero_right]
    congr 2
    omega
  · skip
    refine V_lload (pc := 16) C (dk k_F_commonDivisor 9 rfl) rfl ?_
    refine V_lconst (pc := 18) (n' := 0) C (dk k_F_commonDivisor 10 rfl) rfl ?_
    refine V_lcmp (pc := 19) C (dk k_F_commonDivisor 11 rfl) ⟨by omega, by omega⟩ ⟨by omega, by omega⟩ ?_
    refine V_ifeqC (pc := 20) C (dk k_F_commonDivisor 12 rfl) 44 rfl  (fun h2 => ?_) (fun h2 => ?_)
    · skip
      refine V_lload (pc := 44) C (dk k_F_commonDivisor 23 rfl) rfl ?_
      refine V_lret (pc := 46) C E (dk k_F_commonDivisor 24 rfl) ?_
      have hab : a * b ≤ 34359738368 * 34359738368 := Int.mul_le_mul (by omega) (by omega) hb (by omega)
      have hi100 : i = 100 → y = 0 := fun q => by subst q; rcases hq with ⟨h, -⟩ | ⟨-, h⟩; exact absurd h (by decide); exact euI_end (by omega) h
      obtain rfl : y = 0 := by omega
      refine ⟨?_, rfl⟩
      rw [← g7, Int.gcd_zero_right]
      congr 2
      omega
    · skip
      refine V_lload (pc := 23) C (dk k_F_commonDivisor 13 rfl) rfl ?_
      refine V_lload (pc := 25) C (dk k_F_commonDivisor 14 rfl) rfl ?_
      refine V_lrem (pc := 27) C (dk k_F_commonDivisor 15 rfl) ⟨by omega, by omega⟩ ⟨by omega, by omega⟩ (by omega) (by omega) ?_
      refine V_lstore (pc := 28) C (dk k_F_commonDivisor 16 rfl) (by rw [hXN]; decide) ?_
      dsimp only [lst, lstL, lz, kill, Fin.val, Nat.reduceAdd]
      refine V_lload (pc := 30) C (dk k_F_commonDivisor 17 rfl) rfl ?_
      refine V_lstore (pc := 32) C (dk k_F_commonDivisor 18 rfl) (by rw [hXN]; decide) ?_
      dsimp only [lst, lstL, lz, kill, Fin.val, Nat.reduceAdd]
      refine V_lload (pc := 34) C (dk k_F_commonDivisor 19 rfl) rfl ?_
      refine V_lstore (pc := 36) C (dk k_F_commonDivisor 20 rfl) (by rw [hXN]; decide) ?_
      dsimp only [lst, lstL, lz, kill, Fin.val, Nat.reduceAdd]
      refine V_iinc (pc := 38) C (dk k_F_commonDivisor 21 rfl) (by rw [hXN]; decide) rfl ?_
      dsimp only [lst, lstL, lz, kill, Fin.val, Nat.reduceAdd]
      refine V_goto (pc := 41) C (dk k_F_commonDivisor 22 rfl) 9 rfl ?_
      refine V_fg 9 ?_
      dsimp only [fg]
      exact ih (i + 1, (y, x % y)) (euJ_s ha hb ha1 hb1 hq (by omega) (by omega)) (by dsimp only; omega)

/-- above (0) or below, in lowest terms -/
def lp (a b k : Int) : Int := if k = 0 then a / (Int.gcd a b : Nat) else b / (Int.gcd a b : Nat)

def i_F_lowestPart : List (Nat × (Instr × Nat)) := [(0, (.lload_n 0, 1)), (1, (.lload_n 2, 1)), (2, (.invokestatic 294, 3)), (5, (.lstore 5, 2)), (7, (.lload 5, 2)), (9, (.lconst 0, 1)), (10, (.lcmp, 1)), (11, (.ifCond .ne 5, 3)), (14, (.iconst 0, 1)), (15, (.ireturn, 1)), (16, (.iload 4, 2)), (18, (.ifCond .ne 7, 3)), (21, (.lload_n 0, 1)), (22, (.goto 4, 3)), (25, (.lload_n 2, 1)), (26, (.lload 5, 2)), (28, (.ldiv, 1)), (29, (.l2i, 1)), (30, (.ireturn, 1))]
theorem k_F_lowestPart : i_F_lowestPart.all (fun q => decide (decode b_F_lowestPart q.1 = .ok q.2)) = true := by decide +kernel

set_option maxHeartbeats 1000000 in
set_option maxRecDepth 20000 in
theorem c_F_lowestPart (l : Launch) (G : GE) (σ : Wd) (a b k : Int) (ha : 0 ≤ a) (hb : 0 < b) (ha1 : a < 34359738368) (hb1 : b < 34359738368) (hk : inR k) : Ct l G y_F_lowestPart b_F_lowestPart 7 (some (.int)) 1 30 [vL a, vL b, vI k] σ (Dt (some (vI (lp a b k))) σ) := by
  refine Ct.of cm_F_lowestPart (Nat.le_of_ble_eq_true rfl) ?_
  intro X hXl hXG hXN hRm C E
  subst hXl; subst hXG
  have ⟨hk_1, hk_2⟩ := hk
  show V X 0 [some (vL a), none, some (vL b), none, some (vI k), none, none] [] σ
  refine V_R (fun hR => ?_)
  have hg : 0 < Int.gcd a b := Int.gcd_pos_of_ne_zero_right a (by omega)
  have hgb : (Int.gcd a b : Int) ≤ b := Int.le_of_dvd hb (Int.gcd_dvd_right ..)
  refine V_lload_n (pc := 0) C (dk k_F_lowestPart 0 rfl) rfl ?_
  refine V_lload_n (pc := 1) C (dk k_F_lowestPart 1 rfl) rfl ?_
  refine V_callS (pc := 2) C (dk k_F_lowestPart 2 rfl) lk_F_294 cm_F_commonDivisor sm_F_commonDivisor (c_cd _ _ _ a b ha (by omega) ha1 hb1) rfl rfl (Nat.le_of_ble_eq_true rfl) (Rm.mono hRm (by decide) (by decide)) ?_
  refine V_lstore (pc := 5) C (dk k_F_lowestPart 3 rfl) (by rw [hXN]; decide) ?_
  dsimp only [lst, lstL, lz, kill, Fin.val, Nat.reduceAdd]
  refine V_lload (pc := 7) C (dk k_F_lowestPart 4 rfl) rfl ?_
  refine V_lconst (pc := 9) (n' := 0) C (dk k_F_lowestPart 5 rfl) rfl ?_
  refine V_lcmp (pc := 10) C (dk k_F_lowestPart 6 rfl) ⟨by omega, by omega⟩ ⟨by omega, by omega⟩ ?_
  refine V_ifneC (pc := 11) C (dk k_F_lowestPart 7 rfl) 16 rfl  (fun h1 => ?_) (fun h1 => ?_)
  · skip
    refine V_iload (pc := 16) C (dk k_F_lowestPart 10 rfl) rfl ?_
    refine V_ifne (pc := 18) C (dk k_F_lowestPart 11 rfl) 25 rfl (by first | exact hR _ _ | with_reducible assumption | exact ⟨by omega, by omega⟩) (fun h2 => ?_) (fun h2 => ?_)
    · skip
      refine V_lload_n (pc := 25) C (dk k_F_lowestPart 14 rfl) rfl ?_
      refine V_lload (pc := 26) C (dk k_F_lowestPart 15 rfl) rfl ?_
      refine V_ldiv (pc := 28) C (dk k_F_lowestPart 16 rfl) ⟨by omega, by omega⟩ ⟨by omega, by omega⟩ (by omega) (by omega) ?_
      refine V_l2i (pc := 29) C (dk k_F_lowestPart 17 rfl) ?_
      refine V_iret (pc := 30) C E (dk k_F_lowestPart 18 rfl) ?_
      refine ⟨?_, rfl⟩
      unfold lp
      first | (rw [if_pos (by omega)]; done) | (rw [if_neg (by omega)]; done)
    · skip
      refine V_lload_n (pc := 21) C (dk k_F_lowestPart 12 rfl) rfl ?_
      refine V_goto (pc := 22) C (dk k_F_lowestPart 13 rfl) 26 rfl ?_
      refine V_lload (pc := 26) C (dk k_F_lowestPart 15 rfl) rfl ?_
      refine V_ldiv (pc := 28) C (dk k_F_lowestPart 16 rfl) ⟨by omega, by omega⟩ ⟨by omega, by omega⟩ (by omega) (by omega) ?_
      refine V_l2i (pc := 29) C (dk k_F_lowestPart 17 rfl) ?_
      refine V_iret (pc := 30) C E (dk k_F_lowestPart 18 rfl) ?_
      refine ⟨?_, rfl⟩
      unfold lp
      first | (rw [if_pos (by omega)]; done) | (rw [if_neg (by omega)]; done)
  · skip
    refine V_iconst (pc := 14) C (dk k_F_lowestPart 8 rfl) rfl ?_
    refine V_iret (pc := 15) C E (dk k_F_lowestPart 9 rfl) ?_
    exfalso; omega

theorem pow_b {b a : Int} (h0 : 0 ≤ b) (h1 : b ≤ 10) (a0 : 0 ≤ a) (a1 : a ≤ 4) : 0 ≤ b ^ a.toNat ∧ b ^ a.toNat ≤ 10000 := by
  have key : ∀ b : Fin 11, ∀ a : Fin 5, 0 ≤ (b.val : Int) ^ a.val ∧ (b.val : Int) ^ a.val ≤ 10000 := by decide
  have := key ⟨b.toNat, by omega⟩ ⟨a.toNat, by omega⟩
  rwa [show ((b.toNat : Nat) : Int) = b by omega] at this
theorem mul3_b {a b c : Int} (a0 : 0 ≤ a) (a1 : a ≤ 10) (b0 : 0 ≤ b) (b1 : b ≤ 10000) (c0 : 0 ≤ c) (c1 : c ≤ 10000) : 0 ≤ a * b * c ∧ a * b * c ≤ 1000000000 := by
  have h1 : 0 ≤ a * b := Int.mul_nonneg a0 b0
  have h2 : a * b ≤ 10 * 10000 := Int.mul_le_mul a1 b1 b0 (by omega)
  exact ⟨Int.mul_nonneg h1 c0, Int.le_trans (Int.mul_le_mul h2 c1 c0 (by omega)) (by omega)⟩
def suI (s e a b : Int) : Int := s * (10 - e) ^ a.toNat * e ^ b.toNat
def suN (s e a b : Int) : Int := (10 - s) * e ^ a.toNat * (10 - e) ^ b.toNat
def o_sure (s e a b k : Int) : Int := if (1 ≤ s ∧ s ≤ 9) ∧ (0 ≤ e ∧ e ≤ 9) ∧ (0 ≤ a ∧ a ≤ 4) ∧ (0 ≤ b ∧ b ≤ 4) ∧ (0 ≤ k ∧ k ≤ 1) then (if suI s e a b + suN s e a b = 0 then -4 else lp (suI s e a b) (suI s e a b + suN s e a b) k) else -1

def i_F_sure : List (Nat × (Instr × Nat)) := [(0, (.iload_n 1, 1)), (1, (.iconst 1, 1)), (2, (.bipush 9, 2)), (4, (.invokestatic 98, 3)), (7, (.ifCond .eq 42, 3)), (10, (.iload_n 2, 1)), (11, (.iconst 0, 1)), (12, (.bipush 9, 2)), (14, (.invokestatic 98, 3)), (17, (.ifCond .eq 32, 3)), (20, (.iload_n 3, 1)), (21, (.iconst 0, 1)), (22, (.iconst 4, 1)), (23, (.invokestatic 98, 3)), (26, (.ifCond .eq 23, 3)), (29, (.iload 4, 2)), (31, (.iconst 0, 1)), (32, (.iconst 4, 1)), (33, (.invokestatic 98, 3)), (36, (.ifCond .eq 13, 3)), (39, (.iload 5, 2)), (41, (.iconst 0, 1)), (42, (.iconst 1, 1)), (43, (.invokestatic 98, 3)), (46, (.ifCond .ne 5, 3)), (49, (.iconst (-1), 1)), (50, (.ireturn, 1)), (51, (.iload_n 1, 1)), (52, (.i2l, 1)), (53, (.bipush 10, 2)), (55, (.iload_n 2, 1)), (56, (.isub, 1)), (57, (.iload_n 3, 1)), (58, (.invokestatic 240, 3)), (61, (.lmul, 1)), (62, (.iload_n 2, 1)), (63, (.iload 4, 2)), (65, (.invokestatic 240, 3)), (68, (.lmul, 1)), (69, (.lstore 6, 2)), (71, (.bipush 10, 2)), (73, (.iload_n 1, 1)), (74, (.isub, 1)), (75, (.i2l, 1)), (76, (.iload_n 2, 1)), (77, (.iload_n 3, 1)), (78, (.invokestatic 240, 3)), (81, (.lmul, 1)), (82, (.bipush 10, 2)), (84, (.iload_n 2, 1)), (85, (.isub, 1)), (86, (.iload 4, 2)), (88, (.invokestatic 240, 3)), (91, (.lmul, 1)), (92, (.lstore 8, 2)), (94, (.lload 6, 2)), (96, (.lload 8, 2)), (98, (.ladd, 1)), (99, (.lconst 0, 1)), (100, (.lcmp, 1)), (101, (.ifCond .ne 8, 3)), (104, (.bipush (-4), 2)), (106, (.goto 15, 3)), (109, (.lload 6, 2)), (111, (.lload 6, 2)), (113, (.lload 8, 2)), (115, (.ladd, 1)), (116, (.iload 5, 2)), (118, (.invokestatic 244, 3)), (121, (.ireturn, 1))]
theorem k_F_sure : i_F_sure.all (fun q => decide (decode b_F_sure q.1 = .ok q.2)) = true := by decide +kernel

set_option maxHeartbeats 1000000 in
set_option maxRecDepth 20000 in
theorem c_F_sure (l : Launch) (G : GE) (σ : Wd) (s e a b k : Int) (hs : inR s) (he : inR e) (ha : inR a) (hb : inR b) (hk : inR k) : Ct l G y_F_sure b_F_sure 10 (some (.int)) 2 56 [vR 0, vI s, vI e, vI a, vI b, vI k] σ (Dt (some (vI (o_sure s e a b k))) σ) := by
  refine Ct.of cm_F_sure (Nat.le_of_ble_eq_true rfl) ?_
  intro X hXl hXG hXN hRm C E
  subst hXl; subst hXG
  have ⟨hs_1, hs_2⟩ := hs
  have ⟨he_1, he_2⟩ := he
  have ⟨ha_1, ha_2⟩ := ha
  have ⟨hb_1, hb_2⟩ := hb
  have ⟨hk_1, hk_2⟩ := hk
  show V X 0 [some (vR 0), some (vI s), some (vI e), some (vI a), some (vI b), some (vI k), none, none, none, none] [] σ
  refine V_R (fun hR => ?_)
  refine V_iload_n (pc := 0) C (dk k_F_sure 0 rfl) rfl ?_
  refine V_iconst (pc := 1) C (dk k_F_sure 1 rfl) rfl ?_
  refine V_bipush (pc := 2) (n' := 9) C (dk k_F_sure 2 rfl) rfl ?_
  refine V_callS (pc := 4) C (dk k_F_sure 3 rfl) lk_F_98 cm_F_within sm_F_within (c_F_within _ _ _ s 1 9 hs ⟨by decide, by decide⟩ ⟨by decide, by decide⟩) rfl rfl (Nat.le_of_ble_eq_true rfl) (Rm.mono hRm (by decide) (by decide)) ?_
  refine V_ifeqB (pc := 7) C (dk k_F_sure 4 rfl) 49 rfl (fun h1 => ?_) (fun h1 => ?_)
  · skip
    refine V_iconst (pc := 49) C (dk k_F_sure 25 rfl) rfl ?_
    refine V_iret (pc := 50) C E (dk k_F_sure 26 rfl) ?_
    exact ⟨by unfold o_sure; rw [if_neg (by omega)], rfl⟩
  · skip
    refine V_iload_n (pc := 10) C (dk k_F_sure 5 rfl) rfl ?_
    refine V_iconst (pc := 11) C (dk k_F_sure 6 rfl) rfl ?_
    refine V_bipush (pc := 12) (n' := 9) C (dk k_F_sure 7 rfl) rfl ?_
    refine V_callS (pc := 14) C (dk k_F_sure 8 rfl) lk_F_98 cm_F_within sm_F_within (c_F_within _ _ _ e 0 9 he ⟨by decide, by decide⟩ ⟨by decide, by decide⟩) rfl rfl (Nat.le_of_ble_eq_true rfl) (Rm.mono hRm (by decide) (by decide)) ?_
    refine V_ifeqB (pc := 17) C (dk k_F_sure 9 rfl) 49 rfl (fun h2 => ?_) (fun h2 => ?_)
    · skip
      refine V_iconst (pc := 49) C (dk k_F_sure 25 rfl) rfl ?_
      refine V_iret (pc := 50) C E (dk k_F_sure 26 rfl) ?_
      exact ⟨by unfold o_sure; rw [if_neg (by omega)], rfl⟩
    · skip
      refine V_iload_n (pc := 20) C (dk k_F_sure 10 rfl) rfl ?_
      refine V_iconst (pc := 21) C (dk k_F_sure 11 rfl) rfl ?_
      refine V_iconst (pc := 22) C (dk k_F_sure 12 rfl) rfl ?_
      refine V_callS (pc := 23) C (dk k_F_sure 13 rfl) lk_F_98 cm_F_within sm_F_within (c_F_within _ _ _ a 0 4 ha ⟨by decide, by decide⟩ ⟨by decide, by decide⟩) rfl rfl (Nat.le_of_ble_eq_true rfl) (Rm.mono hRm (by decide) (by decide)) ?_
      refine V_ifeqB (pc := 26) C (dk k_F_sure 14 rfl) 49 rfl (fun h3 => ?_) (fun h3 => ?_)
      · skip
        refine V_iconst (pc := 49) C (dk k_F_sure 25 rfl) rfl ?_
        refine V_iret (pc := 50) C E (dk k_F_sure 26 rfl) ?_
        exact ⟨by unfold o_sure; rw [if_neg (by omega)], rfl⟩
      · skip
        refine V_iload (pc := 29) C (dk k_F_sure 15 rfl) rfl ?_
        refine V_iconst (pc := 31) C (dk k_F_sure 16 rfl) rfl ?_
        refine V_iconst (pc := 32) C (dk k_F_sure 17 rfl) rfl ?_
        refine V_callS (pc := 33) C (dk k_F_sure 18 rfl) lk_F_98 cm_F_within sm_F_within (c_F_within _ _ _ b 0 4 hb ⟨by decide, by decide⟩ ⟨by decide, by decide⟩) rfl rfl (Nat.le_of_ble_eq_true rfl) (Rm.mono hRm (by decide) (by decide)) ?_
        refine V_ifeqB (pc := 36) C (dk k_F_sure 19 rfl) 49 rfl (fun h4 => ?_) (fun h4 => ?_)
        · skip
          refine V_iconst (pc := 49) C (dk k_F_sure 25 rfl) rfl ?_
          refine V_iret (pc := 50) C E (dk k_F_sure 26 rfl) ?_
          exact ⟨by unfold o_sure; rw [if_neg (by omega)], rfl⟩
        · skip
          refine V_iload (pc := 39) C (dk k_F_sure 20 rfl) rfl ?_
          refine V_iconst (pc := 41) C (dk k_F_sure 21 rfl) rfl ?_
          refine V_iconst (pc := 42) C (dk k_F_sure 22 rfl) rfl ?_
          refine V_callS (pc := 43) C (dk k_F_sure 23 rfl) lk_F_98 cm_F_within sm_F_within (c_F_within _ _ _ k 0 1 hk ⟨by decide, by decide⟩ ⟨by decide, by decide⟩) rfl rfl (Nat.le_of_ble_eq_true rfl) (Rm.mono hRm (by decide) (by decide)) ?_
          refine V_ifneB (pc := 46) C (dk k_F_sure 24 rfl) 51 rfl (fun h5 => ?_) (fun h5 => ?_)
          · skip
            have ⟨p1, p2⟩ := pow_b (b := 10 - e) (a := a) (by omega) (by omega) (by omega) (by omega)
            have ⟨p3, p4⟩ := pow_b (b := e) (a := b) (by omega) (by omega) (by omega) (by omega)
            have ⟨p5, p6⟩ := pow_b (b := e) (a := a) (by omega) (by omega) (by omega) (by omega)
            have ⟨p7, p8⟩ := pow_b (b := 10 - e) (a := b) (by omega) (by omega) (by omega) (by omega)
            have ⟨i0, i1⟩ := mul3_b (a := s) (by omega) (by omega) p1 p2 p3 p4
            have ⟨n0, n1⟩ := mul3_b (a := 10 - s) (by omega) (by omega) p5 p6 p7 p8
            have i0 : 0 ≤ suI s e a b := i0
            have i1 : suI s e a b ≤ 1000000000 := i1
            have n0 : 0 ≤ suN s e a b := n0
            have n1 : suN s e a b ≤ 1000000000 := n1
            refine V_iload_n (pc := 51) C (dk k_F_sure 27 rfl) rfl ?_
            refine V_i2l (pc := 52) C (dk k_F_sure 28 rfl) (by first | exact hR _ _ | with_reducible assumption | exact ⟨by omega, by omega⟩) ?_
            refine V_bipush (pc := 53) (n' := 10) C (dk k_F_sure 29 rfl) rfl ?_
            refine V_iload_n (pc := 55) C (dk k_F_sure 30 rfl) rfl ?_
            refine V_isub (pc := 56) C (dk k_F_sure 31 rfl) ?_
            refine V_iload_n (pc := 57) C (dk k_F_sure 32 rfl) rfl ?_
            refine V_callS (pc := 58) C (dk k_F_sure 33 rfl) lk_F_240 cm_F_power sm_F_power (c_F_power _ _ _ (10 - e) a ⟨by omega, by omega⟩ ⟨by omega, by omega⟩ (by omega)) rfl rfl (Nat.le_of_ble_eq_true rfl) (Rm.mono hRm (by decide) (by decide)) ?_
            refine V_lmul (pc := 61) C (dk k_F_sure 34 rfl) ?_
            refine V_iload_n (pc := 62) C (dk k_F_sure 35 rfl) rfl ?_
            refine V_iload (pc := 63) C (dk k_F_sure 36 rfl) rfl ?_
            refine V_callS (pc := 65) C (dk k_F_sure 37 rfl) lk_F_240 cm_F_power sm_F_power (c_F_power _ _ _ e b ⟨by omega, by omega⟩ ⟨by omega, by omega⟩ (by omega)) rfl rfl (Nat.le_of_ble_eq_true rfl) (Rm.mono hRm (by decide) (by decide)) ?_
            refine V_lmul (pc := 68) C (dk k_F_sure 38 rfl) ?_
            refine V_lstore (pc := 69) C (dk k_F_sure 39 rfl) (by rw [hXN]; decide) ?_
            dsimp only [lst, lstL, lz, kill, Fin.val, Nat.reduceAdd]
            refine V_bipush (pc := 71) (n' := 10) C (dk k_F_sure 40 rfl) rfl ?_
            refine V_iload_n (pc := 73) C (dk k_F_sure 41 rfl) rfl ?_
            refine V_isub (pc := 74) C (dk k_F_sure 42 rfl) ?_
            refine V_i2l (pc := 75) C (dk k_F_sure 43 rfl) (by first | exact hR _ _ | with_reducible assumption | exact ⟨by omega, by omega⟩) ?_
            refine V_iload_n (pc := 76) C (dk k_F_sure 44 rfl) rfl ?_
            refine V_iload_n (pc := 77) C (dk k_F_sure 45 rfl) rfl ?_
            refine V_callS (pc := 78) C (dk k_F_sure 46 rfl) lk_F_240 cm_F_power sm_F_power (c_F_power _ _ _ e a ⟨by omega, by omega⟩ ⟨by omega, by omega⟩ (by omega)) rfl rfl (Nat.le_of_ble_eq_true rfl) (Rm.mono hRm (by decide) (by decide)) ?_
            refine V_lmul (pc := 81) C (dk k_F_sure 47 rfl) ?_
            refine V_bipush (pc := 82) (n' := 10) C (dk k_F_sure 48 rfl) rfl ?_
            refine V_iload_n (pc := 84) C (dk k_F_sure 49 rfl) rfl ?_
            refine V_isub (pc := 85) C (dk k_F_sure 50 rfl) ?_
            refine V_iload (pc := 86) C (dk k_F_sure 51 rfl) rfl ?_
            refine V_callS (pc := 88) C (dk k_F_sure 52 rfl) lk_F_240 cm_F_power sm_F_power (c_F_power _ _ _ (10 - e) b ⟨by omega, by omega⟩ ⟨by omega, by omega⟩ (by omega)) rfl rfl (Nat.le_of_ble_eq_true rfl) (Rm.mono hRm (by decide) (by decide)) ?_
            refine V_lmul (pc := 91) C (dk k_F_sure 53 rfl) ?_
            refine V_lstore (pc := 92) C (dk k_F_sure 54 rfl) (by rw [hXN]; decide) ?_
            dsimp only [lst, lstL, lz, kill, Fin.val, Nat.reduceAdd]
            show V X _ [some (vR 0), some (vI s), some (vI e), some (vI a), some (vI b), some (vI k), some (vL (suI s e a b)), none, some (vL (suN s e a b)), none] _ _
            refine V_lload (pc := 94) C (dk k_F_sure 55 rfl) rfl ?_
            refine V_lload (pc := 96) C (dk k_F_sure 56 rfl) rfl ?_
            refine V_ladd (pc := 98) C (dk k_F_sure 57 rfl) ?_
            refine V_lconst (pc := 99) (n' := 0) C (dk k_F_sure 58 rfl) rfl ?_
            refine V_lcmp (pc := 100) C (dk k_F_sure 59 rfl) ⟨by omega, by omega⟩ ⟨by omega, by omega⟩ ?_
            refine V_ifneC (pc := 101) C (dk k_F_sure 60 rfl) 109 rfl  (fun h6 => ?_) (fun h6 => ?_)
            · skip
              refine V_lload (pc := 109) C (dk k_F_sure 63 rfl) rfl ?_
              refine V_lload (pc := 111) C (dk k_F_sure 64 rfl) rfl ?_
              refine V_lload (pc := 113) C (dk k_F_sure 65 rfl) rfl ?_
              refine V_ladd (pc := 115) C (dk k_F_sure 66 rfl) ?_
              refine V_iload (pc := 116) C (dk k_F_sure 67 rfl) rfl ?_
              refine V_callS (pc := 118) C (dk k_F_sure 68 rfl) lk_F_244 cm_F_lowestPart sm_F_lowestPart (c_F_lowestPart _ _ _ (suI s e a b) (suI s e a b + suN s e a b) k (by omega) (by omega) (by omega) (by omega) hk) rfl rfl (Nat.le_of_ble_eq_true rfl) (Rm.mono hRm (by decide) (by decide)) ?_
              refine V_iret (pc := 121) C E (dk k_F_sure 69 rfl) ?_
              first | exact ⟨by unfold o_sure; rw [if_pos (by omega), if_pos (by omega)], rfl⟩ | exact ⟨by unfold o_sure; rw [if_pos (by omega), if_neg (by omega)], rfl⟩
            · skip
              refine V_bipush (pc := 104) (n' := (-4)) C (dk k_F_sure 61 rfl) rfl ?_
              refine V_goto (pc := 106) C (dk k_F_sure 62 rfl) 121 rfl ?_
              refine V_iret (pc := 121) C E (dk k_F_sure 69 rfl) ?_
              first | exact ⟨by unfold o_sure; rw [if_pos (by omega), if_pos (by omega)], rfl⟩ | exact ⟨by unfold o_sure; rw [if_pos (by omega), if_neg (by omega)], rfl⟩
          · skip
            refine V_iconst (pc := 49) C (dk k_F_sure 25 rfl) rfl ?_
            refine V_iret (pc := 50) C E (dk k_F_sure 26 rfl) ?_
            exact ⟨by unfold o_sure; rw [if_neg (by omega)], rfl⟩

def fin_m (l : Int) : Int := 3 ^ l.toNat
def fin_d (l : Int) : Int := 10 ^ l.toNat - 3 ^ l.toNat
theorem fin_b {l : Int} (h0 : 1 ≤ l) (h1 : l ≤ 4) : 3 ≤ fin_m l ∧ fin_m l ≤ 81 ∧ 7 ≤ fin_d l ∧ fin_d l ≤ 9919 := by
  have key : ∀ n : Fin 4, 3 ≤ (3 : Int) ^ (n.val + 1) ∧ (3 : Int) ^ (n.val + 1) ≤ 81 ∧ 7 ≤ (10 : Int) ^ (n.val + 1) - 3 ^ (n.val + 1) ∧ (10 : Int) ^ (n.val + 1) - 3 ^ (n.val + 1) ≤ 9919 := by decide
  have := key ⟨l.toNat - 1, by omega⟩
  rwa [show l.toNat - 1 + 1 = l.toNat by omega] at this
def o_fine (π : PL) (x : ST) (t l : Int) : Int := if isT π t ∧ 1 ≤ l ∧ l ≤ 4 then (if (prc π x t * fin_m l + fin_d l - 1) / fin_d l ≤ 999 then (prc π x t * fin_m l + fin_d l - 1) / fin_d l else -4) else -1

def i_F_fine : List (Nat × (Instr × Nat)) := [(0, (.aload_n 0, 1)), (1, (.iload_n 1, 1)), (2, (.invokevirtual 128, 3)), (5, (.ifCond .eq 12, 3)), (8, (.iload_n 2, 1)), (9, (.iconst 1, 1)), (10, (.iconst 4, 1)), (11, (.invokestatic 98, 3)), (14, (.ifCond .ne 5, 3)), (17, (.iconst (-1), 1)), (18, (.ireturn, 1)), (19, (.iconst 3, 1)), (20, (.iload_n 2, 1)), (21, (.invokestatic 240, 3)), (24, (.lstore_n 3, 1)), (25, (.bipush 10, 2)), (27, (.iload_n 2, 1)), (28, (.invokestatic 240, 3)), (31, (.lload_n 3, 1)), (32, (.lsub, 1)), (33, (.lstore 5, 2)), (35, (.lload 5, 2)), (37, (.lconst 0, 1)), (38, (.lcmp, 1)), (39, (.ifCond .gt 6, 3)), (42, (.bipush (-4), 2)), (44, (.ireturn, 1)), (45, (.aload_n 0, 1)), (46, (.getfield 36, 3)), (49, (.aload_n 0, 1)), (50, (.getfield 26, 3)), (53, (.iload_n 1, 1)), (54, (.invokevirtual 146, 3)), (57, (.i2l, 1)), (58, (.lload_n 3, 1)), (59, (.lmul, 1)), (60, (.lload 5, 2)), (62, (.ladd, 1)), (63, (.lconst 1, 1)), (64, (.lsub, 1)), (65, (.lload 5, 2)), (67, (.ldiv, 1)), (68, (.lstore 7, 2)), (70, (.lload 7, 2)), (72, (.ldc2_w 248, 3)), (75, (.lcmp, 1)), (76, (.ifCond .gt 9, 3)), (79, (.lload 7, 2)), (81, (.l2i, 1)), (82, (.goto 5, 3)), (85, (.bipush (-4), 2)), (87, (.ireturn, 1))]
theorem k_F_fine : i_F_fine.all (fun q => decide (decode b_F_fine q.1 = .ok q.2)) = true := by decide +kernel

set_option maxHeartbeats 1000000 in
set_option maxRecDepth 20000 in
theorem c_F_fine (l : Launch) (G : GE) (σ : Wd) (pl sp : Nat) (π : PL) (x : ST) (us ks : List ST) (lk : List (Int × (Int × Int))) (tx : List Int) (j : Int) (hC : CR σ pl sp π x us ks lk tx) (hV : VK π x us ks j) (hj : j ≤ 100) (t n : Int) (ht : inR t) (hn : inR n) : Ct l G y_F_fine b_F_fine 9 (some (.int)) 3 64 [vR 0, vI t, vI n] σ (Dt (some (vI (o_fine π x t n))) σ) := by
  refine Ct.of cm_F_fine (Nat.le_of_ble_eq_true rfl) ?_
  intro X hXl hXG hXN hRm C E
  subst hXl; subst hXG
  have ⟨ht_1, ht_2⟩ := ht
  have ⟨hn_1, hn_2⟩ := hn
  show V X 0 [some (vR 0), some (vI t), some (vI n), none, none, none, none, none, none] [] σ
  refine V_R (fun hR => ?_)
  obtain ⟨hF, hsp0, hsp, hne, hx, hU, hK, hl, hT⟩ := id hC
  obtain ⟨ok, xk, usk, ksk, ks2⟩ := id hV
  have hF0 := hF
  obtain ⟨hm_pl, hπ⟩ := hF
  have hπ0 := hπ
  obtain ⟨hpl, e0, e2, e7, e10, eT, eX⟩ := hπ
  obtain ⟨hpl_1, hpl_2, hpl_3, hpl_4, hpl_5, hpl_6⟩ := kd_P hpl
  have ⟨k1, k2, k3, k4, k5, k6, kT, kX⟩ := ok
  have hx0 := hx
  obtain ⟨hs, f0, f1, fQ, fT⟩ := hx
  simp only [Nat.reduceAdd] at fQ fT
  have ⟨x1, x2, x3, x4, xQ, xT⟩ := xk
  have p512 := kd5 hpl
  have s512 := kd5 hsp
  refine V_aload_n (pc := 0) C (dk k_F_fine 0 rfl) rfl ?_
  refine V_iload_n (pc := 1) C (dk k_F_fine 1 rfl) rfl ?_
  refine V_callV (pc := 2) C (dk k_F_fine 2 rfl) lk_F_128 cm_F_isThing vm_F_isThing (c_F_isThing _ _ _ pl π t hF0 ok ht) kq_0 rfl rfl rfl (Nat.le_of_ble_eq_true rfl) (Rm.mono hRm (by decide) (by decide)) ?_
  refine V_ifeqB (pc := 5) C (dk k_F_fine 3 rfl) 17 rfl (fun h1 => ?_) (fun h1 => ?_)
  · skip
    refine V_iconst (pc := 17) C (dk k_F_fine 9 rfl) rfl ?_
    refine V_iret (pc := 18) C E (dk k_F_fine 10 rfl) ?_
    exact ⟨by unfold o_fine; rw [if_neg (by omega)], rfl⟩
  · skip
    refine V_iload_n (pc := 8) C (dk k_F_fine 4 rfl) rfl ?_
    refine V_iconst (pc := 9) C (dk k_F_fine 5 rfl) rfl ?_
    refine V_iconst (pc := 10) C (dk k_F_fine 6 rfl) rfl ?_
    refine V_callS (pc := 11) C (dk k_F_fine 7 rfl) lk_F_98 cm_F_within sm_F_within (c_F_within _ _ _ n 1 4 hn ⟨by decide, by decide⟩ ⟨by decide, by decide⟩) rfl rfl (Nat.le_of_ble_eq_true rfl) (Rm.mono hRm (by decide) (by decide)) ?_
    refine V_ifneB (pc := 14) C (dk k_F_fine 8 rfl) 19 rfl (fun h2 => ?_) (fun h2 => ?_)
    · skip
      have ⟨b1, b2, b3, b4⟩ := fin_b (l := n) (by omega) (by omega)
      have ⟨c1, c2⟩ := prc_b ok xk (t := t) (by omega) (by omega)
      have m0 : 0 ≤ prc π x t * fin_m n := Int.mul_nonneg c1 (by omega)
      have m1 : prc π x t * fin_m n ≤ 891 * 81 := Int.mul_le_mul c2 b2 (by omega) (by omega)
      have d0 : 0 ≤ (prc π x t * fin_m n + fin_d n - 1) / fin_d n := Int.ediv_nonneg (by omega) (by omega)
      have d1 : (prc π x t * fin_m n + fin_d n - 1) / fin_d n ≤ prc π x t * fin_m n + fin_d n - 1 := Int.ediv_le_self _ (by omega)
      refine V_iconst (pc := 19) C (dk k_F_fine 11 rfl) rfl ?_
      refine V_iload_n (pc := 20) C (dk k_F_fine 12 rfl) rfl ?_
      refine V_callS (pc := 21) C (dk k_F_fine 13 rfl) lk_F_240 cm_F_power sm_F_power (c_F_power _ _ _ 3 n ⟨by decide, by decide⟩ hn (by omega)) rfl rfl (Nat.le_of_ble_eq_true rfl) (Rm.mono hRm (by decide) (by decide)) ?_
      refine V_lstore_n (pc := 24) C (dk k_F_fine 14 rfl) (by rw [hXN]; decide) ?_
      dsimp only [lst, lstL, lz, kill, Fin.val, Nat.reduceAdd]
      refine V_bipush (pc := 25) (n' := 10) C (dk k_F_fine 15 rfl) rfl ?_
      refine V_iload_n (pc := 27) C (dk k_F_fine 16 rfl) rfl ?_
      refine V_callS (pc := 28) C (dk k_F_fine 17 rfl) lk_F_240 cm_F_power sm_F_power (c_F_power _ _ _ 10 n ⟨by decide, by decide⟩ hn (by omega)) rfl rfl (Nat.le_of_ble_eq_true rfl) (Rm.mono hRm (by decide) (by decide)) ?_
      refine V_lload_n (pc := 31) C (dk k_F_fine 18 rfl) rfl ?_
      refine V_lsub (pc := 32) C (dk k_F_fine 19 rfl) ?_
      refine V_lstore (pc := 33) C (dk k_F_fine 20 rfl) (by rw [hXN]; decide) ?_
      dsimp only [lst, lstL, lz, kill, Fin.val, Nat.reduceAdd]
      show V X _ [some (vR 0), some (vI t), some (vI n), some (vL (fin_m n)), none, some (vL (fin_d n)), none, none, none] _ _
      refine V_lload (pc := 35) C (dk k_F_fine 21 rfl) rfl ?_
      refine V_lconst (pc := 37) (n' := 0) C (dk k_F_fine 22 rfl) rfl ?_
      refine V_lcmp (pc := 38) C (dk k_F_fine 23 rfl) ⟨by omega, by omega⟩ ⟨by omega, by omega⟩ ?_
      refine V_ifgtC (pc := 39) C (dk k_F_fine 24 rfl) 45 rfl  (fun h3 => ?_) (fun h3 => ?_)
      · skip
        refine V_aload_n (pc := 45) C (dk k_F_fine 27 rfl) rfl ?_
        refine V_getr (pc := 46) (o2 := 19) C (dk k_F_fine 28 rfl) fl_F_36 kq_0 (by decide) rfl (by decide) rfl ?_
        refine V_aload_n (pc := 49) C (dk k_F_fine 29 rfl) rfl ?_
        refine V_getm (pc := 50) (o2 := pl) C (dk k_F_fine 30 rfl) fl_F_26 kq_0 (by decide) rfl hm_pl ?_
        refine V_iload_n (pc := 53) C (dk k_F_fine 31 rfl) rfl ?_
        refine V_callV (pc := 54) C (dk k_F_fine 32 rfl) lk_F_146 cm_S_price vm_S_price (c_S_price _ _ _ 19 pl π x j t hπ0 ok hx0 xk (by omega) (by omega) (by omega)) kq_19 rfl rfl rfl (Nat.le_of_ble_eq_true rfl) (Rm.mono hRm (by decide) (by decide)) ?_
        refine V_i2l (pc := 57) C (dk k_F_fine 33 rfl) (by first | exact hR _ _ | with_reducible assumption | exact ⟨by omega, by omega⟩) ?_
        refine V_lload_n (pc := 58) C (dk k_F_fine 34 rfl) rfl ?_
        refine V_lmul (pc := 59) C (dk k_F_fine 35 rfl) ?_
        refine V_lload (pc := 60) C (dk k_F_fine 36 rfl) rfl ?_
        refine V_ladd (pc := 62) C (dk k_F_fine 37 rfl) ?_
        refine V_lconst (pc := 63) (n' := 1) C (dk k_F_fine 38 rfl) rfl ?_
        refine V_lsub (pc := 64) C (dk k_F_fine 39 rfl) ?_
        refine V_lload (pc := 65) C (dk k_F_fine 40 rfl) rfl ?_
        refine V_ldiv (pc := 67) C (dk k_F_fine 41 rfl) ⟨by omega, by omega⟩ ⟨by omega, by omega⟩ (by omega) (by omega) ?_
        refine V_lstore (pc := 68) C (dk k_F_fine 42 rfl) (by rw [hXN]; decide) ?_
        dsimp only [lst, lstL, lz, kill, Fin.val, Nat.reduceAdd]
        refine V_lload (pc := 70) C (dk k_F_fine 43 rfl) rfl ?_
        refine V_ldc2 (pc := 72) (n' := 999) C (dk k_F_fine 44 rfl) kc_F_248 rfl ?_
        refine V_lcmp (pc := 75) C (dk k_F_fine 45 rfl) ⟨by omega, by omega⟩ ⟨by omega, by omega⟩ ?_
        refine V_ifgtC (pc := 76) C (dk k_F_fine 46 rfl) 85 rfl  (fun h4 => ?_) (fun h4 => ?_)
        · skip
          refine V_bipush (pc := 85) (n' := (-4)) C (dk k_F_fine 50 rfl) rfl ?_
          refine V_iret (pc := 87) C E (dk k_F_fine 51 rfl) ?_
          first | exact ⟨by unfold o_fine; rw [if_pos (by omega), if_pos (by omega)], rfl⟩ | exact ⟨by unfold o_fine; rw [if_pos (by omega), if_neg (by omega)], rfl⟩
        · skip
          refine V_lload (pc := 79) C (dk k_F_fine 47 rfl) rfl ?_
          refine V_l2i (pc := 81) C (dk k_F_fine 48 rfl) ?_
          refine V_goto (pc := 82) C (dk k_F_fine 49 rfl) 87 rfl ?_
          refine V_iret (pc := 87) C E (dk k_F_fine 51 rfl) ?_
          first | exact ⟨by unfold o_fine; rw [if_pos (by omega), if_pos (by omega)], rfl⟩ | exact ⟨by unfold o_fine; rw [if_pos (by omega), if_neg (by omega)], rfl⟩
      · skip
        refine V_bipush (pc := 42) (n' := (-4)) C (dk k_F_fine 25 rfl) rfl ?_
        refine V_iret (pc := 44) C E (dk k_F_fine 26 rfl) ?_
        exfalso; omega
    · skip
      refine V_iconst (pc := 17) C (dk k_F_fine 9 rfl) rfl ?_
      refine V_iret (pc := 18) C E (dk k_F_fine 10 rfl) ?_
      exact ⟨by unfold o_fine; rw [if_neg (by omega)], rfl⟩

/-- how often of 10 ^ i the price is below m on none of the first i days -/
def nvr (π : PL) (x : ST) (t m c : Int) : Nat → Int
  | 0 => 1
  | i + 1 => nvr π x t m c i * ((if 0 < m then c else 0) + (if sN x t * rt π (sD x + i) < m then 10 - c else 0))
theorem nvr_b (π : PL) (x : ST) (t m : Int) {c : Int} (h0 : 0 ≤ c) (h1 : c ≤ 10) : ∀ i : Nat, 0 ≤ nvr π x t m c i ∧ nvr π x t m c i ≤ 10 ^ i
  | 0 => by simp [nvr]
  | i + 1 => by
    have ⟨a, b⟩ := nvr_b π x t m h0 h1 i
    have hf : 0 ≤ (if 0 < m then c else 0) + (if sN x t * rt π (sD x + i) < m then 10 - c else 0) ∧ (if 0 < m then c else 0) + (if sN x t * rt π (sD x + i) < m then 10 - c else 0) ≤ 10 := by
      split <;> split <;> omega
    rw [nvr, Int.pow_succ]
    exact ⟨Int.mul_nonneg a hf.1, Int.mul_le_mul b hf.2 hf.1 (Int.pow_nonneg (by omega))⟩
theorem p10_b {n : Int} (h0 : 0 ≤ n) (h1 : n ≤ 8) : 1 ≤ (10 : Int) ^ n.toNat ∧ (10 : Int) ^ n.toNat ≤ 100000000 := by
  have key : ∀ n : Fin 9, 1 ≤ (10 : Int) ^ n.val ∧ (10 : Int) ^ n.val ≤ 100000000 := by decide
  exact key ⟨n.toNat, by omega⟩
def o_whims (π : PL) (x : ST) (t n m c k : Int) : Int := if isT π t ∧ (0 ≤ n ∧ n ≤ 8) ∧ (0 ≤ m ∧ m ≤ 999) ∧ (0 ≤ c ∧ c ≤ 10) ∧ (0 ≤ k ∧ k ≤ 1) then (if sP x t = 0 then lp (10 ^ n.toNat - nvr π x t m c n.toNat) (10 ^ n.toNat) k else -2) else -1

def i_F_whims : List (Nat × (Instr × Nat)) := [(0, (.aload_n 0, 1)), (1, (.iload_n 1, 1)), (2, (.invokevirtual 128, 3)), (5, (.ifCond .eq 45, 3)), (8, (.iload_n 2, 1)), (9, (.iconst 0, 1)), (10, (.bipush 8, 2)), (12, (.invokestatic 98, 3)), (15, (.ifCond .eq 35, 3)), (18, (.iload_n 3, 1)), (19, (.iconst 0, 1)), (20, (.sipush 999, 3)), (23, (.invokestatic 98, 3)), (26, (.ifCond .eq 24, 3)), (29, (.iload 4, 2)), (31, (.iconst 0, 1)), (32, (.bipush 10, 2)), (34, (.invokestatic 98, 3)), (37, (.ifCond .eq 13, 3)), (40, (.iload 5, 2)), (42, (.iconst 0, 1)), (43, (.iconst 1, 1)), (44, (.invokestatic 98, 3)), (47, (.ifCond .ne 5, 3)), (50, (.iconst (-1), 1)), (51, (.ireturn, 1)), (52, (.aload_n 0, 1)), (53, (.getfield 36, 3)), (56, (.getfield 143, 3)), (59, (.iload_n 1, 1)), (60, (.invokestatic 117, 3)), (63, (.ifCond .eq 6, 3)), (66, (.bipush (-2), 2)), (68, (.ireturn, 1)), (69, (.lconst 1, 1)), (70, (.lstore 6, 2)), (72, (.iconst 0, 1)), (73, (.istore 8, 2)), (75, (.iload 8, 2)), (77, (.iload_n 2, 1)), (78, (.if_icmp .ge 54, 3)), (81, (.iload_n 3, 1)), (82, (.ifCond .le 8, 3)), (85, (.iload 4, 2)), (87, (.goto 4, 3)), (90, (.iconst 0, 1)), (91, (.istore 9, 2)), (93, (.iload_n 3, 1)), (94, (.aload_n 0, 1)), (95, (.iload_n 1, 1)), (96, (.iload 8, 2)), (98, (.invokevirtual 219, 3)), (101, (.if_icmp .le 11, 3)), (104, (.bipush 10, 2)), (106, (.iload 4, 2)), (108, (.isub, 1)), (109, (.goto 4, 3)), (112, (.iconst 0, 1)), (113, (.istore 10, 2)), (115, (.lload 6, 2)), (117, (.iload 9, 2)), (119, (.iload 10, 2)), (121, (.iadd, 1)), (122, (.i2l, 1)), (123, (.lmul, 1)), (124, (.lstore 6, 2)), (126, (.iinc 8 1, 3)), (129, (.goto (-54), 3)), (132, (.bipush 10, 2)), (134, (.iload_n 2, 1)), (135, (.invokestatic 240, 3)), (138, (.lstore 8, 2)), (140, (.lload 8, 2)), (142, (.lload 6, 2)), (144, (.lsub, 1)), (145, (.lload 8, 2)), (147, (.iload 5, 2)), (149, (.invokestatic 244, 3)), (152, (.ireturn, 1))]
theorem k_F_whims : i_F_whims.all (fun q => decide (decode b_F_whims q.1 = .ok q.2)) = true := by decide +kernel

set_option maxHeartbeats 1000000 in
set_option maxRecDepth 20000 in
theorem c_F_whims (l : Launch) (G : GE) (σ : Wd) (pl sp : Nat) (π : PL) (x : ST) (us ks : List ST) (lk : List (Int × (Int × Int))) (tx : List Int) (j : Int) (hC : CR σ pl sp π x us ks lk tx) (hV : VK π x us ks j) (hj : j ≤ 100) (t n m c k : Int) (ht : inR t) (hn : inR n) (hm : inR m) (hc : inR c) (hk : inR k) : Ct l G y_F_whims b_F_whims 11 (some (.int)) 3 64 [vR 0, vI t, vI n, vI m, vI c, vI k] σ (Dt (some (vI (o_whims π x t n m c k))) σ) := by
  refine Ct.of cm_F_whims (Nat.le_of_ble_eq_true rfl) ?_
  intro X hXl hXG hXN hRm C E
  subst hXl; subst hXG
  have ⟨ht_1, ht_2⟩ := ht
  have ⟨hn_1, hn_2⟩ := hn
  have ⟨hm_1, hm_2⟩ := hm
  have ⟨hc_1, hc_2⟩ := hc
  have ⟨hk_1, hk_2⟩ := hk
  show V X 0 [some (vR 0), some (vI t), some (vI n), some (vI m), some (vI c), some (vI k), none, none, none, none, none] [] σ
  refine V_R (fun hR => ?_)
  obtain ⟨hF, hsp0, hsp, hne, hx, hU, hK, hl, hT⟩ := id hC
  obtain ⟨ok, xk, usk, ksk, ks2⟩ := id hV
  have hF0 := hF
  obtain ⟨hm_pl, hπ⟩ := hF
  have hπ0 := hπ
  obtain ⟨hpl, e0, e2, e7, e10, eT, eX⟩ := hπ
  obtain ⟨hpl_1, hpl_2, hpl_3, hpl_4, hpl_5, hpl_6⟩ := kd_P hpl
  have ⟨k1, k2, k3, k4, k5, k6, kT, kX⟩ := ok
  have hx0 := hx
  obtain ⟨hs, f0, f1, fQ, fT⟩ := hx
  simp only [Nat.reduceAdd] at fQ fT
  have ⟨x1, x2, x3, x4, xQ, xT⟩ := xk
  have p512 := kd5 hpl
  have s512 := kd5 hsp
  refine V_aload_n (pc := 0) C (dk k_F_whims 0 rfl) rfl ?_
  refine V_iload_n (pc := 1) C (dk k_F_whims 1 rfl) rfl ?_
  refine V_callV (pc := 2) C (dk k_F_whims 2 rfl) lk_F_128 cm_F_isThing vm_F_isThing (c_F_isThing _ _ _ pl π t hF0 ok ht) kq_0 rfl rfl rfl (Nat.le_of_ble_eq_true rfl) (Rm.mono hRm (by decide) (by decide)) ?_
  refine V_ifeqB (pc := 5) C (dk k_F_whims 3 rfl) 50 rfl (fun h1 => ?_) (fun h1 => ?_)
  · skip
    refine V_iconst (pc := 50) C (dk k_F_whims 24 rfl) rfl ?_
    refine V_iret (pc := 51) C E (dk k_F_whims 25 rfl) ?_
    exact ⟨by unfold o_whims; rw [if_neg (by omega)], rfl⟩
  · skip
    refine V_iload_n (pc := 8) C (dk k_F_whims 4 rfl) rfl ?_
    refine V_iconst (pc := 9) C (dk k_F_whims 5 rfl) rfl ?_
    refine V_bipush (pc := 10) (n' := 8) C (dk k_F_whims 6 rfl) rfl ?_
    refine V_callS (pc := 12) C (dk k_F_whims 7 rfl) lk_F_98 cm_F_within sm_F_within (c_F_within _ _ _ n 0 8 hn ⟨by decide, by decide⟩ ⟨by decide, by decide⟩) rfl rfl (Nat.le_of_ble_eq_true rfl) (Rm.mono hRm (by decide) (by decide)) ?_
    refine V_ifeqB (pc := 15) C (dk k_F_whims 8 rfl) 50 rfl (fun h2 => ?_) (fun h2 => ?_)
    · skip
      refine V_iconst (pc := 50) C (dk k_F_whims 24 rfl) rfl ?_
      refine V_iret (pc := 51) C E (dk k_F_whims 25 rfl) ?_
      exact ⟨by unfold o_whims; rw [if_neg (by omega)], rfl⟩
    · skip
      refine V_iload_n (pc := 18) C (dk k_F_whims 9 rfl) rfl ?_
      refine V_iconst (pc := 19) C (dk k_F_whims 10 rfl) rfl ?_
      refine V_sipush (pc := 20) (n' := 999) C (dk k_F_whims 11 rfl) rfl ?_
      refine V_callS (pc := 23) C (dk k_F_whims 12 rfl) lk_F_98 cm_F_within sm_F_within (c_F_within _ _ _ m 0 999 hm ⟨by decide, by decide⟩ ⟨by decide, by decide⟩) rfl rfl (Nat.le_of_ble_eq_true rfl) (Rm.mono hRm (by decide) (by decide)) ?_
      refine V_ifeqB (pc := 26) C (dk k_F_whims 13 rfl) 50 rfl (fun h3 => ?_) (fun h3 => ?_)
      · skip
        refine V_iconst (pc := 50) C (dk k_F_whims 24 rfl) rfl ?_
        refine V_iret (pc := 51) C E (dk k_F_whims 25 rfl) ?_
        exact ⟨by unfold o_whims; rw [if_neg (by omega)], rfl⟩
      · skip
        refine V_iload (pc := 29) C (dk k_F_whims 14 rfl) rfl ?_
        refine V_iconst (pc := 31) C (dk k_F_whims 15 rfl) rfl ?_
        refine V_bipush (pc := 32) (n' := 10) C (dk k_F_whims 16 rfl) rfl ?_
        refine V_callS (pc := 34) C (dk k_F_whims 17 rfl) lk_F_98 cm_F_within sm_F_within (c_F_within _ _ _ c 0 10 hc ⟨by decide, by decide⟩ ⟨by decide, by decide⟩) rfl rfl (Nat.le_of_ble_eq_true rfl) (Rm.mono hRm (by decide) (by decide)) ?_
        refine V_ifeqB (pc := 37) C (dk k_F_whims 18 rfl) 50 rfl (fun h4 => ?_) (fun h4 => ?_)
        · skip
          refine V_iconst (pc := 50) C (dk k_F_whims 24 rfl) rfl ?_
          refine V_iret (pc := 51) C E (dk k_F_whims 25 rfl) ?_
          exact ⟨by unfold o_whims; rw [if_neg (by omega)], rfl⟩
        · skip
          refine V_iload (pc := 40) C (dk k_F_whims 19 rfl) rfl ?_
          refine V_iconst (pc := 42) C (dk k_F_whims 20 rfl) rfl ?_
          refine V_iconst (pc := 43) C (dk k_F_whims 21 rfl) rfl ?_
          refine V_callS (pc := 44) C (dk k_F_whims 22 rfl) lk_F_98 cm_F_within sm_F_within (c_F_within _ _ _ k 0 1 hk ⟨by decide, by decide⟩ ⟨by decide, by decide⟩) rfl rfl (Nat.le_of_ble_eq_true rfl) (Rm.mono hRm (by decide) (by decide)) ?_
          refine V_ifneB (pc := 47) C (dk k_F_whims 23 rfl) 52 rfl (fun h5 => ?_) (fun h5 => ?_)
          · skip
            obtain ⟨gN, gP⟩ := fT t (by omega) (by omega)
            refine V_aload_n (pc := 52) C (dk k_F_whims 26 rfl) rfl ?_
            refine V_getr (pc := 53) (o2 := 19) C (dk k_F_whims 27 rfl) fl_F_36 kq_0 (by decide) rfl (by decide) rfl ?_
            refine V_getr (pc := 56) (o2 := 23) C (dk k_F_whims 28 rfl) fl_F_143 kq_19 (by decide) rfl (by decide) rfl ?_
            refine V_iload_n (pc := 59) C (dk k_F_whims 29 rfl) rfl ?_
            refine V_callS (pc := 60) C (dk k_F_whims 30 rfl) lk_F_117 cm_F_at sm_F_at (c_at _ _ _ (23) 8 t kq_23 (by decide) (by omega) (by omega)) rfl rfl (Nat.le_of_ble_eq_true rfl) (Rm.mono hRm (by decide) (by decide)) ?_
            refine V_ifeq (pc := 63) C (dk k_F_whims 31 rfl) 69 rfl (by first | exact hR _ _ | with_reducible assumption | exact ⟨by omega, by omega⟩) (fun h6 => ?_) (fun h6 => ?_)
            · skip
              refine V_lconst (pc := 69) (n' := 1) C (dk k_F_whims 34 rfl) rfl ?_
              refine V_lstore (pc := 70) C (dk k_F_whims 35 rfl) (by rw [hXN]; decide) ?_
              dsimp only [lst, lstL, lz, kill, Fin.val, Nat.reduceAdd]
              refine V_iconst (pc := 72) C (dk k_F_whims 36 rfl) rfl ?_
              refine V_istore (pc := 73) C (dk k_F_whims 37 rfl) (by rw [hXN]; decide) ?_
              dsimp only [lst, lstL, lz, kill, Fin.val, Nat.reduceAdd]
              refine V_eq (V_loop (fun i : Nat => (i : Int) ≤ n) (fun i => [some (vR 0), some (vI t), some (vI n), some (vI m), some (vI c), some (vI k), some (vL (nvr π x t m c i)), none, some (vI (i : Int)), none, none]) (fun _ => σ) (fun i => n.toNat - i) (fun i hi ih => ?_) 0 (by omega)) rfl rfl rfl
              have ⟨nb0, nb1⟩ := nvr_b π x t m (c := c) (by omega) (by omega) i
              have hp1 := pr_b (d := sD x + (i : Int)) ok xk (t := t) (by omega) (by omega)
              refine V_iload (pc := 75) C (dk k_F_whims 38 rfl) rfl ?_
              refine V_iload_n (pc := 77) C (dk k_F_whims 39 rfl) rfl ?_
              refine V_icmpge (pc := 78) C (dk k_F_whims 40 rfl) 132 rfl (by first | exact hR _ _ | with_reducible assumption | exact ⟨by omega, by omega⟩) (by first | exact hR _ _ | with_reducible assumption | exact ⟨by omega, by omega⟩) (fun h7 => ?_) (fun h7 => ?_)
              · skip
                obtain rfl : n = i := by omega
                have ⟨q1, q2⟩ := p10_b (n := (i : Int)) (by omega) (by omega)
                rw [Int.toNat_natCast] at q1 q2
                refine V_bipush (pc := 132) (n' := 10) C (dk k_F_whims 68 rfl) rfl ?_
                refine V_iload_n (pc := 134) C (dk k_F_whims 69 rfl) rfl ?_
                refine V_callS (pc := 135) C (dk k_F_whims 70 rfl) lk_F_240 cm_F_power sm_F_power (c_F_power _ _ _ 10 (i : Int) ⟨by decide, by decide⟩ hn (by omega)) rfl rfl (Nat.le_of_ble_eq_true rfl) (Rm.mono hRm (by decide) (by decide)) ?_
                refine V_lstore (pc := 138) C (dk k_F_whims 71 rfl) (by rw [hXN]; decide) ?_
                dsimp only [lst, lstL, lz, kill, Fin.val, Nat.reduceAdd]
                rw [Int.toNat_natCast]
                show V X _ _ _ _
                refine V_lload (pc := 140) C (dk k_F_whims 72 rfl) rfl ?_
                refine V_lload (pc := 142) C (dk k_F_whims 73 rfl) rfl ?_
                refine V_lsub (pc := 144) C (dk k_F_whims 74 rfl) ?_
                refine V_lload (pc := 145) C (dk k_F_whims 75 rfl) rfl ?_
                refine V_iload (pc := 147) C (dk k_F_whims 76 rfl) rfl ?_
                refine V_callS (pc := 149) C (dk k_F_whims 77 rfl) lk_F_244 cm_F_lowestPart sm_F_lowestPart (c_F_lowestPart _ _ _ (10 ^ i - nvr π x t m c i) (10 ^ i) k (by omega) (by omega) (by omega) (by omega) hk) rfl rfl (Nat.le_of_ble_eq_true rfl) (Rm.mono hRm (by decide) (by decide)) ?_
                refine V_iret (pc := 152) C E (dk k_F_whims 78 rfl) ?_
                exact ⟨by unfold o_whims; rw [if_pos (by omega), if_pos (by omega), Int.toNat_natCast], rfl⟩
              · skip
                refine V_iload_n (pc := 81) C (dk k_F_whims 41 rfl) rfl ?_
                refine V_ifle (pc := 82) C (dk k_F_whims 42 rfl) 90 rfl ⟨by omega, by omega⟩ (fun h8 => ?_) (fun h8 => ?_)
                · skip
                  refine V_iconst (pc := 90) C (dk k_F_whims 45 rfl) rfl ?_
                  refine V_istore (pc := 91) C (dk k_F_whims 46 rfl) (by rw [hXN]; decide) ?_
                  dsimp only [lst, lstL, lz, kill, Fin.val, Nat.reduceAdd]
                  refine V_iload_n (pc := 93) C (dk k_F_whims 47 rfl) rfl ?_
                  refine V_aload_n (pc := 94) C (dk k_F_whims 48 rfl) rfl ?_
                  refine V_iload_n (pc := 95) C (dk k_F_whims 49 rfl) rfl ?_
                  refine V_iload (pc := 96) C (dk k_F_whims 50 rfl) rfl ?_
                  refine V_callV (pc := 98) C (dk k_F_whims 51 rfl) lk_F_219 cm_F_priceBehind vm_F_priceBehind (c_F_priceBehind _ _ _ pl π x j t i hF0 ok hx0 xk (by omega) (by omega) (by omega) (by omega) (by omega)) kq_0 rfl rfl rfl (Nat.le_of_ble_eq_true rfl) (Rm.mono hRm (by decide) (by decide)) ?_
                  refine V_icmple (pc := 101) C (dk k_F_whims 52 rfl) 112 rfl ⟨by omega, by omega⟩ ⟨by omega, by omega⟩ (fun h9 => ?_) (fun h9 => ?_)
                  · skip
                    refine V_iconst (pc := 112) C (dk k_F_whims 57 rfl) rfl ?_
                    refine V_istore (pc := 113) C (dk k_F_whims 58 rfl) (by rw [hXN]; decide) ?_
                    dsimp only [lst, lstL, lz, kill, Fin.val, Nat.reduceAdd]
                    refine V_lload (pc := 115) C (dk k_F_whims 59 rfl) rfl ?_
                    refine V_iload (pc := 117) C (dk k_F_whims 60 rfl) rfl ?_
                    refine V_iload (pc := 119) C (dk k_F_whims 61 rfl) rfl ?_
                    refine V_iadd (pc := 121) C (dk k_F_whims 62 rfl) ?_
                    refine V_i2l (pc := 122) C (dk k_F_whims 63 rfl) (by first | exact hR _ _ | with_reducible assumption | exact ⟨by omega, by omega⟩) ?_
                    refine V_lmul (pc := 123) C (dk k_F_whims 64 rfl) ?_
                    refine V_lstore (pc := 124) C (dk k_F_whims 65 rfl) (by rw [hXN]; decide) ?_
                    dsimp only [lst, lstL, lz, kill, Fin.val, Nat.reduceAdd]
                    refine V_iinc (pc := 126) C (dk k_F_whims 66 rfl) (by rw [hXN]; decide) rfl ?_
                    dsimp only [lst, lstL, lz, kill, Fin.val, Nat.reduceAdd]
                    refine V_goto (pc := 129) C (dk k_F_whims 67 rfl) 75 rfl ?_
                    refine V_fg 9 ?_
                    dsimp only [fg]
                    refine V_fg 10 ?_
                    dsimp only [fg]
                    refine V_eq (ih (i + 1) (by omega) (by omega)) ?_ rfl rfl
                    rw [nvr]
                    first | (rw [if_pos (by omega), if_pos (by omega)]; rfl) | (rw [if_pos (by omega), if_neg (by omega)]; rfl) | (rw [if_neg (by omega), if_pos (by omega)]; rfl) | (rw [if_neg (by omega), if_neg (by omega)]; rfl)
                  · skip
                    refine V_bipush (pc := 104) (n' := 10) C (dk k_F_whims 53 rfl) rfl ?_
                    refine V_iload (pc := 106) C (dk k_F_whims 54 rfl) rfl ?_
                    refine V_isub (pc := 108) C (dk k_F_whims 55 rfl) ?_
                    refine V_goto (pc := 109) C (dk k_F_whims 56 rfl) 113 rfl ?_
                    refine V_istore (pc := 113) C (dk k_F_whims 58 rfl) (by rw [hXN]; decide) ?_
                    dsimp only [lst, lstL, lz, kill, Fin.val, Nat.reduceAdd]
                    refine V_lload (pc := 115) C (dk k_F_whims 59 rfl) rfl ?_
                    refine V_iload (pc := 117) C (dk k_F_whims 60 rfl) rfl ?_
                    refine V_iload (pc := 119) C (dk k_F_whims 61 rfl) rfl ?_
                    refine V_iadd (pc := 121) C (dk k_F_whims 62 rfl) ?_
                    refine V_i2l (pc := 122) C (dk k_F_whims 63 rfl) (by first | exact hR _ _ | with_reducible assumption | exact ⟨by omega, by omega⟩) ?_
                    refine V_lmul (pc := 123) C (dk k_F_whims 64 rfl) ?_
                    refine V_lstore (pc := 124) C (dk k_F_whims 65 rfl) (by rw [hXN]; decide) ?_
                    dsimp only [lst, lstL, lz, kill, Fin.val, Nat.reduceAdd]
                    refine V_iinc (pc := 126) C (dk k_F_whims 66 rfl) (by rw [hXN]; decide) rfl ?_
                    dsimp only [lst, lstL, lz, kill, Fin.val, Nat.reduceAdd]
                    refine V_goto (pc := 129) C (dk k_F_whims 67 rfl) 75 rfl ?_
                    refine V_fg 9 ?_
                    dsimp only [fg]
                    refine V_fg 10 ?_
                    dsimp only [fg]
                    refine V_eq (ih (i + 1) (by omega) (by omega)) ?_ rfl rfl
                    rw [nvr]
                    first | (rw [if_pos (by omega), if_pos (by omega)]; rfl) | (rw [if_pos (by omega), if_neg (by omega)]; rfl) | (rw [if_neg (by omega), if_pos (by omega)]; rfl) | (rw [if_neg (by omega), if_neg (by omega)]; rfl)
                · skip
                  refine V_iload (pc := 85) C (dk k_F_whims 43 rfl) rfl ?_
                  refine V_goto (pc := 87) C (dk k_F_whims 44 rfl) 91 rfl ?_
                  refine V_istore (pc := 91) C (dk k_F_whims 46 rfl) (by rw [hXN]; decide) ?_
                  dsimp only [lst, lstL, lz, kill, Fin.val, Nat.reduceAdd]
                  refine V_iload_n (pc := 93) C (dk k_F_whims 47 rfl) rfl ?_
                  refine V_aload_n (pc := 94) C (dk k_F_whims 48 rfl) rfl ?_
                  refine V_iload_n (pc := 95) C (dk k_F_whims 49 rfl) rfl ?_
                  refine V_iload (pc := 96) C (dk k_F_whims 50 rfl) rfl ?_
                  refine V_callV (pc := 98) C (dk k_F_whims 51 rfl) lk_F_219 cm_F_priceBehind vm_F_priceBehind (c_F_priceBehind _ _ _ pl π x j t i hF0 ok hx0 xk (by omega) (by omega) (by omega) (by omega) (by omega)) kq_0 rfl rfl rfl (Nat.le_of_ble_eq_true rfl) (Rm.mono hRm (by decide) (by decide)) ?_
                  refine V_icmple (pc := 101) C (dk k_F_whims 52 rfl) 112 rfl ⟨by omega, by omega⟩ ⟨by omega, by omega⟩ (fun h10 => ?_) (fun h10 => ?_)
                  · skip
                    refine V_iconst (pc := 112) C (dk k_F_whims 57 rfl) rfl ?_
                    refine V_istore (pc := 113) C (dk k_F_whims 58 rfl) (by rw [hXN]; decide) ?_
                    dsimp only [lst, lstL, lz, kill, Fin.val, Nat.reduceAdd]
                    refine V_lload (pc := 115) C (dk k_F_whims 59 rfl) rfl ?_
                    refine V_iload (pc := 117) C (dk k_F_whims 60 rfl) rfl ?_
                    refine V_iload (pc := 119) C (dk k_F_whims 61 rfl) rfl ?_
                    refine V_iadd (pc := 121) C (dk k_F_whims 62 rfl) ?_
                    refine V_i2l (pc := 122) C (dk k_F_whims 63 rfl) (by first | exact hR _ _ | with_reducible assumption | exact ⟨by omega, by omega⟩) ?_
                    refine V_lmul (pc := 123) C (dk k_F_whims 64 rfl) ?_
                    refine V_lstore (pc := 124) C (dk k_F_whims 65 rfl) (by rw [hXN]; decide) ?_
                    dsimp only [lst, lstL, lz, kill, Fin.val, Nat.reduceAdd]
                    refine V_iinc (pc := 126) C (dk k_F_whims 66 rfl) (by rw [hXN]; decide) rfl ?_
                    dsimp only [lst, lstL, lz, kill, Fin.val, Nat.reduceAdd]
                    refine V_goto (pc := 129) C (dk k_F_whims 67 rfl) 75 rfl ?_
                    refine V_fg 9 ?_
                    dsimp only [fg]
                    refine V_fg 10 ?_
                    dsimp only [fg]
                    refine V_eq (ih (i + 1) (by omega) (by omega)) ?_ rfl rfl
                    rw [nvr]
                    first | (rw [if_pos (by omega), if_pos (by omega)]; rfl) | (rw [if_pos (by omega), if_neg (by omega)]; rfl) | (rw [if_neg (by omega), if_pos (by omega)]; rfl) | (rw [if_neg (by omega), if_neg (by omega)]; rfl)
                  · skip
                    refine V_bipush (pc := 104) (n' := 10) C (dk k_F_whims 53 rfl) rfl ?_
                    refine V_iload (pc := 106) C (dk k_F_whims 54 rfl) rfl ?_
                    refine V_isub (pc := 108) C (dk k_F_whims 55 rfl) ?_
                    refine V_goto (pc := 109) C (dk k_F_whims 56 rfl) 113 rfl ?_
                    refine V_istore (pc := 113) C (dk k_F_whims 58 rfl) (by rw [hXN]; decide) ?_
                    dsimp only [lst, lstL, lz, kill, Fin.val, Nat.reduceAdd]
                    refine V_lload (pc := 115) C (dk k_F_whims 59 rfl) rfl ?_
                    refine V_iload (pc := 117) C (dk k_F_whims 60 rfl) rfl ?_
                    refine V_iload (pc := 119) C (dk k_F_whims 61 rfl) rfl ?_
                    refine V_iadd (pc := 121) C (dk k_F_whims 62 rfl) ?_
                    refine V_i2l (pc := 122) C (dk k_F_whims 63 rfl) (by first | exact hR _ _ | with_reducible assumption | exact ⟨by omega, by omega⟩) ?_
                    refine V_lmul (pc := 123) C (dk k_F_whims 64 rfl) ?_
                    refine V_lstore (pc := 124) C (dk k_F_whims 65 rfl) (by rw [hXN]; decide) ?_
                    dsimp only [lst, lstL, lz, kill, Fin.val, Nat.reduceAdd]
                    refine V_iinc (pc := 126) C (dk k_F_whims 66 rfl) (by rw [hXN]; decide) rfl ?_
                    dsimp only [lst, lstL, lz, kill, Fin.val, Nat.reduceAdd]
                    refine V_goto (pc := 129) C (dk k_F_whims 67 rfl) 75 rfl ?_
                    refine V_fg 9 ?_
                    dsimp only [fg]
                    refine V_fg 10 ?_
                    dsimp only [fg]
                    refine V_eq (ih (i + 1) (by omega) (by omega)) ?_ rfl rfl
                    rw [nvr]
                    first | (rw [if_pos (by omega), if_pos (by omega)]; rfl) | (rw [if_pos (by omega), if_neg (by omega)]; rfl) | (rw [if_neg (by omega), if_pos (by omega)]; rfl) | (rw [if_neg (by omega), if_neg (by omega)]; rfl)
            · skip
              refine V_bipush (pc := 66) (n' := (-2)) C (dk k_F_whims 32 rfl) rfl ?_
              refine V_iret (pc := 68) C E (dk k_F_whims 33 rfl) ?_
              exact ⟨by unfold o_whims; rw [if_pos (by omega), if_neg (by omega)], rfl⟩
          · skip
            refine V_iconst (pc := 50) C (dk k_F_whims 24 rfl) rfl ?_
            refine V_iret (pc := 51) C E (dk k_F_whims 25 rfl) ?_
            exact ⟨by unfold o_whims; rw [if_neg (by omega)], rfl⟩
end
section
def drw (z k : Int) : Int := (7919 * z + 6151 * k + 1) * (7919 * z + 6151 * k + 1) % 65521
theorem drw_b (z k : Int) : 0 ≤ drw z k ∧ drw z k < 65521 := ⟨Int.emod_nonneg _ (by decide), Int.emod_lt_of_pos _ (by decide)⟩
/-- what is done ahead of a day of a year -/
def actX (π : PL) (x : ST) (z k : Int) : ST :=
  if pN π = 0 then x else
    if drw z k % 8 ≤ 3 ∧ ((sP x (drw z k / 8 % pN π) = 0 ∧ pL π ≤ sN x (drw z k / 8 % pN π)) ∧ prc π x (drw z k / 8 % pN π) ≤ sM x) then sellX π x (drw z k / 8 % pN π)
    else if (drw z k % 8 = 4 ∨ drw z k % 8 = 5) ∧ (sP x (drw z k / 8 % pN π) = 1 ∧ prc π x (drw z k / 8 % pN π) ≤ sG x (pO π (drw z k / 8 % pN π))) then buyX π x (drw z k / 8 % pN π)
    else x
def yearX (π : PL) (x : ST) (z : Int) : Nat → ST
  | 0 => x
  | k + 1 => dayX π (actX π (yearX π x z k) z k)
def o_year (π : PL) (x : ST) (z n k : Int) : Int := if (0 ≤ z ∧ z ≤ 9999) ∧ (1 ≤ n ∧ n ≤ 60) ∧ (0 ≤ k ∧ k ≤ 1) then (if k = 0 then cellar π (yearX π x z n.toNat) else sm (fun q => sR (yearX π x z n.toNat) q) (pP π)) else -1
theorem sell_ok {π : PL} {x : ST} {j e t : Int} (ok : PLok π) (h : STd π x j e) (t0 : 0 ≤ t) (t1 : t < pN π) (hs : sP x t = 0) (hp0 : 0 ≤ prc π x t) (hp1 : prc π x t ≤ 891) (hp : prc π x t ≤ sM x) : STd π (sellX π x t) (j + 1) (e - 24) := by
  obtain ⟨h1, h2, h3, h4, hQ, hT⟩ := h
  refine ⟨h1, ?_, ?_, ?_, fun q a b => ?_, fun u a b => ?_⟩
  · show sD x ≤ _; omega
  · show 0 ≤ sM x - _; omega
  · show sM x - _ ≤ _; omega
  · obtain ⟨g1, g2, g3, g4⟩ := hQ q a b
    show 0 ≤ fu (sG x) _ _ q ∧ fu (sG x) _ _ q ≤ _ ∧ 0 ≤ sR x q ∧ sR x q ≤ 160 * sD x
    unfold fu
    split
    · rename_i hq; rw [hq] at g1 g2; omega
    · omega
  · obtain ⟨g1, g2, g3, g4, g5⟩ := hT u a b
    show 0 ≤ sN x u ∧ sN x u ≤ 99 ∧ 0 ≤ fu (sP x) t 1 u ∧ fu (sP x) t 1 u ≤ 2 ∧ (fu (sP x) t 1 u = 2 ↔ sN x u = 0)
    unfold fu
    split
    · rename_i hu; rw [hu] at g1 g2 g5 ⊢; omega
    · omega
theorem buy_ok {π : PL} {x : ST} {j e t : Int} (ok : PLok π) (h : STd π x j e) (t0 : 0 ≤ t) (t1 : t < pN π) (hs : sP x t = 1) (hp0 : 0 ≤ prc π x t) (hp1 : prc π x t ≤ 891) (hp : prc π x t ≤ sG x (pO π t)) : STd π (buyX π x t) (j + 1) (e - 24) := by
  obtain ⟨h1, h2, h3, h4, hQ, hT⟩ := h
  refine ⟨h1, ?_, ?_, ?_, fun q a b => ?_, fun u a b => ?_⟩
  · show sD x ≤ _; omega
  · show 0 ≤ sM x + _; omega
  · show sM x + _ ≤ _; omega
  · obtain ⟨g1, g2, g3, g4⟩ := hQ q a b
    show 0 ≤ fu (sG x) _ _ q ∧ fu (sG x) _ _ q ≤ _ ∧ 0 ≤ sR x q ∧ sR x q ≤ 160 * sD x
    unfold fu
    split
    · rename_i hq; rw [hq] at g1 g2; omega
    · omega
  · obtain ⟨g1, g2, g3, g4, g5⟩ := hT u a b
    show 0 ≤ sN x u ∧ sN x u ≤ 99 ∧ 0 ≤ fu (sP x) t 0 u ∧ fu (sP x) t 0 u ≤ 2 ∧ (fu (sP x) t 0 u = 2 ↔ sN x u = 0)
    unfold fu
    split
    · rename_i hu; rw [hu] at g1 g2 g5 ⊢; omega
    · omega
theorem STd.up1 {π : PL} {x : ST} {j e : Int} (h : STd π x j e) : STd π x (j + 1) (e - 24) := by
  obtain ⟨a, b, c, d, e, f⟩ := h
  exact ⟨a, by omega, c, by omega, fun q h0 h1 => by have := e q h0 h1; omega, f⟩
theorem STd.prc {π : PL} {x : ST} {j e t : Int} (ok : PLok π) (h : STd π x j e) (h0 : 0 ≤ t) (h1 : t < pN π) : 0 ≤ prc π x t ∧ prc π x t ≤ 891 := by
  obtain ⟨a1, a2⟩ := rt_b ok (d := sD x)
  obtain ⟨b1, b2, -⟩ := h.2.2.2.2.2 t h0 h1
  show 0 ≤ sN x t * rt π (sD x) ∧ sN x t * rt π (sD x) ≤ 891
  exact ⟨Int.mul_nonneg b1 a1, Int.le_trans (Int.mul_le_mul b2 a2 a1 (by omega)) (by omega)⟩
theorem act_ok {π : PL} {x : ST} {j e z k : Int} (ok : PLok π) (h : STd π x j e) : STd π (actX π x z k) (j + 1) (e - 24) := by
  unfold actX
  split
  · exact h.up1
  · rename_i hN
    have t0 := Int.emod_nonneg (drw z k / 8) (b := (pN π : Int)) (by omega)
    have t1 := Int.emod_lt_of_pos (drw z k / 8) (b := (pN π : Int)) (by omega)
    have ⟨p0, p1⟩ := h.prc ok t0 t1
    split
    · rename_i hs; exact sell_ok ok h t0 t1 hs.2.1.1 p0 p1 hs.2.2
    · split
      · rename_i hb; exact buy_ok ok h t0 t1 hb.2.1 p0 p1 hb.2.2
      · exact h.up1
theorem year_ok {π : PL} {x : ST} {j z : Int} (ok : PLok π) (h : STok π x j) : ∀ k : Nat, STok π (yearX π x z k) (j + k)
  | 0 => by
    have h2 : STok π x (j + ((0 : Nat) : Int)) := h.up (by omega)
    exact h2
  | k + 1 => by
    have h1 := day_ok ok (act_ok (z := z) (k := (k : Int)) ok (year_ok (z := z) ok h k).d)
    exact h1.ok (by omega) (by omega)

def i_F_actByDraw : List (Nat × (Instr × Nat)) := [(0, (.aload_n 0, 1)), (1, (.getfield 26, 3)), (4, (.getfield 196, 3)), (7, (.ifCond .gt 4, 3)), (10, (.return_, 1)), (11, (.ldc2_w 276, 3)), (14, (.iload_n 1, 1)), (15, (.i2l, 1)), (16, (.lmul, 1)), (17, (.ldc2_w 278, 3)), (20, (.iload_n 2, 1)), (21, (.i2l, 1)), (22, (.lmul, 1)), (23, (.ladd, 1)), (24, (.lconst 1, 1)), (25, (.ladd, 1)), (26, (.lstore_n 3, 1)), (27, (.lload_n 3, 1)), (28, (.lload_n 3, 1)), (29, (.lmul, 1)), (30, (.ldc2_w 280, 3)), (33, (.lrem, 1)), (34, (.l2i, 1)), (35, (.istore 5, 2)), (37, (.iload 5, 2)), (39, (.bipush 8, 2)), (41, (.idiv, 1)), (42, (.aload_n 0, 1)), (43, (.getfield 26, 3)), (46, (.getfield 196, 3)), (49, (.irem, 1)), (50, (.istore 6, 2)), (52, (.iload 5, 2)), (54, (.bipush 8, 2)), (56, (.irem, 1)), (57, (.istore 7, 2)), (59, (.iload 7, 2)), (61, (.iconst 3, 1)), (62, (.if_icmp .gt 35, 3)), (65, (.aload_n 0, 1)), (66, (.getfield 40, 3)), (69, (.aload_n 0, 1)), (70, (.getfield 26, 3)), (73, (.iload 6, 2)), (75, (.invokevirtual 156, 3)), (78, (.ifCond .eq 19, 3)), (81, (.aload_n 0, 1)), (82, (.getfield 40, 3)), (85, (.aload_n 0, 1)), (86, (.getfield 26, 3)), (89, (.iload 6, 2)), (91, (.invokevirtual 164, 3)), (94, (.goto 44, 3)), (97, (.iload 7, 2)), (99, (.iconst 4, 1)), (100, (.if_icmp .eq 9, 3)), (103, (.iload 7, 2)), (105, (.iconst 5, 1)), (106, (.if_icmp .ne 32, 3)), (109, (.aload_n 0, 1)), (110, (.getfield 40, 3)), (113, (.aload_n 0, 1)), (114, (.getfield 26, 3)), (117, (.iload 6, 2)), (119, (.invokevirtual 168, 3)), (122, (.ifCond .eq 16, 3)), (125, (.aload_n 0, 1)), (126, (.getfield 40, 3)), (129, (.aload_n 0, 1)), (130, (.getfield 26, 3)), (133, (.iload 6, 2)), (135, (.invokevirtual 171, 3)), (138, (.return_, 1))]
theorem k_F_actByDraw : i_F_actByDraw.all (fun q => decide (decode b_F_actByDraw q.1 = .ok q.2)) = true := by decide +kernel

set_option maxHeartbeats 1000000 in
set_option maxRecDepth 20000 in
theorem c_F_actByDraw (l : Launch) (G : GE) (σ : Wd) (pl : Nat) (π : PL) (x : ST) (j z k : Int) (hF : FR σ pl π) (ok : PLok π) (hx : StR σ 24 π x) (xk : STok π x j) (hj : j ≤ 200) (hz0 : 0 ≤ z) (hz1 : z ≤ 9999) (hk0 : 0 ≤ k) (hk1 : k ≤ 60) : Ct l G y_F_actByDraw b_F_actByDraw 8 (none) 4 86 [vR 0, vI z, vI k] σ (Rt none (fun σ' => StR σ' 24 π (actX π x z k) ∧ Fr 24 5 σ σ')) := by
  refine Ct.of cm_F_actByDraw (Nat.le_of_ble_eq_true rfl) ?_
  intro X hXl hXG hXN hRm C E
  subst hXl; subst hXG
  show V X 0 [some (vR 0), some (vI z), some (vI k), none, none, none, none, none] [] σ
  refine V_R (fun hR => ?_)
  obtain ⟨hm_pl, hπ⟩ := hF
  have hπ0 := hπ
  obtain ⟨hpl, e0, e2, e7, e10, eT, eX⟩ := hπ
  obtain ⟨hpl_1, hpl_2, hpl_3, hpl_4, hpl_5, hpl_6⟩ := kd_P hpl
  have ⟨k1, k2, k3, k4, k5, k6, kT, kX⟩ := ok
  have hx0 := hx
  obtain ⟨hs, f0, f1, fQ, fT⟩ := hx
  have ⟨x1, x2, x3, x4, xQ, xT⟩ := xk
  have ⟨d0, d1⟩ := drw_b z k
  refine V_aload_n (pc := 0) C (dk k_F_actByDraw 0 rfl) rfl ?_
  refine V_getm (pc := 1) (o2 := pl) C (dk k_F_actByDraw 1 rfl) fl_F_26 kq_0 (by decide) rfl hm_pl ?_
  refine V_geti (pc := 4) (ji := 2) C (dk k_F_actByDraw 2 rfl) fl_F_196 hpl (by decide) rfl rfl ?_
  refine V_ifgt (pc := 7) C (dk k_F_actByDraw 3 rfl) 11 rfl (by first | exact hR _ _ | with_reducible assumption | exact ⟨by omega, by omega⟩) (fun h1 => ?_) (fun h1 => ?_)
  · skip
    refine V_ldc2 (pc := 11) (n' := 7919) C (dk k_F_actByDraw 5 rfl) kc_F_276 rfl ?_
    refine V_iload_n (pc := 14) C (dk k_F_actByDraw 6 rfl) rfl ?_
    refine V_i2l (pc := 15) C (dk k_F_actByDraw 7 rfl) (by first | exact hR _ _ | with_reducible assumption | exact ⟨by omega, by omega⟩) ?_
    refine V_lmul (pc := 16) C (dk k_F_actByDraw 8 rfl) ?_
    refine V_ldc2 (pc := 17) (n' := 6151) C (dk k_F_actByDraw 9 rfl) kc_F_278 rfl ?_
    refine V_iload_n (pc := 20) C (dk k_F_actByDraw 10 rfl) rfl ?_
    refine V_i2l (pc := 21) C (dk k_F_actByDraw 11 rfl) (by first | exact hR _ _ | with_reducible assumption | exact ⟨by omega, by omega⟩) ?_
    refine V_lmul (pc := 22) C (dk k_F_actByDraw 12 rfl) ?_
    refine V_ladd (pc := 23) C (dk k_F_actByDraw 13 rfl) ?_
    refine V_lconst (pc := 24) (n' := 1) C (dk k_F_actByDraw 14 rfl) rfl ?_
    refine V_ladd (pc := 25) C (dk k_F_actByDraw 15 rfl) ?_
    have y0 : 0 ≤ 7919 * z + 6151 * k + 1 := by omega
    have y1 : 7919 * z + 6151 * k + 1 ≤ 80000000 := by omega
    have yy : (7919 * z + 6151 * k + 1) * (7919 * z + 6151 * k + 1) ≤ 80000000 * 80000000 := Int.mul_le_mul y1 y1 y0 (by omega)
    have yz : 0 ≤ (7919 * z + 6151 * k + 1) * (7919 * z + 6151 * k + 1) := Int.mul_nonneg y0 y0
    refine V_lstore_n (pc := 26) C (dk k_F_actByDraw 16 rfl) (by rw [hXN]; decide) ?_
    dsimp only [lst, lstL, lz, kill, Fin.val, Nat.reduceAdd]
    refine V_lload_n (pc := 27) C (dk k_F_actByDraw 17 rfl) rfl ?_
    refine V_lload_n (pc := 28) C (dk k_F_actByDraw 18 rfl) rfl ?_
    refine V_lmul (pc := 29) C (dk k_F_actByDraw 19 rfl) ?_
    refine V_ldc2 (pc := 30) (n' := 65521) C (dk k_F_actByDraw 20 rfl) kc_F_280 rfl ?_
    refine V_lrem (pc := 33) C (dk k_F_actByDraw 21 rfl) ⟨by omega, by omega⟩ ⟨by omega, by omega⟩ (by omega) (by omega) ?_
    show V X _ _ [vL (drw z k)] _
    refine V_l2i (pc := 34) C (dk k_F_actByDraw 22 rfl) ?_
    refine V_istore (pc := 35) C (dk k_F_actByDraw 23 rfl) (by rw [hXN]; decide) ?_
    dsimp only [lst, lstL, lz, kill, Fin.val, Nat.reduceAdd]
    refine V_iload (pc := 37) C (dk k_F_actByDraw 24 rfl) rfl ?_
    have q0 : 0 ≤ drw z k / 8 := Int.ediv_nonneg d0 (by decide)
    have q1 : drw z k / 8 ≤ drw z k := Int.ediv_le_self _ d0
    have t0 := Int.emod_nonneg (drw z k / 8) (b := (pN π : Int)) (by omega)
    have t1 := Int.emod_lt_of_pos (drw z k / 8) (b := (pN π : Int)) (by omega)
    refine V_bipush (pc := 39) (n' := 8) C (dk k_F_actByDraw 25 rfl) rfl ?_
    refine V_idiv (pc := 41) C (dk k_F_actByDraw 26 rfl) ⟨by omega, by omega⟩ ⟨by omega, by omega⟩ (by omega) (by omega) ?_
    refine V_aload_n (pc := 42) C (dk k_F_actByDraw 27 rfl) rfl ?_
    refine V_getm (pc := 43) (o2 := pl) C (dk k_F_actByDraw 28 rfl) fl_F_26 kq_0 (by decide) rfl hm_pl ?_
    refine V_geti (pc := 46) (ji := 2) C (dk k_F_actByDraw 29 rfl) fl_F_196 hpl (by decide) rfl rfl ?_
    rw [e2]
    refine V_irem (pc := 49) C (dk k_F_actByDraw 30 rfl) ⟨by omega, by omega⟩ ⟨by omega, by omega⟩ (by omega) (by omega) ?_
    refine V_istore (pc := 50) C (dk k_F_actByDraw 31 rfl) (by rw [hXN]; decide) ?_
    dsimp only [lst, lstL, lz, kill, Fin.val, Nat.reduceAdd]
    refine V_iload (pc := 52) C (dk k_F_actByDraw 32 rfl) rfl ?_
    refine V_bipush (pc := 54) (n' := 8) C (dk k_F_actByDraw 33 rfl) rfl ?_
    refine V_irem (pc := 56) C (dk k_F_actByDraw 34 rfl) ⟨by omega, by omega⟩ ⟨by omega, by omega⟩ (by omega) (by omega) ?_
    refine V_istore (pc := 57) C (dk k_F_actByDraw 35 rfl) (by rw [hXN]; decide) ?_
    dsimp only [lst, lstL, lz, kill, Fin.val, Nat.reduceAdd]
    refine V_iload (pc := 59) C (dk k_F_actByDraw 36 rfl) rfl ?_
    refine V_iconst (pc := 61) C (dk k_F_actByDraw 37 rfl) rfl ?_
    refine V_icmpgt (pc := 62) C (dk k_F_actByDraw 38 rfl) 97 rfl (by first | exact hR _ _ | with_reducible assumption | exact ⟨by omega, by omega⟩) (by first | exact hR _ _ | with_reducible assumption | exact ⟨by omega, by omega⟩) (fun h2 => ?_) (fun h2 => ?_)
    · skip
      refine V_iload (pc := 97) C (dk k_F_actByDraw 53 rfl) rfl ?_
      refine V_iconst (pc := 99) C (dk k_F_actByDraw 54 rfl) rfl ?_
      refine V_icmpeq (pc := 100) C (dk k_F_actByDraw 55 rfl) 109 rfl (by first | exact hR _ _ | with_reducible assumption | exact ⟨by omega, by omega⟩) (by first | exact hR _ _ | with_reducible assumption | exact ⟨by omega, by omega⟩) (fun h3 => ?_) (fun h3 => ?_)
      · skip
        refine V_aload_n (pc := 109) C (dk k_F_actByDraw 59 rfl) rfl ?_
        refine V_getr (pc := 110) (o2 := 24) C (dk k_F_actByDraw 60 rfl) fl_F_40 kq_0 (by decide) rfl (by decide) rfl ?_
        refine V_aload_n (pc := 113) C (dk k_F_actByDraw 61 rfl) rfl ?_
        refine V_getm (pc := 114) (o2 := pl) C (dk k_F_actByDraw 62 rfl) fl_F_26 kq_0 (by decide) rfl hm_pl ?_
        refine V_iload (pc := 117) C (dk k_F_actByDraw 63 rfl) rfl ?_
        refine V_callV (pc := 119) C (dk k_F_actByDraw 64 rfl) lk_F_168 cm_S_canBuyBack vm_S_canBuyBack (c_S_canBuyBack _ _ _ 24 pl π x j (drw z k / 8 % pN π) hπ0 ok hx0 xk hj t0 t1) kq_24 rfl rfl rfl (Nat.le_of_ble_eq_true rfl) (Rm.mono hRm (by decide) (by decide)) ?_
        refine V_ifeqB (pc := 122) C (dk k_F_actByDraw 65 rfl) 138 rfl (fun h4 => ?_) (fun h4 => ?_)
        · skip
          refine V_vret (pc := 138) C E (dk k_F_actByDraw 72 rfl) ?_
          first | (have ea : actX π x z k = sellX π x (drw z k / 8 % pN π) := by (unfold actX; rw [if_neg (by omega), if_pos ⟨by omega, by assumption⟩])) | (have ea : actX π x z k = buyX π x (drw z k / 8 % pN π) := by (unfold actX; rw [if_neg (by omega), if_neg (fun q => by omega), if_pos ⟨by omega, by assumption⟩])) | (have ea : actX π x z k = buyX π x (drw z k / 8 % pN π) := by (unfold actX; rw [if_neg (by omega), if_neg (by omega), if_pos ⟨by omega, by assumption⟩])) | (have ea : actX π x z k = x := by (unfold actX; rw [if_neg (by omega), if_neg (fun q => by omega), if_neg (fun q => by omega)]))
          first | exact ⟨rfl, by rw [ea]; exact hq1.1, hq1.2⟩ | exact ⟨rfl, by rw [ea]; exact hx0, Fr.rf _ _ _⟩
        · skip
          refine V_aload_n (pc := 125) C (dk k_F_actByDraw 66 rfl) rfl ?_
          refine V_getr (pc := 126) (o2 := 24) C (dk k_F_actByDraw 67 rfl) fl_F_40 kq_0 (by decide) rfl (by decide) rfl ?_
          refine V_aload_n (pc := 129) C (dk k_F_actByDraw 68 rfl) rfl ?_
          refine V_getm (pc := 130) (o2 := pl) C (dk k_F_actByDraw 69 rfl) fl_F_26 kq_0 (by decide) rfl hm_pl ?_
          refine V_iload (pc := 133) C (dk k_F_actByDraw 70 rfl) rfl ?_
          refine V_callV0r (pc := 135) C (dk k_F_actByDraw 71 rfl) lk_F_171 cm_S_moveToPerson vm_S_moveToPerson (c_S_moveToPerson _ _ _ 24 pl π x j (drw z k / 8 % pN π) hπ0 ok hx0 xk hj t0 t1 (by omega)) kq_24 rfl rfl rfl (Nat.le_of_ble_eq_true rfl) (Rm.mono hRm (by decide) (by decide)) (fun τ1 hq1 => ?_)
          refine V_R (fun hR => ?_)
          refine V_vret (pc := 138) C E (dk k_F_actByDraw 72 rfl) ?_
          first | (have ea : actX π x z k = sellX π x (drw z k / 8 % pN π) := by (unfold actX; rw [if_neg (by omega), if_pos ⟨by omega, by assumption⟩])) | (have ea : actX π x z k = buyX π x (drw z k / 8 % pN π) := by (unfold actX; rw [if_neg (by omega), if_neg (fun q => by omega), if_pos ⟨by omega, by assumption⟩])) | (have ea : actX π x z k = buyX π x (drw z k / 8 % pN π) := by (unfold actX; rw [if_neg (by omega), if_neg (by omega), if_pos ⟨by omega, by assumption⟩])) | (have ea : actX π x z k = x := by (unfold actX; rw [if_neg (by omega), if_neg (fun q => by omega), if_neg (fun q => by omega)]))
          first | exact ⟨rfl, by rw [ea]; exact hq1.1, hq1.2⟩ | exact ⟨rfl, by rw [ea]; exact hx0, Fr.rf _ _ _⟩
      · skip
        refine V_iload (pc := 103) C (dk k_F_actByDraw 56 rfl) rfl ?_
        refine V_iconst (pc := 105) C (dk k_F_actByDraw 57 rfl) rfl ?_
        refine V_icmpne (pc := 106) C (dk k_F_actByDraw 58 rfl) 138 rfl (by first | exact hR _ _ | with_reducible assumption | exact ⟨by omega, by omega⟩) (by first | exact hR _ _ | with_reducible assumption | exact ⟨by omega, by omega⟩) (fun h5 => ?_) (fun h5 => ?_)
        · skip
          refine V_vret (pc := 138) C E (dk k_F_actByDraw 72 rfl) ?_
          first | (have ea : actX π x z k = sellX π x (drw z k / 8 % pN π) := by (unfold actX; rw [if_neg (by omega), if_pos ⟨by omega, by assumption⟩])) | (have ea : actX π x z k = buyX π x (drw z k / 8 % pN π) := by (unfold actX; rw [if_neg (by omega), if_neg (fun q => by omega), if_pos ⟨by omega, by assumption⟩])) | (have ea : actX π x z k = buyX π x (drw z k / 8 % pN π) := by (unfold actX; rw [if_neg (by omega), if_neg (by omega), if_pos ⟨by omega, by assumption⟩])) | (have ea : actX π x z k = x := by (unfold actX; rw [if_neg (by omega), if_neg (fun q => by omega), if_neg (fun q => by omega)]))
          first | exact ⟨rfl, by rw [ea]; exact hq1.1, hq1.2⟩ | exact ⟨rfl, by rw [ea]; exact hx0, Fr.rf _ _ _⟩
        · skip
          refine V_aload_n (pc := 109) C (dk k_F_actByDraw 59 rfl) rfl ?_
          refine V_getr (pc := 110) (o2 := 24) C (dk k_F_actByDraw 60 rfl) fl_F_40 kq_0 (by decide) rfl (by decide) rfl ?_
          refine V_aload_n (pc := 113) C (dk k_F_actByDraw 61 rfl) rfl ?_
          refine V_getm (pc := 114) (o2 := pl) C (dk k_F_actByDraw 62 rfl) fl_F_26 kq_0 (by decide) rfl hm_pl ?_
          refine V_iload (pc := 117) C (dk k_F_actByDraw 63 rfl) rfl ?_
          refine V_callV (pc := 119) C (dk k_F_actByDraw 64 rfl) lk_F_168 cm_S_canBuyBack vm_S_canBuyBack (c_S_canBuyBack _ _ _ 24 pl π x j (drw z k / 8 % pN π) hπ0 ok hx0 xk hj t0 t1) kq_24 rfl rfl rfl (Nat.le_of_ble_eq_true rfl) (Rm.mono hRm (by decide) (by decide)) ?_
          refine V_ifeqB (pc := 122) C (dk k_F_actByDraw 65 rfl) 138 rfl (fun h6 => ?_) (fun h6 => ?_)
          · skip
            refine V_vret (pc := 138) C E (dk k_F_actByDraw 72 rfl) ?_
            first | (have ea : actX π x z k = sellX π x (drw z k / 8 % pN π) := by (unfold actX; rw [if_neg (by omega), if_pos ⟨by omega, by assumption⟩])) | (have ea : actX π x z k = buyX π x (drw z k / 8 % pN π) := by (unfold actX; rw [if_neg (by omega), if_neg (fun q => by omega), if_pos ⟨by omega, by assumption⟩])) | (have ea : actX π x z k = buyX π x (drw z k / 8 % pN π) := by (unfold actX; rw [if_neg (by omega), if_neg (by omega), if_pos ⟨by omega, by assumption⟩])) | (have ea : actX π x z k = x := by (unfold actX; rw [if_neg (by omega), if_neg (fun q => by omega), if_neg (fun q => by omega)]))
            first | exact ⟨rfl, by rw [ea]; exact hq1.1, hq1.2⟩ | exact ⟨rfl, by rw [ea]; exact hx0, Fr.rf _ _ _⟩
          · skip
            refine V_aload_n (pc := 125) C (dk k_F_actByDraw 66 rfl) rfl ?_
            refine V_getr (pc := 126) (o2 := 24) C (dk k_F_actByDraw 67 rfl) fl_F_40 kq_0 (by decide) rfl (by decide) rfl ?_
            refine V_aload_n (pc := 129) C (dk k_F_actByDraw 68 rfl) rfl ?_
            refine V_getm (pc := 130) (o2 := pl) C (dk k_F_actByDraw 69 rfl) fl_F_26 kq_0 (by decide) rfl hm_pl ?_
            refine V_iload (pc := 133) C (dk k_F_actByDraw 70 rfl) rfl ?_
            refine V_callV0r (pc := 135) C (dk k_F_actByDraw 71 rfl) lk_F_171 cm_S_moveToPerson vm_S_moveToPerson (c_S_moveToPerson _ _ _ 24 pl π x j (drw z k / 8 % pN π) hπ0 ok hx0 xk hj t0 t1 (by omega)) kq_24 rfl rfl rfl (Nat.le_of_ble_eq_true rfl) (Rm.mono hRm (by decide) (by decide)) (fun τ1 hq1 => ?_)
            refine V_R (fun hR => ?_)
            refine V_vret (pc := 138) C E (dk k_F_actByDraw 72 rfl) ?_
            first | (have ea : actX π x z k = sellX π x (drw z k / 8 % pN π) := by (unfold actX; rw [if_neg (by omega), if_pos ⟨by omega, by assumption⟩])) | (have ea : actX π x z k = buyX π x (drw z k / 8 % pN π) := by (unfold actX; rw [if_neg (by omega), if_neg (fun q => by omega), if_pos ⟨by omega, by assumption⟩])) | (have ea : actX π x z k = buyX π x (drw z k / 8 % pN π) := by (unfold actX; rw [if_neg (by omega), if_neg (by omega), if_pos ⟨by omega, by assumption⟩])) | (have ea : actX π x z k = x := by (unfold actX; rw [if_neg (by omega), if_neg (fun q => by omega), if_neg (fun q => by omega)]))
            first | exact ⟨rfl, by rw [ea]; exact hq1.1, hq1.2⟩ | exact ⟨rfl, by rw [ea]; exact hx0, Fr.rf _ _ _⟩
    · skip
      refine V_aload_n (pc := 65) C (dk k_F_actByDraw 39 rfl) rfl ?_
      refine V_getr (pc := 66) (o2 := 24) C (dk k_F_actByDraw 40 rfl) fl_F_40 kq_0 (by decide) rfl (by decide) rfl ?_
      refine V_aload_n (pc := 69) C (dk k_F_actByDraw 41 rfl) rfl ?_
      refine V_getm (pc := 70) (o2 := pl) C (dk k_F_actByDraw 42 rfl) fl_F_26 kq_0 (by decide) rfl hm_pl ?_
      refine V_iload (pc := 73) C (dk k_F_actByDraw 43 rfl) rfl ?_
      refine V_callV (pc := 75) C (dk k_F_actByDraw 44 rfl) lk_F_156 cm_S_canSell vm_S_canSell (c_S_canSell _ _ _ 24 pl π x j (drw z k / 8 % pN π) hπ0 ok hx0 xk hj t0 t1) kq_24 rfl rfl rfl (Nat.le_of_ble_eq_true rfl) (Rm.mono hRm (by decide) (by decide)) ?_
      refine V_ifeqB (pc := 78) C (dk k_F_actByDraw 45 rfl) 97 rfl (fun h7 => ?_) (fun h7 => ?_)
      · skip
        refine V_iload (pc := 97) C (dk k_F_actByDraw 53 rfl) rfl ?_
        refine V_iconst (pc := 99) C (dk k_F_actByDraw 54 rfl) rfl ?_
        refine V_icmpeq (pc := 100) C (dk k_F_actByDraw 55 rfl) 109 rfl (by first | exact hR _ _ | with_reducible assumption | exact ⟨by omega, by omega⟩) (by first | exact hR _ _ | with_reducible assumption | exact ⟨by omega, by omega⟩) (fun h8 => ?_) (fun h8 => ?_)
        · skip
          refine V_aload_n (pc := 109) C (dk k_F_actByDraw 59 rfl) rfl ?_
          refine V_getr (pc := 110) (o2 := 24) C (dk k_F_actByDraw 60 rfl) fl_F_40 kq_0 (by decide) rfl (by decide) rfl ?_
          refine V_aload_n (pc := 113) C (dk k_F_actByDraw 61 rfl) rfl ?_
          refine V_getm (pc := 114) (o2 := pl) C (dk k_F_actByDraw 62 rfl) fl_F_26 kq_0 (by decide) rfl hm_pl ?_
          refine V_iload (pc := 117) C (dk k_F_actByDraw 63 rfl) rfl ?_
          refine V_callV (pc := 119) C (dk k_F_actByDraw 64 rfl) lk_F_168 cm_S_canBuyBack vm_S_canBuyBack (c_S_canBuyBack _ _ _ 24 pl π x j (drw z k / 8 % pN π) hπ0 ok hx0 xk hj t0 t1) kq_24 rfl rfl rfl (Nat.le_of_ble_eq_true rfl) (Rm.mono hRm (by decide) (by decide)) ?_
          refine V_ifeqB (pc := 122) C (dk k_F_actByDraw 65 rfl) 138 rfl (fun h9 => ?_) (fun h9 => ?_)
          · skip
            refine V_vret (pc := 138) C E (dk k_F_actByDraw 72 rfl) ?_
            first | (have ea : actX π x z k = sellX π x (drw z k / 8 % pN π) := by (unfold actX; rw [if_neg (by omega), if_pos ⟨by omega, by assumption⟩])) | (have ea : actX π x z k = buyX π x (drw z k / 8 % pN π) := by (unfold actX; rw [if_neg (by omega), if_neg (fun q => by omega), if_pos ⟨by omega, by assumption⟩])) | (have ea : actX π x z k = buyX π x (drw z k / 8 % pN π) := by (unfold actX; rw [if_neg (by omega), if_neg (by omega), if_pos ⟨by omega, by assumption⟩])) | (have ea : actX π x z k = x := by (unfold actX; rw [if_neg (by omega), if_neg (fun q => by omega), if_neg (fun q => by omega)]))
            first | exact ⟨rfl, by rw [ea]; exact hq1.1, hq1.2⟩ | exact ⟨rfl, by rw [ea]; exact hx0, Fr.rf _ _ _⟩
          · skip
            refine V_aload_n (pc := 125) C (dk k_F_actByDraw 66 rfl) rfl ?_
            refine V_getr (pc := 126) (o2 := 24) C (dk k_F_actByDraw 67 rfl) fl_F_40 kq_0 (by decide) rfl (by decide) rfl ?_
            refine V_aload_n (pc := 129) C (dk k_F_actByDraw 68 rfl) rfl ?_
            refine V_getm (pc := 130) (o2 := pl) C (dk k_F_actByDraw 69 rfl) fl_F_26 kq_0 (by decide) rfl hm_pl ?_
            refine V_iload (pc := 133) C (dk k_F_actByDraw 70 rfl) rfl ?_
            refine V_callV0r (pc := 135) C (dk k_F_actByDraw 71 rfl) lk_F_171 cm_S_moveToPerson vm_S_moveToPerson (c_S_moveToPerson _ _ _ 24 pl π x j (drw z k / 8 % pN π) hπ0 ok hx0 xk hj t0 t1 (by omega)) kq_24 rfl rfl rfl (Nat.le_of_ble_eq_true rfl) (Rm.mono hRm (by decide) (by decide)) (fun τ1 hq1 => ?_)
            refine V_R (fun hR => ?_)
            refine V_vret (pc := 138) C E (dk k_F_actByDraw 72 rfl) ?_
            first | (have ea : actX π x z k = sellX π x (drw z k / 8 % pN π) := by (unfold actX; rw [if_neg (by omega), if_pos ⟨by omega, by assumption⟩])) | (have ea : actX π x z k = buyX π x (drw z k / 8 % pN π) := by (unfold actX; rw [if_neg (by omega), if_neg (fun q => by omega), if_pos ⟨by omega, by assumption⟩])) | (have ea : actX π x z k = buyX π x (drw z k / 8 % pN π) := by (unfold actX; rw [if_neg (by omega), if_neg (by omega), if_pos ⟨by omega, by assumption⟩])) | (have ea : actX π x z k = x := by (unfold actX; rw [if_neg (by omega), if_neg (fun q => by omega), if_neg (fun q => by omega)]))
            first | exact ⟨rfl, by rw [ea]; exact hq1.1, hq1.2⟩ | exact ⟨rfl, by rw [ea]; exact hx0, Fr.rf _ _ _⟩
        · skip
          refine V_iload (pc := 103) C (dk k_F_actByDraw 56 rfl) rfl ?_
          refine V_iconst (pc := 105) C (dk k_F_actByDraw 57 rfl) rfl ?_
          refine V_icmpne (pc := 106) C (dk k_F_actByDraw 58 rfl) 138 rfl (by first | exact hR _ _ | with_reducible assumption | exact ⟨by omega, by omega⟩) (by first | exact hR _ _ | with_reducible assumption | exact ⟨by omega, by omega⟩) (fun h10 => ?_) (fun h10 => ?_)
          · skip
            refine V_vret (pc := 138) C E (dk k_F_actByDraw 72 rfl) ?_
            first | (have ea : actX π x z k = sellX π x (drw z k / 8 % pN π) := by (unfold actX; rw [if_neg (by omega), if_pos ⟨by omega, by assumption⟩])) | (have ea : actX π x z k = buyX π x (drw z k / 8 % pN π) := by (unfold actX; rw [if_neg (by omega), if_neg (fun q => by omega), if_pos ⟨by omega, by assumption⟩])) | (have ea : actX π x z k = buyX π x (drw z k / 8 % pN π) := by (unfold actX; rw [if_neg (by omega), if_neg (by omega), if_pos ⟨by omega, by assumption⟩])) | (have ea : actX π x z k = x := by (unfold actX; rw [if_neg (by omega), if_neg (fun q => by omega), if_neg (fun q => by omega)]))
            first | exact ⟨rfl, by rw [ea]; exact hq1.1, hq1.2⟩ | exact ⟨rfl, by rw [ea]; exact hx0, Fr.rf _ _ _⟩
          · skip
            refine V_aload_n (pc := 109) C (dk k_F_actByDraw 59 rfl) rfl ?_
            refine V_getr (pc := 110) (o2 := 24) C (dk k_F_actByDraw 60 rfl) fl_F_40 kq_0 (by decide) rfl (by decide) rfl ?_
            refine V_aload_n (pc := 113) C (dk k_F_actByDraw 61 rfl) rfl ?_
            refine V_getm (pc := 114) (o2 := pl) C (dk k_F_actByDraw 62 rfl) fl_F_26 kq_0 (by decide) rfl hm_pl ?_
            refine V_iload (pc := 117) C (dk k_F_actByDraw 63 rfl) rfl ?_
            refine V_callV (pc := 119) C (dk k_F_actByDraw 64 rfl) lk_F_168 cm_S_canBuyBack vm_S_canBuyBack (c_S_canBuyBack _ _ _ 24 pl π x j (drw z k / 8 % pN π) hπ0 ok hx0 xk hj t0 t1) kq_24 rfl rfl rfl (Nat.le_of_ble_eq_true rfl) (Rm.mono hRm (by decide) (by decide)) ?_
            refine V_ifeqB (pc := 122) C (dk k_F_actByDraw 65 rfl) 138 rfl (fun h11 => ?_) (fun h11 => ?_)
            · skip
              refine V_vret (pc := 138) C E (dk k_F_actByDraw 72 rfl) ?_
              first | (have ea : actX π x z k = sellX π x (drw z k / 8 % pN π) := by (unfold actX; rw [if_neg (by omega), if_pos ⟨by omega, by assumption⟩])) | (have ea : actX π x z k = buyX π x (drw z k / 8 % pN π) := by (unfold actX; rw [if_neg (by omega), if_neg (fun q => by omega), if_pos ⟨by omega, by assumption⟩])) | (have ea : actX π x z k = buyX π x (drw z k / 8 % pN π) := by (unfold actX; rw [if_neg (by omega), if_neg (by omega), if_pos ⟨by omega, by assumption⟩])) | (have ea : actX π x z k = x := by (unfold actX; rw [if_neg (by omega), if_neg (fun q => by omega), if_neg (fun q => by omega)]))
              first | exact ⟨rfl, by rw [ea]; exact hq1.1, hq1.2⟩ | exact ⟨rfl, by rw [ea]; exact hx0, Fr.rf _ _ _⟩
            · skip
              refine V_aload_n (pc := 125) C (dk k_F_actByDraw 66 rfl) rfl ?_
              refine V_getr (pc := 126) (o2 := 24) C (dk k_F_actByDraw 67 rfl) fl_F_40 kq_0 (by decide) rfl (by decide) rfl ?_
              refine V_aload_n (pc := 129) C (dk k_F_actByDraw 68 rfl) rfl ?_
              refine V_getm (pc := 130) (o2 := pl) C (dk k_F_actByDraw 69 rfl) fl_F_26 kq_0 (by decide) rfl hm_pl ?_
              refine V_iload (pc := 133) C (dk k_F_actByDraw 70 rfl) rfl ?_
              refine V_callV0r (pc := 135) C (dk k_F_actByDraw 71 rfl) lk_F_171 cm_S_moveToPerson vm_S_moveToPerson (c_S_moveToPerson _ _ _ 24 pl π x j (drw z k / 8 % pN π) hπ0 ok hx0 xk hj t0 t1 (by omega)) kq_24 rfl rfl rfl (Nat.le_of_ble_eq_true rfl) (Rm.mono hRm (by decide) (by decide)) (fun τ1 hq1 => ?_)
              refine V_R (fun hR => ?_)
              refine V_vret (pc := 138) C E (dk k_F_actByDraw 72 rfl) ?_
              first | (have ea : actX π x z k = sellX π x (drw z k / 8 % pN π) := by (unfold actX; rw [if_neg (by omega), if_pos ⟨by omega, by assumption⟩])) | (have ea : actX π x z k = buyX π x (drw z k / 8 % pN π) := by (unfold actX; rw [if_neg (by omega), if_neg (fun q => by omega), if_pos ⟨by omega, by assumption⟩])) | (have ea : actX π x z k = buyX π x (drw z k / 8 % pN π) := by (unfold actX; rw [if_neg (by omega), if_neg (by omega), if_pos ⟨by omega, by assumption⟩])) | (have ea : actX π x z k = x := by (unfold actX; rw [if_neg (by omega), if_neg (fun q => by omega), if_neg (fun q => by omega)]))
              first | exact ⟨rfl, by rw [ea]; exact hq1.1, hq1.2⟩ | exact ⟨rfl, by rw [ea]; exact hx0, Fr.rf _ _ _⟩
      · skip
        refine V_aload_n (pc := 81) C (dk k_F_actByDraw 46 rfl) rfl ?_
        refine V_getr (pc := 82) (o2 := 24) C (dk k_F_actByDraw 47 rfl) fl_F_40 kq_0 (by decide) rfl (by decide) rfl ?_
        refine V_aload_n (pc := 85) C (dk k_F_actByDraw 48 rfl) rfl ?_
        refine V_getm (pc := 86) (o2 := pl) C (dk k_F_actByDraw 49 rfl) fl_F_26 kq_0 (by decide) rfl hm_pl ?_
        refine V_iload (pc := 89) C (dk k_F_actByDraw 50 rfl) rfl ?_
        refine V_callV0r (pc := 91) C (dk k_F_actByDraw 51 rfl) lk_F_164 cm_S_moveToCellar vm_S_moveToCellar (c_S_moveToCellar _ _ _ 24 pl π x j (drw z k / 8 % pN π) hπ0 ok hx0 xk hj t0 t1 (by omega)) kq_24 rfl rfl rfl (Nat.le_of_ble_eq_true rfl) (Rm.mono hRm (by decide) (by decide)) (fun τ1 hq1 => ?_)
        refine V_R (fun hR => ?_)
        refine V_goto (pc := 94) C (dk k_F_actByDraw 52 rfl) 138 rfl ?_
        refine V_vret (pc := 138) C E (dk k_F_actByDraw 72 rfl) ?_
        first | (have ea : actX π x z k = sellX π x (drw z k / 8 % pN π) := by (unfold actX; rw [if_neg (by omega), if_pos ⟨by omega, by assumption⟩])) | (have ea : actX π x z k = buyX π x (drw z k / 8 % pN π) := by (unfold actX; rw [if_neg (by omega), if_neg (fun q => by omega), if_pos ⟨by omega, by assumption⟩])) | (have ea : actX π x z k = buyX π x (drw z k / 8 % pN π) := by (unfold actX; rw [if_neg (by omega), if_neg (by omega), if_pos ⟨by omega, by assumption⟩])) | (have ea : actX π x z k = x := by (unfold actX; rw [if_neg (by omega), if_neg (fun q => by omega), if_neg (fun q => by omega)]))
        first | exact ⟨rfl, by rw [ea]; exact hq1.1, hq1.2⟩ | exact ⟨rfl, by rw [ea]; exact hx0, Fr.rf _ _ _⟩
  · skip
    refine V_vret (pc := 10) C E (dk k_F_actByDraw 4 rfl) ?_
    have ea : actX π x z k = x := if_pos (by omega)
    exact ⟨rfl, by rw [ea]; exact hx0, Fr.rf _ _ _⟩

def i_F_year : List (Nat × (Instr × Nat)) := [(0, (.iload_n 1, 1)), (1, (.iconst 0, 1)), (2, (.sipush 9999, 3)), (5, (.invokestatic 98, 3)), (8, (.ifCond .eq 22, 3)), (11, (.iload_n 2, 1)), (12, (.iconst 1, 1)), (13, (.bipush 60, 2)), (15, (.invokestatic 98, 3)), (18, (.ifCond .eq 12, 3)), (21, (.iload_n 3, 1)), (22, (.iconst 0, 1)), (23, (.iconst 1, 1)), (24, (.invokestatic 98, 3)), (27, (.ifCond .ne 5, 3)), (30, (.iconst (-1), 1)), (31, (.ireturn, 1)), (32, (.aload_n 0, 1)), (33, (.getfield 40, 3)), (36, (.aload_n 0, 1)), (37, (.getfield 36, 3)), (40, (.invokevirtual 189, 3)), (43, (.iconst 0, 1)), (44, (.istore 4, 2)), (46, (.iload 4, 2)), (48, (.iload_n 2, 1)), (49, (.if_icmp .ge 27, 3)), (52, (.aload_n 0, 1)), (53, (.iload_n 1, 1)), (54, (.iload 4, 2)), (56, (.invokevirtual 250, 3)), (59, (.aload_n 0, 1)), (60, (.getfield 40, 3)), (63, (.aload_n 0, 1)), (64, (.getfield 26, 3)), (67, (.invokevirtual 174, 3)), (70, (.iinc 4 1, 3)), (73, (.goto (-27), 3)), (76, (.iload_n 3, 1)), (77, (.ifCond .ne 17, 3)), (80, (.aload_n 0, 1)), (81, (.getfield 40, 3)), (84, (.aload_n 0, 1)), (85, (.getfield 26, 3)), (88, (.invokevirtual 192, 3)), (91, (.goto 14, 3)), (94, (.aload_n 0, 1)), (95, (.getfield 40, 3)), (98, (.aload_n 0, 1)), (99, (.getfield 26, 3)), (102, (.invokevirtual 254, 3)), (105, (.ireturn, 1))]
theorem k_F_year : i_F_year.all (fun q => decide (decode b_F_year q.1 = .ok q.2)) = true := by decide +kernel

set_option maxHeartbeats 1000000 in
set_option maxRecDepth 20000 in
theorem c_F_year (l : Launch) (G : GE) (σ : Wd) (pl sp : Nat) (π : PL) (x : ST) (us ks : List ST) (lk : List (Int × (Int × Int))) (tx : List Int) (j : Int) (hC : CR σ pl sp π x us ks lk tx) (hV : VK π x us ks j) (hj : j ≤ 100) (z n k : Int) (hz : inR z) (hn : inR n) (hk : inR k) : Ct l G y_F_year b_F_year 5 (some (.int)) 5 113 [vR 0, vI z, vI n, vI k] σ (Rt (some (vI (o_year π x z n k))) (fun σ' => CR σ' pl sp π x us ks lk tx ∧ Fc σ σ')) := by
  refine Ct.of cm_F_year (Nat.le_of_ble_eq_true rfl) ?_
  intro X hXl hXG hXN hRm C E
  subst hXl; subst hXG
  have ⟨hz_1, hz_2⟩ := hz
  have ⟨hn_1, hn_2⟩ := hn
  have ⟨hk_1, hk_2⟩ := hk
  show V X 0 [some (vR 0), some (vI z), some (vI n), some (vI k), none] [] σ
  refine V_R (fun hR => ?_)
  obtain ⟨hF, hsp0, hsp, hne, hx, hU, hK, hl, hT⟩ := id hC
  obtain ⟨ok, xk, usk, ksk, ks2⟩ := id hV
  have hF0 := hF
  obtain ⟨hm_pl, hπ⟩ := hF
  have hπ0 := hπ
  obtain ⟨hpl, e0, e2, e7, e10, eT, eX⟩ := hπ
  obtain ⟨hpl_1, hpl_2, hpl_3, hpl_4, hpl_5, hpl_6⟩ := kd_P hpl
  have ⟨k1, k2, k3, k4, k5, k6, kT, kX⟩ := ok
  have hx0 := hx
  obtain ⟨hs, f0, f1, fQ, fT⟩ := hx
  simp only [Nat.reduceAdd] at fQ fT
  have ⟨x1, x2, x3, x4, xQ, xT⟩ := xk
  have p512 := kd5 hpl
  have s512 := kd5 hsp
  refine V_iload_n (pc := 0) C (dk k_F_year 0 rfl) rfl ?_
  refine V_iconst (pc := 1) C (dk k_F_year 1 rfl) rfl ?_
  refine V_sipush (pc := 2) (n' := 9999) C (dk k_F_year 2 rfl) rfl ?_
  refine V_callS (pc := 5) C (dk k_F_year 3 rfl) lk_F_98 cm_F_within sm_F_within (c_F_within _ _ _ z 0 9999 hz ⟨by decide, by decide⟩ ⟨by decide, by decide⟩) rfl rfl (Nat.le_of_ble_eq_true rfl) (Rm.mono hRm (by decide) (by decide)) ?_
  refine V_ifeqB (pc := 8) C (dk k_F_year 4 rfl) 30 rfl (fun h1 => ?_) (fun h1 => ?_)
  · skip
    refine V_iconst (pc := 30) C (dk k_F_year 15 rfl) rfl ?_
    refine V_iret (pc := 31) C E (dk k_F_year 16 rfl) ?_
    rw [show o_year π x z n k = -1 from if_neg (by omega)]
    exact ⟨rfl, hC, Fc.rf σ⟩
  · skip
    refine V_iload_n (pc := 11) C (dk k_F_year 5 rfl) rfl ?_
    refine V_iconst (pc := 12) C (dk k_F_year 6 rfl) rfl ?_
    refine V_bipush (pc := 13) (n' := 60) C (dk k_F_year 7 rfl) rfl ?_
    refine V_callS (pc := 15) C (dk k_F_year 8 rfl) lk_F_98 cm_F_within sm_F_within (c_F_within _ _ _ n 1 60 hn ⟨by decide, by decide⟩ ⟨by decide, by decide⟩) rfl rfl (Nat.le_of_ble_eq_true rfl) (Rm.mono hRm (by decide) (by decide)) ?_
    refine V_ifeqB (pc := 18) C (dk k_F_year 9 rfl) 30 rfl (fun h2 => ?_) (fun h2 => ?_)
    · skip
      refine V_iconst (pc := 30) C (dk k_F_year 15 rfl) rfl ?_
      refine V_iret (pc := 31) C E (dk k_F_year 16 rfl) ?_
      rw [show o_year π x z n k = -1 from if_neg (by omega)]
      exact ⟨rfl, hC, Fc.rf σ⟩
    · skip
      refine V_iload_n (pc := 21) C (dk k_F_year 10 rfl) rfl ?_
      refine V_iconst (pc := 22) C (dk k_F_year 11 rfl) rfl ?_
      refine V_iconst (pc := 23) C (dk k_F_year 12 rfl) rfl ?_
      refine V_callS (pc := 24) C (dk k_F_year 13 rfl) lk_F_98 cm_F_within sm_F_within (c_F_within _ _ _ k 0 1 hk ⟨by decide, by decide⟩ ⟨by decide, by decide⟩) rfl rfl (Nat.le_of_ble_eq_true rfl) (Rm.mono hRm (by decide) (by decide)) ?_
      refine V_ifneB (pc := 27) C (dk k_F_year 14 rfl) 32 rfl (fun h3 => ?_) (fun h3 => ?_)
      · skip
        refine V_aload_n (pc := 32) C (dk k_F_year 17 rfl) rfl ?_
        refine V_getr (pc := 33) (o2 := 24) C (dk k_F_year 18 rfl) fl_F_40 kq_0 (by decide) rfl (by decide) rfl ?_
        refine V_aload_n (pc := 36) C (dk k_F_year 19 rfl) rfl ?_
        refine V_getr (pc := 37) (o2 := 19) C (dk k_F_year 20 rfl) fl_F_36 kq_0 (by decide) rfl (by decide) rfl ?_
        refine V_callV0r (pc := 40) C (dk k_F_year 21 rfl) lk_F_189 cm_S_copyFrom vm_S_copyFrom (c_S_copyFrom _ _ _ 24 19 kq_24 hs (by decide)) kq_24 rfl rfl rfl (Nat.le_of_ble_eq_true rfl) (Rm.mono hRm (by decide) (by decide)) (fun τ1 hq1 => ?_)
        refine V_R (fun hR => ?_)
        refine V_iconst (pc := 43) C (dk k_F_year 22 rfl) rfl ?_
        refine V_istore (pc := 44) C (dk k_F_year 23 rfl) (by rw [hXN]; decide) ?_
        dsimp only [lst, lstL, lz, kill, Fin.val, Nat.reduceAdd]
        refine V_eq (V_loop (fun q : Nat × Wd => (q.1 : Int) ≤ n ∧ StR q.2 24 π (yearX π x z q.1) ∧ Fr 24 5 σ q.2) (fun q => [some (vR 0), some (vI z), some (vI n), some (vI k), some (vI (q.1 : Int))]) (fun q => q.2) (fun q => n.toNat - q.1) (fun q hq ih => ?_) (0, τ1) ⟨by dsimp only; omega, StR.copy kq_24 ok hx0 hq1.1.1 hq1.1.2.1 hq1.1.2.2.1 hq1.1.2.2.2, hq1.2⟩) rfl rfl rfl
        obtain ⟨i, τ⟩ := q
        obtain ⟨hi, tx1, tfr⟩ := hq
        dsimp only at hi tx1 tfr ih ⊢
        refine V_R (fun hR => ?_)
        have hF2 : FR τ pl π := hF0.fr (tfr 0 (by omega)) (fun k a b => tfr k (by omega))
        have yk := year_ok (z := z) ok xk i
        refine V_iload (pc := 46) C (dk k_F_year 24 rfl) rfl ?_
        refine V_iload_n (pc := 48) C (dk k_F_year 25 rfl) rfl ?_
        refine V_icmpge (pc := 49) C (dk k_F_year 26 rfl) 76 rfl (by first | exact hR _ _ | with_reducible assumption | exact ⟨by omega, by omega⟩) (by first | exact hR _ _ | with_reducible assumption | exact ⟨by omega, by omega⟩) (fun h4 => ?_) (fun h4 => ?_)
        · skip
          refine V_iload_n (pc := 76) C (dk k_F_year 38 rfl) rfl ?_
          refine V_ifne (pc := 77) C (dk k_F_year 39 rfl) 94 rfl (by first | exact hR _ _ | with_reducible assumption | exact ⟨by omega, by omega⟩) (fun h5 => ?_) (fun h5 => ?_)
          · skip
            refine V_aload_n (pc := 94) C (dk k_F_year 46 rfl) rfl ?_
            refine V_getr (pc := 95) (o2 := 24) C (dk k_F_year 47 rfl) fl_F_40 kq_0 (by decide) rfl (by decide) rfl ?_
            refine V_aload_n (pc := 98) C (dk k_F_year 48 rfl) rfl ?_
            refine V_getm (pc := 99) (o2 := pl) C (dk k_F_year 49 rfl) fl_F_26 kq_0 (by decide) rfl (by rw [tfr 0 (by omega)]; exact hm_pl) ?_
            refine V_callV (pc := 102) C (dk k_F_year 50 rfl) lk_F_254 cm_S_rueOfAll vm_S_rueOfAll (c_S_rueOfAll _ _ _ 24 pl π (yearX π x z i) (j + i) hF2.2 ok tx1 yk (by omega)) kq_24 rfl rfl rfl (Nat.le_of_ble_eq_true rfl) (Rm.mono hRm (by decide) (by decide)) ?_
            refine V_iret (pc := 105) C E (dk k_F_year 51 rfl) ?_
            obtain rfl : n = i := by omega
            first | (rw [show o_year π x z (i : Int) k = cellar π (yearX π x z i) by unfold o_year; rw [if_pos (by omega), if_pos (by omega), Int.toNat_natCast]]) | (rw [show o_year π x z (i : Int) k = sm (fun q => sR (yearX π x z i) q) (pP π) by unfold o_year; rw [if_pos (by omega), if_neg (by omega), Int.toNat_natCast]])
            exact ⟨rfl, hC.fr (fun k a => tfr k (by unfold scr at a; omega)), fun k a => tfr k (by omega)⟩
          · skip
            refine V_aload_n (pc := 80) C (dk k_F_year 40 rfl) rfl ?_
            refine V_getr (pc := 81) (o2 := 24) C (dk k_F_year 41 rfl) fl_F_40 kq_0 (by decide) rfl (by decide) rfl ?_
            refine V_aload_n (pc := 84) C (dk k_F_year 42 rfl) rfl ?_
            refine V_getm (pc := 85) (o2 := pl) C (dk k_F_year 43 rfl) fl_F_26 kq_0 (by decide) rfl (by rw [tfr 0 (by omega)]; exact hm_pl) ?_
            refine V_callV (pc := 88) C (dk k_F_year 44 rfl) lk_F_192 cm_S_nearOfCellar vm_S_nearOfCellar (c_S_nearOfCellar _ _ _ 24 pl π (yearX π x z i) (j + i) hF2.2 ok tx1 yk (by omega)) kq_24 rfl rfl rfl (Nat.le_of_ble_eq_true rfl) (Rm.mono hRm (by decide) (by decide)) ?_
            refine V_goto (pc := 91) C (dk k_F_year 45 rfl) 105 rfl ?_
            refine V_iret (pc := 105) C E (dk k_F_year 51 rfl) ?_
            obtain rfl : n = i := by omega
            first | (rw [show o_year π x z (i : Int) k = cellar π (yearX π x z i) by unfold o_year; rw [if_pos (by omega), if_pos (by omega), Int.toNat_natCast]]) | (rw [show o_year π x z (i : Int) k = sm (fun q => sR (yearX π x z i) q) (pP π) by unfold o_year; rw [if_pos (by omega), if_neg (by omega), Int.toNat_natCast]])
            exact ⟨rfl, hC.fr (fun k a => tfr k (by unfold scr at a; omega)), fun k a => tfr k (by omega)⟩
        · skip
          refine V_aload_n (pc := 52) C (dk k_F_year 27 rfl) rfl ?_
          refine V_iload_n (pc := 53) C (dk k_F_year 28 rfl) rfl ?_
          refine V_iload (pc := 54) C (dk k_F_year 29 rfl) rfl ?_
          refine V_callV0r (pc := 56) C (dk k_F_year 30 rfl) lk_F_250 cm_F_actByDraw vm_F_actByDraw (c_F_actByDraw _ _ _ pl π (yearX π x z i) (j + i) z i hF2 ok tx1 yk (by omega) (by omega) (by omega) (by omega) (by omega)) kq_0 rfl rfl rfl (Nat.le_of_ble_eq_true rfl) (Rm.mono hRm (by decide) (by decide)) (fun τ3 hq3 => ?_)
          refine V_R (fun hR => ?_)
          refine V_aload_n (pc := 59) C (dk k_F_year 31 rfl) rfl ?_
          refine V_getr (pc := 60) (o2 := 24) C (dk k_F_year 32 rfl) fl_F_40 kq_0 (by decide) rfl (by decide) rfl ?_
          refine V_aload_n (pc := 63) C (dk k_F_year 33 rfl) rfl ?_
          refine V_getm (pc := 64) (o2 := pl) C (dk k_F_year 34 rfl) fl_F_26 kq_0 (by decide) rfl (by rw [hq3.2 0 (by omega), tfr 0 (by omega)]; exact hm_pl) ?_
          refine V_callV0r (pc := 67) C (dk k_F_year 35 rfl) lk_F_174 cm_S_passDay vm_S_passDay (c_S_passDay _ _ _ 24 pl π (actX π (yearX π x z i) z i) (j + i + 1) (hπ0.fr (fun k a b => (hq3.2 k (by omega)).trans (tfr k (by omega)))) ok hq3.1 ((act_ok (z := z) (k := (i : Int)) ok yk.d).ok (by omega) (by omega)) (by omega)) kq_24 rfl rfl rfl (Nat.le_of_ble_eq_true rfl) (Rm.mono hRm (by decide) (by decide)) (fun τ2 hq2 => ?_)
          refine V_R (fun hR => ?_)
          refine V_iinc (pc := 70) C (dk k_F_year 36 rfl) (by rw [hXN]; decide) rfl ?_
          dsimp only [lst, lstL, lz, kill, Fin.val, Nat.reduceAdd]
          refine V_goto (pc := 73) C (dk k_F_year 37 rfl) 46 rfl ?_
          exact ih (i + 1, τ2) ⟨by dsimp only; omega, hq2.1, (tfr.tr hq3.2).tr hq2.2⟩ (by dsimp only; omega)
      · skip
        refine V_iconst (pc := 30) C (dk k_F_year 15 rfl) rfl ?_
        refine V_iret (pc := 31) C E (dk k_F_year 16 rfl) ?_
        rw [show o_year π x z n k = -1 from if_neg (by omega)]
        exact ⟨rfl, hC, Fc.rf σ⟩
end
section
/-- the sum over a set of the first n things -/
def ssum (f : Int → Int) (n b : Nat) : Int := sm (fun t => if b.testBit t.toNat then f t else 0) n
theorem ssum_s (f : Int → Int) (n b : Nat) : ssum f (n + 1) b = ssum f n b + (if b.testBit n then f n else 0) := by
  show sm _ n + (if b.testBit (n : Int).toNat then f n else 0) = _
  rw [Int.toNat_natCast]; rfl
theorem ssum_lo (f : Int → Int) {n b : Nat} (h : b < 2 ^ n) : ssum f (n + 1) b = ssum f n b := by
  rw [ssum_s, Nat.testBit_lt_two_pow h]; simp
theorem ssum_hi (f : Int → Int) {n b : Nat} (h : b < 2 ^ n) : ssum f (n + 1) (2 ^ n + b) = ssum f n b + f n := by
  rw [ssum_s]
  have e1 : (2 ^ n + b).testBit n = true := by
    rw [Nat.testBit_two_pow_add_eq, Nat.testBit_lt_two_pow h]; rfl
  rw [e1, if_pos rfl]
  congr 1
  refine sm_cg _ _ n (fun t h0 h1 => ?_)
  rw [Nat.testBit_two_pow_add_gt (by omega)]
theorem ssum_b (f : Int → Int) (c : Int) (hc : 0 ≤ c) : ∀ (n b : Nat), (∀ t : Int, 0 ≤ t → t < n → -c ≤ f t ∧ f t ≤ c) → -(c * n) ≤ ssum f n b ∧ ssum f n b ≤ c * n
  | 0, b, _ => by simp [ssum, sm]
  | n + 1, b, h => by
    have ⟨h1, h2⟩ := ssum_b f c hc n b (fun t a d => h t a (by omega))
    have ⟨h3, h4⟩ := h n (by omega) (by omega)
    have e : c * ((n + 1 : Nat) : Int) = c * n + c := by rw [Int.natCast_add, Int.mul_add]; simp
    rw [ssum_s, e]
    split <;> omega
theorem ssum_cg (f g : Int → Int) (n b : Nat) (h : ∀ t : Int, 0 ≤ t → t < n → f t = g t) : ssum f n b = ssum g n b :=
  sm_cg _ _ n (fun t h0 h1 => by rw [h t h0 h1])
theorem p2N {n : Nat} (h : n ≤ 8) : 1 ≤ 2 ^ n ∧ 2 ^ n ≤ 256 := by
  have key : ∀ n : Fin 9, 1 ≤ 2 ^ n.val ∧ 2 ^ n.val ≤ 256 := by decide
  exact key ⟨n, by omega⟩
theorem p2I (n : Nat) : (1 : Int) * 2 ^ (n : Int).toNat = ((2 ^ n : Nat) : Int) := by
  rw [Int.one_mul, Int.toNat_natCast, Int.natCast_pow]; rfl
/-- the search for the best of the sets below i -/
def fnd (ok : Nat → Bool) (W : Nat → Int) : Nat → Option (Nat × Int)
  | 0 => none
  | i + 1 => match fnd ok W i with
    | none => if ok i then some (i, W i) else none
    | some (s, v) => if ok i && decide (v < W i) then some (i, W i) else some (s, v)

def i_C_offer : List (Nat × (Instr × Nat)) := [(0, (.aload_n 0, 1)), (1, (.getfield 9, 3)), (4, (.iload_n 1, 1)), (5, (.iload_n 2, 1)), (6, (.invokestatic 24, 3)), (9, (.aload_n 0, 1)), (10, (.getfield 15, 3)), (13, (.iload_n 1, 1)), (14, (.iload_n 3, 1)), (15, (.invokestatic 24, 3)), (18, (.return_, 1))]
theorem k_C_offer : i_C_offer.all (fun q => decide (decode b_C_offer q.1 = .ok q.2)) = true := by decide +kernel

set_option maxHeartbeats 1000000 in
set_option maxRecDepth 20000 in
theorem c_C_offer (l : Launch) (G : GE) (σ : Wd) (t a b : Int) (ht0 : 0 ≤ t) (ht1 : t < 8) (ha : inR a) (hb : inR b) : Ct l G y_C_offer b_C_offer 4 (none) 1 22 [vR 117, vI t, vI a, vI b] σ (Dt none (up (up σ 118 t a) 119 t b)) := by
  refine Ct.of cm_C_offer (Nat.le_of_ble_eq_true rfl) ?_
  intro X hXl hXG hXN hRm C E
  subst hXl; subst hXG
  have ⟨ha_1, ha_2⟩ := ha
  have ⟨hb_1, hb_2⟩ := hb
  show V X 0 [some (vR 117), some (vI t), some (vI a), some (vI b)] [] σ
  refine V_R (fun hR => ?_)
  refine V_aload_n (pc := 0) C (dk k_C_offer 0 rfl) rfl ?_
  refine V_getr (pc := 1) (o2 := 118) C (dk k_C_offer 1 rfl) fl_C_9 kq_117 (by decide) rfl (by decide) rfl ?_
  refine V_iload_n (pc := 4) C (dk k_C_offer 2 rfl) rfl ?_
  refine V_iload_n (pc := 5) C (dk k_C_offer 3 rfl) rfl ?_
  refine V_callS0 (pc := 6) C (dk k_C_offer 4 rfl) lk_C_24 cm_F_put sm_F_put (c_put _ _ _ (118) 8 t a kq_118 (by decide) ht0 (by omega) ha) rfl rfl (Nat.le_of_ble_eq_true rfl) (Rm.mono hRm (by decide) (by decide)) ?_
  refine V_R (fun hR => ?_)
  refine V_aload_n (pc := 9) C (dk k_C_offer 5 rfl) rfl ?_
  refine V_getr (pc := 10) (o2 := 119) C (dk k_C_offer 6 rfl) fl_C_15 kq_117 (by decide) rfl (by decide) rfl ?_
  refine V_iload_n (pc := 13) C (dk k_C_offer 7 rfl) rfl ?_
  refine V_iload_n (pc := 14) C (dk k_C_offer 8 rfl) rfl ?_
  refine V_callS0 (pc := 15) C (dk k_C_offer 9 rfl) lk_C_24 cm_F_put sm_F_put (c_put _ _ _ (119) 8 t b kq_119 (by decide) ht0 (by omega) hb) rfl rfl (Nat.le_of_ble_eq_true rfl) (Rm.mono hRm (by decide) (by decide)) ?_
  refine V_R (fun hR => ?_)
  refine V_vret (pc := 18) C E (dk k_C_offer 10 rfl) ?_
  first | exact ⟨rfl, rfl⟩ | (refine ⟨?_, rfl⟩; first | (rw [if_pos (by omega)]; done) | (rw [if_neg (by omega)]; done))

def i_C_addUp : List (Nat × (Instr × Nat)) := [(0, (.aload_n 0, 1)), (1, (.getfield 18, 3)), (4, (.iconst 0, 1)), (5, (.iconst 0, 1)), (6, (.invokestatic 24, 3)), (9, (.aload_n 0, 1)), (10, (.getfield 21, 3)), (13, (.iconst 0, 1)), (14, (.iconst 0, 1)), (15, (.invokestatic 24, 3)), (18, (.iconst 0, 1)), (19, (.istore_n 2, 1)), (20, (.iload_n 2, 1)), (21, (.iload_n 1, 1)), (22, (.if_icmp .ge 92, 3)), (25, (.iload_n 2, 1)), (26, (.bipush 8, 2)), (28, (.if_icmp .ge 86, 3)), (31, (.iconst 1, 1)), (32, (.iload_n 2, 1)), (33, (.ishl, 1)), (34, (.istore_n 3, 1)), (35, (.iconst 0, 1)), (36, (.istore 4, 2)), (38, (.iload 4, 2)), (40, (.iload_n 3, 1)), (41, (.if_icmp .ge 67, 3)), (44, (.aload_n 0, 1)), (45, (.getfield 18, 3)), (48, (.iload_n 3, 1)), (49, (.iload 4, 2)), (51, (.iadd, 1)), (52, (.aload_n 0, 1)), (53, (.getfield 18, 3)), (56, (.iload 4, 2)), (58, (.invokestatic 38, 3)), (61, (.aload_n 0, 1)), (62, (.getfield 9, 3)), (65, (.iload_n 2, 1)), (66, (.invokestatic 38, 3)), (69, (.iadd, 1)), (70, (.invokestatic 24, 3)), (73, (.aload_n 0, 1)), (74, (.getfield 21, 3)), (77, (.iload_n 3, 1)), (78, (.iload 4, 2)), (80, (.iadd, 1)), (81, (.aload_n 0, 1)), (82, (.getfield 21, 3)), (85, (.iload 4, 2)), (87, (.invokestatic 38, 3)), (90, (.aload_n 0, 1)), (91, (.getfield 15, 3)), (94, (.iload_n 2, 1)), (95, (.invokestatic 38, 3)), (98, (.iadd, 1)), (99, (.invokestatic 24, 3)), (102, (.iinc 4 1, 3)), (105, (.goto (-67), 3)), (108, (.iinc 2 1, 3)), (111, (.goto (-91), 3)), (114, (.return_, 1))]
theorem k_C_addUp : i_C_addUp.all (fun q => decide (decode b_C_addUp q.1 = .ok q.2)) = true := by decide +kernel

set_option maxHeartbeats 1000000 in
set_option maxRecDepth 20000 in
theorem c_C_addUp (l : Launch) (G : GE) (σ : Wd) (n : Nat) (hn : n ≤ 8) (hb : ∀ t : Int, 0 ≤ t → t < n → (-1000 ≤ σ 118 t ∧ σ 118 t ≤ 1000) ∧ (-1000 ≤ σ 119 t ∧ σ 119 t ≤ 1000)) : Ct l G y_C_addUp b_C_addUp 5 (none) 1 22 [vR 117, vI (n : Int)] σ (Rt none (fun σ' => (∀ b : Nat, b < 2 ^ n → σ' 120 b = ssum (σ 118) n b ∧ σ' 121 b = ssum (σ 119) n b) ∧ ∀ k, k ≠ 120 → k ≠ 121 → σ' k = σ k)) := by
  refine Ct.of cm_C_addUp (Nat.le_of_ble_eq_true rfl) ?_
  intro X hXl hXG hXN hRm C E
  subst hXl; subst hXG
  show V X 0 [some (vR 117), some (vI (n : Int)), none, none, none] [] σ
  refine V_R (fun hR => ?_)
  refine V_aload_n (pc := 0) C (dk k_C_addUp 0 rfl) rfl ?_
  refine V_getr (pc := 1) (o2 := 120) C (dk k_C_addUp 1 rfl) fl_C_18 kq_117 (by decide) rfl (by decide) rfl ?_
  refine V_iconst (pc := 4) C (dk k_C_addUp 2 rfl) rfl ?_
  refine V_iconst (pc := 5) C (dk k_C_addUp 3 rfl) rfl ?_
  refine V_callS0 (pc := 6) C (dk k_C_addUp 4 rfl) lk_C_24 cm_F_put sm_F_put (c_put _ _ _ (120) 256 0 0 kq_120 (by decide) (by omega) (by omega) R0) rfl rfl (Nat.le_of_ble_eq_true rfl) (Rm.mono hRm (by decide) (by decide)) ?_
  refine V_R (fun hR => ?_)
  refine V_aload_n (pc := 9) C (dk k_C_addUp 5 rfl) rfl ?_
  refine V_getr (pc := 10) (o2 := 121) C (dk k_C_addUp 6 rfl) fl_C_21 kq_117 (by decide) rfl (by decide) rfl ?_
  refine V_iconst (pc := 13) C (dk k_C_addUp 7 rfl) rfl ?_
  refine V_iconst (pc := 14) C (dk k_C_addUp 8 rfl) rfl ?_
  refine V_callS0 (pc := 15) C (dk k_C_addUp 9 rfl) lk_C_24 cm_F_put sm_F_put (c_put _ _ _ (121) 256 0 0 kq_121 (by decide) (by omega) (by omega) R0) rfl rfl (Nat.le_of_ble_eq_true rfl) (Rm.mono hRm (by decide) (by decide)) ?_
  refine V_R (fun hR => ?_)
  refine V_iconst (pc := 18) C (dk k_C_addUp 10 rfl) rfl ?_
  refine V_istore_n (pc := 19) C (dk k_C_addUp 11 rfl) (by rw [hXN]; decide) ?_
  dsimp only [lst, lstL, lz, kill, Fin.val, Nat.reduceAdd]
  refine V_eq (V_loop (fun q : Nat × Wd => q.1 ≤ n ∧ (∀ b : Nat, b < 2 ^ q.1 → q.2 120 b = ssum (σ 118) q.1 b ∧ q.2 121 b = ssum (σ 119) q.1 b) ∧ ∀ k, k ≠ 120 → k ≠ 121 → q.2 k = σ k) (fun q => [some (vR 117), some (vI (n : Int)), some (vI (q.1 : Int)), none, none]) (fun q => q.2) (fun q => n - q.1) (fun q hq ih => ?_) (0, up (up σ 120 0 0) 121 0 0) ⟨Nat.zero_le _, fun b hb => ?_, fun k a b => ?_⟩) rfl rfl rfl
  rotate_left
  · obtain rfl : b = 0 := by have : b < 2 ^ 0 := hb; omega
    exact ⟨show up (up σ 120 0 0) 121 0 0 120 ((0 : Nat) : Int) = _ from (up_ne1 (up σ 120 0 0) (k := 121) (k2 := 120) 0 0 0 (by decide)).trans (up_at σ 120 0 0), show up (up σ 120 0 0) 121 0 0 121 ((0 : Nat) : Int) = _ from up_at _ 121 0 0⟩
  · exact (up_row _ _ _ b).trans (up_row _ _ _ a)
  obtain ⟨t, τ⟩ := q
  obtain ⟨ht, hs, hf⟩ := hq
  dsimp only at ht hs hf ih ⊢
  refine V_R (fun hR => ?_)
  have ⟨p0, p1⟩ := p2N (show t ≤ 8 by omega)
  refine V_iload_n (pc := 20) C (dk k_C_addUp 12 rfl) rfl ?_
  refine V_iload_n (pc := 21) C (dk k_C_addUp 13 rfl) rfl ?_
  refine V_icmpge (pc := 22) C (dk k_C_addUp 14 rfl) 114 rfl (by first | exact hR _ _ | with_reducible assumption | exact ⟨by omega, by omega⟩) (by first | exact hR _ _ | with_reducible assumption | exact ⟨by omega, by omega⟩) (fun h1 => ?_) (fun h1 => ?_)
  · skip
    refine V_vret (pc := 114) C E (dk k_C_addUp 61 rfl) ?_
    obtain rfl : t = n := by omega
    exact ⟨rfl, hs, hf⟩
  · skip
    refine V_iload_n (pc := 25) C (dk k_C_addUp 15 rfl) rfl ?_
    refine V_bipush (pc := 26) (n' := 8) C (dk k_C_addUp 16 rfl) rfl ?_
    refine V_icmpge (pc := 28) C (dk k_C_addUp 17 rfl) 114 rfl (by first | exact hR _ _ | with_reducible assumption | exact ⟨by omega, by omega⟩) (by first | exact hR _ _ | with_reducible assumption | exact ⟨by omega, by omega⟩) (fun h2 => ?_) (fun h2 => ?_)
    · skip
      refine V_vret (pc := 114) C E (dk k_C_addUp 61 rfl) ?_
      obtain rfl : t = n := by omega
      exact ⟨rfl, hs, hf⟩
    · skip
      refine V_iconst (pc := 31) C (dk k_C_addUp 18 rfl) rfl ?_
      refine V_iload_n (pc := 32) C (dk k_C_addUp 19 rfl) rfl ?_
      refine V_ishl (pc := 33) C (dk k_C_addUp 20 rfl) (by omega) (by omega) (by omega) (by rw [p2I]; omega) ?_
      rw [p2I]
      refine V_istore_n (pc := 34) C (dk k_C_addUp 21 rfl) (by rw [hXN]; decide) ?_
      dsimp only [lst, lstL, lz, kill, Fin.val, Nat.reduceAdd]
      refine V_iconst (pc := 35) C (dk k_C_addUp 22 rfl) rfl ?_
      refine V_istore (pc := 36) C (dk k_C_addUp 23 rfl) (by rw [hXN]; decide) ?_
      dsimp only [lst, lstL, lz, kill, Fin.val, Nat.reduceAdd]
      refine V_eq (V_loop (fun q : Nat × Wd => q.1 ≤ 2 ^ t ∧ (∀ c : Nat, c < 2 ^ t + q.1 → q.2 120 c = ssum (σ 118) (t + 1) c ∧ q.2 121 c = ssum (σ 119) (t + 1) c) ∧ ∀ k, k ≠ 120 → k ≠ 121 → q.2 k = σ k) (fun q => [some (vR 117), some (vI (n : Int)), some (vI (t : Int)), some (vI ((2 ^ t : Nat) : Int)), some (vI (q.1 : Int))]) (fun q => q.2) (fun q => 2 ^ t - q.1) (fun q hq ih2 => ?_) (0, τ) ⟨Nat.zero_le _, fun c hc => by rw [ssum_lo _ (by dsimp only at hc; omega), ssum_lo _ (by dsimp only at hc; omega)]; exact hs c (by dsimp only at hc; omega), hf⟩) rfl rfl rfl
      obtain ⟨b, ρ⟩ := q
      obtain ⟨hb2, hs2, hf2⟩ := hq
      dsimp only at hb2 hs2 hf2 ih2 ⊢
      refine V_R (fun hR => ?_)
      refine V_iload (pc := 38) C (dk k_C_addUp 24 rfl) rfl ?_
      refine V_iload_n (pc := 40) C (dk k_C_addUp 25 rfl) rfl ?_
      refine V_icmpge (pc := 41) C (dk k_C_addUp 26 rfl) 108 rfl (by first | exact hR _ _ | with_reducible assumption | exact ⟨by omega, by omega⟩) (by first | exact hR _ _ | with_reducible assumption | exact ⟨by omega, by omega⟩) (fun h3 => ?_) (fun h3 => ?_)
      · skip
        refine V_iinc (pc := 108) C (dk k_C_addUp 59 rfl) (by rw [hXN]; decide) rfl ?_
        dsimp only [lst, lstL, lz, kill, Fin.val, Nat.reduceAdd]
        refine V_goto (pc := 111) C (dk k_C_addUp 60 rfl) 20 rfl ?_
        refine V_fg 3 ?_
        dsimp only [fg]
        refine V_fg 4 ?_
        dsimp only [fg]
        obtain rfl : b = 2 ^ t := by omega
        refine ih (t + 1, ρ) ⟨by dsimp only; omega, fun c hc => hs2 c (by rw [Nat.pow_succ] at hc; omega), hf2⟩ (by dsimp only; omega)
      · skip
        have p4 : 2 ^ t * 2 ≤ 256 := by have := (p2N (show t + 1 ≤ 8 by omega)).2; rwa [Nat.pow_succ] at this
        obtain ⟨g1, g2⟩ := hs2 b (by omega)
        rw [ssum_lo _ (by omega)] at g1
        rw [ssum_lo _ (by omega)] at g2
        obtain ⟨⟨b1, b2⟩, b3, b4⟩ := hb t (by omega) (by omega)
        have ⟨c1, c2⟩ := ssum_b (σ 118) 1000 (by omega) t b (fun u a d => (hb u a (by omega)).1)
        have ⟨c3, c4⟩ := ssum_b (σ 119) 1000 (by omega) t b (fun u a d => (hb u a (by omega)).2)
        have r118 : ρ 118 = σ 118 := hf2 118 (by decide) (by decide)
        have r119 : ρ 119 = σ 119 := hf2 119 (by decide) (by decide)
        refine V_aload_n (pc := 44) C (dk k_C_addUp 27 rfl) rfl ?_
        refine V_getr (pc := 45) (o2 := 120) C (dk k_C_addUp 28 rfl) fl_C_18 kq_117 (by decide) rfl (by decide) rfl ?_
        refine V_iload_n (pc := 48) C (dk k_C_addUp 29 rfl) rfl ?_
        refine V_iload (pc := 49) C (dk k_C_addUp 30 rfl) rfl ?_
        refine V_iadd (pc := 51) C (dk k_C_addUp 31 rfl) ?_
        refine V_aload_n (pc := 52) C (dk k_C_addUp 32 rfl) rfl ?_
        refine V_getr (pc := 53) (o2 := 120) C (dk k_C_addUp 33 rfl) fl_C_18 kq_117 (by decide) rfl (by decide) rfl ?_
        refine V_iload (pc := 56) C (dk k_C_addUp 34 rfl) rfl ?_
        refine V_callS (pc := 58) C (dk k_C_addUp 35 rfl) lk_C_38 cm_F_at sm_F_at (c_at _ _ _ (120) 256 (b : Int) kq_120 (by decide) (by omega) (by omega)) rfl rfl (Nat.le_of_ble_eq_true rfl) (Rm.mono hRm (by decide) (by decide)) ?_
        refine V_aload_n (pc := 61) C (dk k_C_addUp 36 rfl) rfl ?_
        refine V_getr (pc := 62) (o2 := 118) C (dk k_C_addUp 37 rfl) fl_C_9 kq_117 (by decide) rfl (by decide) rfl ?_
        refine V_iload_n (pc := 65) C (dk k_C_addUp 38 rfl) rfl ?_
        refine V_callS (pc := 66) C (dk k_C_addUp 39 rfl) lk_C_38 cm_F_at sm_F_at (c_at _ _ _ (118) 8 (t : Int) kq_118 (by decide) (by omega) (by omega)) rfl rfl (Nat.le_of_ble_eq_true rfl) (Rm.mono hRm (by decide) (by decide)) ?_
        rw [g1, r118]
        refine V_iadd (pc := 69) C (dk k_C_addUp 40 rfl) ?_
        refine V_callS0 (pc := 70) C (dk k_C_addUp 41 rfl) lk_C_24 cm_F_put sm_F_put (c_put _ _ _ (120) 256 (((2 ^ t : Nat) : Int) + (b : Int)) (ssum (σ 118) t b + σ 118 t) kq_120 (by decide) (by omega) (by omega) ⟨by omega, by omega⟩) rfl rfl (Nat.le_of_ble_eq_true rfl) (Rm.mono hRm (by decide) (by decide)) ?_
        refine V_R (fun hR => ?_)
        refine V_aload_n (pc := 73) C (dk k_C_addUp 42 rfl) rfl ?_
        refine V_getr (pc := 74) (o2 := 121) C (dk k_C_addUp 43 rfl) fl_C_21 kq_117 (by decide) rfl (by decide) rfl ?_
        refine V_iload_n (pc := 77) C (dk k_C_addUp 44 rfl) rfl ?_
        refine V_iload (pc := 78) C (dk k_C_addUp 45 rfl) rfl ?_
        refine V_iadd (pc := 80) C (dk k_C_addUp 46 rfl) ?_
        refine V_aload_n (pc := 81) C (dk k_C_addUp 47 rfl) rfl ?_
        refine V_getr (pc := 82) (o2 := 121) C (dk k_C_addUp 48 rfl) fl_C_21 kq_117 (by decide) rfl (by decide) rfl ?_
        refine V_iload (pc := 85) C (dk k_C_addUp 49 rfl) rfl ?_
        refine V_callS (pc := 87) C (dk k_C_addUp 50 rfl) lk_C_38 cm_F_at sm_F_at (c_at _ _ _ (121) 256 (b : Int) kq_121 (by decide) (by omega) (by omega)) rfl rfl (Nat.le_of_ble_eq_true rfl) (Rm.mono hRm (by decide) (by decide)) ?_
        refine V_aload_n (pc := 90) C (dk k_C_addUp 51 rfl) rfl ?_
        refine V_getr (pc := 91) (o2 := 119) C (dk k_C_addUp 52 rfl) fl_C_15 kq_117 (by decide) rfl (by decide) rfl ?_
        refine V_iload_n (pc := 94) C (dk k_C_addUp 53 rfl) rfl ?_
        refine V_callS (pc := 95) C (dk k_C_addUp 54 rfl) lk_C_38 cm_F_at sm_F_at (c_at _ _ _ (119) 8 (t : Int) kq_119 (by decide) (by omega) (by omega)) rfl rfl (Nat.le_of_ble_eq_true rfl) (Rm.mono hRm (by decide) (by decide)) ?_
        rw [show up ρ 120 ((2 ^ t : Nat) + (b : Int)) (ssum (σ 118) t b + σ 118 t) 121 = ρ 121 from up_row _ _ _ (by decide), show up ρ 120 ((2 ^ t : Nat) + (b : Int)) (ssum (σ 118) t b + σ 118 t) 119 = ρ 119 from up_row _ _ _ (by decide), g2, r119]
        refine V_iadd (pc := 98) C (dk k_C_addUp 55 rfl) ?_
        refine V_callS0 (pc := 99) C (dk k_C_addUp 56 rfl) lk_C_24 cm_F_put sm_F_put (c_put _ _ _ (121) 256 (((2 ^ t : Nat) : Int) + (b : Int)) (ssum (σ 119) t b + σ 119 t) kq_121 (by decide) (by omega) (by omega) ⟨by omega, by omega⟩) rfl rfl (Nat.le_of_ble_eq_true rfl) (Rm.mono hRm (by decide) (by decide)) ?_
        refine V_R (fun hR => ?_)
        refine V_iinc (pc := 102) C (dk k_C_addUp 57 rfl) (by rw [hXN]; decide) rfl ?_
        dsimp only [lst, lstL, lz, kill, Fin.val, Nat.reduceAdd]
        refine V_goto (pc := 105) C (dk k_C_addUp 58 rfl) 38 rfl ?_
        refine ih2 (b + 1, up (up ρ 120 (((2 ^ t : Nat) : Int) + (b : Int)) (ssum (σ 118) t b + σ 118 t)) 121 (((2 ^ t : Nat) : Int) + (b : Int)) (ssum (σ 119) t b + σ 119 t)) ⟨by dsimp only; omega, fun c hc => ?_, fun k a d => (up_row _ _ _ d).trans ((up_row _ _ _ a).trans (hf2 k a d))⟩ (by dsimp only; omega)
        dsimp only at hc ⊢
        rw [up_ne1 (k := 121) (k2 := 120) _ _ _ _ (by decide)]
        by_cases hcb : c = 2 ^ t + b
        · rw [hcb, show ((2 ^ t + b : Nat) : Int) = ((2 ^ t : Nat) : Int) + (b : Int) by omega, up_at, up_at, ssum_hi _ (by omega), ssum_hi _ (by omega)]
          exact ⟨rfl, rfl⟩
        · simp (disch := omega) only [up_ne1, up_ne2]
          exact hs2 c (by omega)

/-- b is a set of allowed things, its price from least to most -/
def okset (al : Nat) (P : Nat → Int) (le mo : Int) (b : Nat) : Bool := decide (b - (b &&& al) = 0) && decide (le ≤ P b ∧ P b ≤ mo)
theorem fnd_s (ok : Nat → Bool) (W : Nat → Int) (i : Nat) : fnd ok W (i + 1) = match fnd ok W i with
    | none => if ok i then some (i, W i) else none
    | some (s, v) => if ok i && decide (v < W i) then some (i, W i) else some (s, v) := rfl
theorem fnd_no {ok : Nat → Bool} {W : Nat → Int} {i : Nat} (h : ok i = false) : fnd ok W (i + 1) = fnd ok W i := by
  rw [fnd_s, h]
  cases fnd ok W i with
  | none => rfl
  | some q => rfl
theorem fnd_le {ok : Nat → Bool} {W : Nat → Int} {i s : Nat} {v : Int} (h : fnd ok W i = some (s, v)) (h2 : ¬ v < W i) : fnd ok W (i + 1) = fnd ok W i := by
  rw [fnd_s, h]
  show (if (ok i && decide (v < W i)) = true then _ else _) = _
  rw [decide_eq_false h2, Bool.and_false]; rfl
theorem fnd_yes {ok : Nat → Bool} {W : Nat → Int} {i : Nat} (h : ok i = true) (h2 : ∀ s v, fnd ok W i = some (s, v) → v < W i) : fnd ok W (i + 1) = some (i, W i) := by
  rw [fnd_s]
  cases hc : fnd ok W i with
  | none => show (if ok i = true then _ else _) = _; rw [if_pos h]
  | some q =>
    obtain ⟨s, v⟩ := q
    show (if (ok i && decide (v < W i)) = true then _ else _) = _
    rw [h, decide_eq_true (h2 s v hc)]; rfl

def i_C_find : List (Nat × (Instr × Nat)) := [(0, (.aload_n 0, 1)), (1, (.iload_n 1, 1)), (2, (.invokevirtual 28, 3)), (5, (.iconst 0, 1)), (6, (.istore 5, 2)), (8, (.iconst 1, 1)), (9, (.iload_n 1, 1)), (10, (.bipush 8, 2)), (12, (.invokestatic 32, 3)), (15, (.ishl, 1)), (16, (.istore 6, 2)), (18, (.iconst 0, 1)), (19, (.istore 7, 2)), (21, (.iload 7, 2)), (23, (.iload 6, 2)), (25, (.if_icmp .ge 79, 3)), (28, (.iload 7, 2)), (30, (.iload_n 2, 1)), (31, (.iconst (-1), 1)), (32, (.ixor, 1)), (33, (.iand, 1)), (34, (.ifCond .ne 64, 3)), (37, (.aload_n 0, 1)), (38, (.getfield 18, 3)), (41, (.iload 7, 2)), (43, (.invokestatic 38, 3)), (46, (.iload_n 3, 1)), (47, (.iload 4, 2)), (49, (.invokestatic 42, 3)), (52, (.ifCond .eq 46, 3)), (55, (.iload 5, 2)), (57, (.ifCond .eq 19, 3)), (60, (.aload_n 0, 1)), (61, (.getfield 21, 3)), (64, (.iload 7, 2)), (66, (.invokestatic 38, 3)), (69, (.aload_n 0, 1)), (70, (.getfield 46, 3)), (73, (.if_icmp .le 25, 3)), (76, (.iconst 1, 1)), (77, (.istore 5, 2)), (79, (.aload_n 0, 1)), (80, (.iload 7, 2)), (82, (.putfield 50, 3)), (85, (.aload_n 0, 1)), (86, (.aload_n 0, 1)), (87, (.getfield 21, 3)), (90, (.iload 7, 2)), (92, (.invokestatic 38, 3)), (95, (.putfield 46, 3)), (98, (.iinc 7 1, 3)), (101, (.goto (-80), 3)), (104, (.iload 5, 2)), (106, (.ireturn, 1))]
theorem k_C_find : i_C_find.all (fun q => decide (decode b_C_find q.1 = .ok q.2)) = true := by decide +kernel

set_option maxHeartbeats 1000000 in
set_option maxRecDepth 20000 in
theorem c_C_find (l : Launch) (G : GE) (σ : Wd) (n al : Nat) (le mo : Int) (hn : n ≤ 8) (hal : al < 256) (hle : inR le) (hmo : inR mo) (hb : ∀ t : Int, 0 ≤ t → t < n → (-1000 ≤ σ 118 t ∧ σ 118 t ≤ 1000) ∧ (-1000 ≤ σ 119 t ∧ σ 119 t ≤ 1000)) : Ct l G y_C_find b_C_find 8 (some (.boolean)) 2 46 [vR 117, vI (n : Int), vI (al : Int), vI le, vI mo] σ (Rt (some (vI (if (fnd (okset al (ssum (σ 118) n) le mo) (ssum (σ 119) n) (2 ^ n)).isSome = true then 1 else 0))) (fun σ' => (∀ s v, fnd (okset al (ssum (σ 118) n) le mo) (ssum (σ 119) n) (2 ^ n) = some (s, v) → σ' 117 4 = s ∧ σ' 117 5 = v) ∧ ∀ k, (k < 117 ∨ 122 ≤ k) → σ' k = σ k)) := by
  refine Ct.of cm_C_find (Nat.le_of_ble_eq_true rfl) ?_
  intro X hXl hXG hXN hRm C E
  subst hXl; subst hXG
  have ⟨hle_1, hle_2⟩ := hle
  have ⟨hmo_1, hmo_2⟩ := hmo
  show V X 0 [some (vR 117), some (vI (n : Int)), some (vI (al : Int)), some (vI le), some (vI mo), none, none, none] [] σ
  refine V_R (fun hR => ?_)
  obtain ⟨F, hF⟩ : ∃ F, F = fnd (okset al (ssum (σ 118) n) le mo) (ssum (σ 119) n) := ⟨_, rfl⟩
  rw [← hF] at E
  have ⟨p0, p1⟩ := p2N hn
  refine V_aload_n (pc := 0) C (dk k_C_find 0 rfl) rfl ?_
  refine V_iload_n (pc := 1) C (dk k_C_find 1 rfl) rfl ?_
  refine V_callV0r (pc := 2) C (dk k_C_find 2 rfl) lk_C_28 cm_C_addUp vm_C_addUp (c_C_addUp _ _ _ n hn hb) kq_117 rfl rfl rfl (Nat.le_of_ble_eq_true rfl) (Rm.mono hRm (by decide) (by decide)) (fun τ1 hq1 => ?_)
  refine V_R (fun hR => ?_)
  obtain ⟨hs, hf⟩ := hq1
  refine V_iconst (pc := 5) C (dk k_C_find 3 rfl) rfl ?_
  refine V_istore (pc := 6) C (dk k_C_find 4 rfl) (by rw [hXN]; decide) ?_
  dsimp only [lst, lstL, lz, kill, Fin.val, Nat.reduceAdd]
  refine V_iconst (pc := 8) C (dk k_C_find 5 rfl) rfl ?_
  refine V_iload_n (pc := 9) C (dk k_C_find 6 rfl) rfl ?_
  refine V_bipush (pc := 10) (n' := 8) C (dk k_C_find 7 rfl) rfl ?_
  refine V_mmin (pc := 12) C (dk k_C_find 8 rfl) ml_C_32 (by first | exact ⟨by omega, by omega⟩ | assumption) (by first | exact ⟨by omega, by omega⟩ | assumption) (Nat.le_of_ble_eq_true rfl) (Rm.mono hRm (by decide) (by decide)) ?_
  rw [show min (n : Int) 8 = (n : Int) by omega]
  refine V_ishl (pc := 15) C (dk k_C_find 9 rfl) (by omega) (by omega) (by omega) (by rw [p2I]; omega) ?_
  rw [p2I]
  refine V_istore (pc := 16) C (dk k_C_find 10 rfl) (by rw [hXN]; decide) ?_
  dsimp only [lst, lstL, lz, kill, Fin.val, Nat.reduceAdd]
  refine V_iconst (pc := 18) C (dk k_C_find 11 rfl) rfl ?_
  refine V_istore (pc := 19) C (dk k_C_find 12 rfl) (by rw [hXN]; decide) ?_
  dsimp only [lst, lstL, lz, kill, Fin.val, Nat.reduceAdd]
  have h00 : ∀ (s : Nat) (v : Int), F 0 = some (s, v) → τ1 117 4 = s ∧ τ1 117 5 = v := fun s v h => by rw [hF] at h; cases h
  refine V_eq (V_loop (fun q : Nat × Wd => q.1 ≤ 2 ^ n ∧ (∀ (s : Nat) (v : Int), F q.1 = some (s, v) → q.2 117 4 = s ∧ q.2 117 5 = v) ∧ ∀ k, k ≠ 117 → q.2 k = τ1 k) (fun q => [some (vR 117), some (vI (n : Int)), some (vI (al : Int)), some (vI le), some (vI mo), some (vI (if (F q.1).isSome = true then 1 else 0)), some (vI ((2 ^ n : Nat) : Int)), some (vI (q.1 : Int))]) (fun q => q.2) (fun q => 2 ^ n - q.1) (fun q hq ih => ?_) (0, τ1) ⟨Nat.zero_le _, h00, fun _ _ => rfl⟩) (by rw [hF]; rfl) rfl rfl
  obtain ⟨i, τ⟩ := q
  obtain ⟨hi, hv, hg⟩ := hq
  dsimp only at hi hv hg ih ⊢
  refine V_R (fun hR => ?_)
  refine V_iload (pc := 21) C (dk k_C_find 13 rfl) rfl ?_
  refine V_iload (pc := 23) C (dk k_C_find 14 rfl) rfl ?_
  refine V_icmpge (pc := 25) C (dk k_C_find 15 rfl) 104 rfl (by first | exact hR _ _ | with_reducible assumption | exact ⟨by omega, by omega⟩) (by first | exact hR _ _ | with_reducible assumption | exact ⟨by omega, by omega⟩) (fun h1 => ?_) (fun h1 => ?_)
  · skip
    refine V_iload (pc := 104) C (dk k_C_find 52 rfl) rfl ?_
    refine V_zret (pc := 106) C (by first | exact Or.inl rfl | exact Or.inr rfl | (split <;> first | exact Or.inl rfl | exact Or.inr rfl) | omega) E (dk k_C_find 53 rfl) ?_
    obtain rfl : i = 2 ^ n := by omega
    exact ⟨rfl, hv, fun k a => (hg k (by omega)).trans (hf k (by omega) (by omega))⟩
  · skip
    obtain ⟨s1, s2⟩ := hs i (by omega)
    have ⟨c1, c2⟩ := ssum_b (σ 118) 1000 (by omega) n i (fun u a d => (hb u a (by omega)).1)
    have ⟨c3, c4⟩ := ssum_b (σ 119) 1000 (by omega) n i (fun u a d => (hb u a (by omega)).2)
    have r120 : τ 120 = τ1 120 := hg 120 (by decide)
    have r121 : τ 121 = τ1 121 := hg 121 (by decide)
    have an : (i &&& al) ≤ i := Nat.and_le_left
    refine V_iload (pc := 28) C (dk k_C_find 16 rfl) rfl ?_
    refine V_iload_n (pc := 30) C (dk k_C_find 17 rfl) rfl ?_
    refine V_iconst (pc := 31) C (dk k_C_find 18 rfl) rfl ?_
    refine V_ixm1 (pc := 32) C (dk k_C_find 19 rfl) ?_
    refine V_iandn (pc := 33) C (dk k_C_find 20 rfl) ⟨by omega, by omega⟩ ⟨by omega, by omega⟩ (by omega) (by omega) ?_
    rw [Int.toNat_natCast, Int.toNat_natCast]
    refine V_ifne (pc := 34) C (dk k_C_find 21 rfl) 98 rfl (by first | exact hR _ _ | with_reducible assumption | exact ⟨by omega, by omega⟩) (fun h2 => ?_) (fun h2 => ?_)
    · skip
      refine V_iinc (pc := 98) C (dk k_C_find 50 rfl) (by rw [hXN]; decide) rfl ?_
      dsimp only [lst, lstL, lz, kill, Fin.val, Nat.reduceAdd]
      refine V_goto (pc := 101) C (dk k_C_find 51 rfl) 21 rfl ?_
      first | (have hz : F (i + 1) = F i := by (rw [hF]; first | exact fnd_no (by unfold okset; rw [Bool.and_eq_false_iff, decide_eq_false_iff_not, decide_eq_false_iff_not]; omega) | exact fnd_le (by rw [← hF]; exact hsv) (by omega)))  | (have hz : F (i + 1) = some (i, ssum (σ 119) n i) := by (rw [hF]; exact fnd_yes (by unfold okset; rw [Bool.and_eq_true, decide_eq_true_iff, decide_eq_true_iff]; omega) (by rw [← hF]; exact hy)))
      first | (refine V_eq (ih (i + 1, τ) ⟨by dsimp only; omega, fun s v h => hv s v (by rw [← hz]; exact h), hg⟩ (by dsimp only; omega)) ?_ rfl rfl; rw [hz]; rfl) | (refine V_eq (ih (i + 1, up (up τ 117 4 i) 117 5 (ssum (σ 119) n i)) ⟨by dsimp only; omega, fun s v h => ?_, fun k a => (up_row _ _ _ a).trans ((up_row _ _ _ a).trans (hg k a))⟩ (by dsimp only; omega)) ?_ rfl rfl; (dsimp only at h ⊢; rw [hz] at h; cases h; exact ⟨by rw [up_ne2 _ (by decide), up_at], up_at _ _ _ _⟩); (rw [hz]; rfl))
    · skip
      refine V_aload_n (pc := 37) C (dk k_C_find 22 rfl) rfl ?_
      refine V_getr (pc := 38) (o2 := 120) C (dk k_C_find 23 rfl) fl_C_18 kq_117 (by decide) rfl (by decide) rfl ?_
      refine V_iload (pc := 41) C (dk k_C_find 24 rfl) rfl ?_
      refine V_callS (pc := 43) C (dk k_C_find 25 rfl) lk_C_38 cm_F_at sm_F_at (c_at _ _ _ (120) 256 (i : Int) kq_120 (by decide) (by omega) (by omega)) rfl rfl (Nat.le_of_ble_eq_true rfl) (Rm.mono hRm (by decide) (by decide)) ?_
      rw [r120, s1]
      refine V_iload_n (pc := 46) C (dk k_C_find 26 rfl) rfl ?_
      refine V_iload (pc := 47) C (dk k_C_find 27 rfl) rfl ?_
      refine V_callS (pc := 49) C (dk k_C_find 28 rfl) lk_C_42 cm_F_within sm_F_within (c_F_within _ _ _ (ssum (σ 118) n i) le mo ⟨by omega, by omega⟩ hle hmo) rfl rfl (Nat.le_of_ble_eq_true rfl) (Rm.mono hRm (by decide) (by decide)) ?_
      refine V_ifeqB (pc := 52) C (dk k_C_find 29 rfl) 98 rfl (fun h3 => ?_) (fun h3 => ?_)
      · skip
        refine V_iinc (pc := 98) C (dk k_C_find 50 rfl) (by rw [hXN]; decide) rfl ?_
        dsimp only [lst, lstL, lz, kill, Fin.val, Nat.reduceAdd]
        refine V_goto (pc := 101) C (dk k_C_find 51 rfl) 21 rfl ?_
        first | (have hz : F (i + 1) = F i := by (rw [hF]; first | exact fnd_no (by unfold okset; rw [Bool.and_eq_false_iff, decide_eq_false_iff_not, decide_eq_false_iff_not]; omega) | exact fnd_le (by rw [← hF]; exact hsv) (by omega)))  | (have hz : F (i + 1) = some (i, ssum (σ 119) n i) := by (rw [hF]; exact fnd_yes (by unfold okset; rw [Bool.and_eq_true, decide_eq_true_iff, decide_eq_true_iff]; omega) (by rw [← hF]; exact hy)))
        first | (refine V_eq (ih (i + 1, τ) ⟨by dsimp only; omega, fun s v h => hv s v (by rw [← hz]; exact h), hg⟩ (by dsimp only; omega)) ?_ rfl rfl; rw [hz]; rfl) | (refine V_eq (ih (i + 1, up (up τ 117 4 i) 117 5 (ssum (σ 119) n i)) ⟨by dsimp only; omega, fun s v h => ?_, fun k a => (up_row _ _ _ a).trans ((up_row _ _ _ a).trans (hg k a))⟩ (by dsimp only; omega)) ?_ rfl rfl; (dsimp only at h ⊢; rw [hz] at h; cases h; exact ⟨by rw [up_ne2 _ (by decide), up_at], up_at _ _ _ _⟩); (rw [hz]; rfl))
      · skip
        refine V_iload (pc := 55) C (dk k_C_find 30 rfl) rfl ?_
        refine V_ifeqB (pc := 57) C (dk k_C_find 31 rfl) 76 rfl (fun h4 => ?_) (fun h4 => ?_)
        · skip
          have hy : ∀ s v, F i = some (s, v) → v < ssum (σ 119) n i := by first | exact (fun s v h => absurd (by rw [h]; rfl) h4) | exact (fun s v h => by rw [hsv] at h; cases h; omega)
          refine V_iconst (pc := 76) C (dk k_C_find 39 rfl) rfl ?_
          refine V_istore (pc := 77) C (dk k_C_find 40 rfl) (by rw [hXN]; decide) ?_
          dsimp only [lst, lstL, lz, kill, Fin.val, Nat.reduceAdd]
          refine V_aload_n (pc := 79) C (dk k_C_find 41 rfl) rfl ?_
          refine V_iload (pc := 80) C (dk k_C_find 42 rfl) rfl ?_
          refine V_puti (pc := 82) (ji := 4) C (dk k_C_find 43 rfl) fl_C_50 fw_0_4 kq_117 (by decide) rfl rfl (by first | exact hR _ _ | with_reducible assumption | exact ⟨by omega, by omega⟩) ?_
          refine V_R (fun hR => ?_)
          refine V_aload_n (pc := 85) C (dk k_C_find 44 rfl) rfl ?_
          refine V_aload_n (pc := 86) C (dk k_C_find 45 rfl) rfl ?_
          refine V_getr (pc := 87) (o2 := 121) C (dk k_C_find 46 rfl) fl_C_21 kq_117 (by decide) rfl (by decide) rfl ?_
          refine V_iload (pc := 90) C (dk k_C_find 47 rfl) rfl ?_
          refine V_callS (pc := 92) C (dk k_C_find 48 rfl) lk_C_38 cm_F_at sm_F_at (c_at _ _ _ (121) 256 (i : Int) kq_121 (by decide) (by omega) (by omega)) rfl rfl (Nat.le_of_ble_eq_true rfl) (Rm.mono hRm (by decide) (by decide)) ?_
          rw [show up τ 117 4 (i : Int) 121 = τ 121 from up_row _ _ _ (by decide), r121, s2]
          refine V_puti (pc := 95) (ji := 5) C (dk k_C_find 49 rfl) fl_C_46 fw_0_5 kq_117 (by decide) rfl rfl (by first | exact hR _ _ | with_reducible assumption | exact ⟨by omega, by omega⟩) ?_
          refine V_R (fun hR => ?_)
          refine V_iinc (pc := 98) C (dk k_C_find 50 rfl) (by rw [hXN]; decide) rfl ?_
          dsimp only [lst, lstL, lz, kill, Fin.val, Nat.reduceAdd]
          refine V_goto (pc := 101) C (dk k_C_find 51 rfl) 21 rfl ?_
          first | (have hz : F (i + 1) = F i := by (rw [hF]; first | exact fnd_no (by unfold okset; rw [Bool.and_eq_false_iff, decide_eq_false_iff_not, decide_eq_false_iff_not]; omega) | exact fnd_le (by rw [← hF]; exact hsv) (by omega)))  | (have hz : F (i + 1) = some (i, ssum (σ 119) n i) := by (rw [hF]; exact fnd_yes (by unfold okset; rw [Bool.and_eq_true, decide_eq_true_iff, decide_eq_true_iff]; omega) (by rw [← hF]; exact hy)))
          first | (refine V_eq (ih (i + 1, τ) ⟨by dsimp only; omega, fun s v h => hv s v (by rw [← hz]; exact h), hg⟩ (by dsimp only; omega)) ?_ rfl rfl; rw [hz]; rfl) | (refine V_eq (ih (i + 1, up (up τ 117 4 i) 117 5 (ssum (σ 119) n i)) ⟨by dsimp only; omega, fun s v h => ?_, fun k a => (up_row _ _ _ a).trans ((up_row _ _ _ a).trans (hg k a))⟩ (by dsimp only; omega)) ?_ rfl rfl; (dsimp only at h ⊢; rw [hz] at h; cases h; exact ⟨by rw [up_ne2 _ (by decide), up_at], up_at _ _ _ _⟩); (rw [hz]; rfl))
        · skip
          obtain ⟨⟨s0, v0⟩, hsv⟩ := Option.isSome_iff_exists.mp h4
          obtain ⟨v1, v2⟩ := hv s0 v0 hsv
          refine V_aload_n (pc := 60) C (dk k_C_find 32 rfl) rfl ?_
          refine V_getr (pc := 61) (o2 := 121) C (dk k_C_find 33 rfl) fl_C_21 kq_117 (by decide) rfl (by decide) rfl ?_
          refine V_iload (pc := 64) C (dk k_C_find 34 rfl) rfl ?_
          refine V_callS (pc := 66) C (dk k_C_find 35 rfl) lk_C_38 cm_F_at sm_F_at (c_at _ _ _ (121) 256 (i : Int) kq_121 (by decide) (by omega) (by omega)) rfl rfl (Nat.le_of_ble_eq_true rfl) (Rm.mono hRm (by decide) (by decide)) ?_
          rw [r121, s2]
          refine V_aload_n (pc := 69) C (dk k_C_find 36 rfl) rfl ?_
          refine V_geti (pc := 70) (ji := 5) C (dk k_C_find 37 rfl) fl_C_46 kq_117 (by decide) rfl rfl ?_
          refine V_icmple (pc := 73) C (dk k_C_find 38 rfl) 98 rfl (by first | exact hR _ _ | with_reducible assumption | exact ⟨by omega, by omega⟩) (by first | exact hR _ _ | with_reducible assumption | exact ⟨by omega, by omega⟩) (fun h5 => ?_) (fun h5 => ?_)
          · skip
            refine V_iinc (pc := 98) C (dk k_C_find 50 rfl) (by rw [hXN]; decide) rfl ?_
            dsimp only [lst, lstL, lz, kill, Fin.val, Nat.reduceAdd]
            refine V_goto (pc := 101) C (dk k_C_find 51 rfl) 21 rfl ?_
            first | (have hz : F (i + 1) = F i := by (rw [hF]; first | exact fnd_no (by unfold okset; rw [Bool.and_eq_false_iff, decide_eq_false_iff_not, decide_eq_false_iff_not]; omega) | exact fnd_le (by rw [← hF]; exact hsv) (by omega)))  | (have hz : F (i + 1) = some (i, ssum (σ 119) n i) := by (rw [hF]; exact fnd_yes (by unfold okset; rw [Bool.and_eq_true, decide_eq_true_iff, decide_eq_true_iff]; omega) (by rw [← hF]; exact hy)))
            first | (refine V_eq (ih (i + 1, τ) ⟨by dsimp only; omega, fun s v h => hv s v (by rw [← hz]; exact h), hg⟩ (by dsimp only; omega)) ?_ rfl rfl; rw [hz]; rfl) | (refine V_eq (ih (i + 1, up (up τ 117 4 i) 117 5 (ssum (σ 119) n i)) ⟨by dsimp only; omega, fun s v h => ?_, fun k a => (up_row _ _ _ a).trans ((up_row _ _ _ a).trans (hg k a))⟩ (by dsimp only; omega)) ?_ rfl rfl; (dsimp only at h ⊢; rw [hz] at h; cases h; exact ⟨by rw [up_ne2 _ (by decide), up_at], up_at _ _ _ _⟩); (rw [hz]; rfl))
          · skip
            have hy : ∀ s v, F i = some (s, v) → v < ssum (σ 119) n i := by first | exact (fun s v h => absurd (by rw [h]; rfl) h4) | exact (fun s v h => by rw [hsv] at h; cases h; omega)
            refine V_iconst (pc := 76) C (dk k_C_find 39 rfl) rfl ?_
            refine V_istore (pc := 77) C (dk k_C_find 40 rfl) (by rw [hXN]; decide) ?_
            dsimp only [lst, lstL, lz, kill, Fin.val, Nat.reduceAdd]
            refine V_aload_n (pc := 79) C (dk k_C_find 41 rfl) rfl ?_
            refine V_iload (pc := 80) C (dk k_C_find 42 rfl) rfl ?_
            refine V_puti (pc := 82) (ji := 4) C (dk k_C_find 43 rfl) fl_C_50 fw_0_4 kq_117 (by decide) rfl rfl (by first | exact hR _ _ | with_reducible assumption | exact ⟨by omega, by omega⟩) ?_
            refine V_R (fun hR => ?_)
            refine V_aload_n (pc := 85) C (dk k_C_find 44 rfl) rfl ?_
            refine V_aload_n (pc := 86) C (dk k_C_find 45 rfl) rfl ?_
            refine V_getr (pc := 87) (o2 := 121) C (dk k_C_find 46 rfl) fl_C_21 kq_117 (by decide) rfl (by decide) rfl ?_
            refine V_iload (pc := 90) C (dk k_C_find 47 rfl) rfl ?_
            refine V_callS (pc := 92) C (dk k_C_find 48 rfl) lk_C_38 cm_F_at sm_F_at (c_at _ _ _ (121) 256 (i : Int) kq_121 (by decide) (by omega) (by omega)) rfl rfl (Nat.le_of_ble_eq_true rfl) (Rm.mono hRm (by decide) (by decide)) ?_
            rw [show up τ 117 4 (i : Int) 121 = τ 121 from up_row _ _ _ (by decide), r121, s2]
            refine V_puti (pc := 95) (ji := 5) C (dk k_C_find 49 rfl) fl_C_46 fw_0_5 kq_117 (by decide) rfl rfl (by first | exact hR _ _ | with_reducible assumption | exact ⟨by omega, by omega⟩) ?_
            refine V_R (fun hR => ?_)
            refine V_iinc (pc := 98) C (dk k_C_find 50 rfl) (by rw [hXN]; decide) rfl ?_
            dsimp only [lst, lstL, lz, kill, Fin.val, Nat.reduceAdd]
            refine V_goto (pc := 101) C (dk k_C_find 51 rfl) 21 rfl ?_
            first | (have hz : F (i + 1) = F i := by (rw [hF]; first | exact fnd_no (by unfold okset; rw [Bool.and_eq_false_iff, decide_eq_false_iff_not, decide_eq_false_iff_not]; omega) | exact fnd_le (by rw [← hF]; exact hsv) (by omega)))  | (have hz : F (i + 1) = some (i, ssum (σ 119) n i) := by (rw [hF]; exact fnd_yes (by unfold okset; rw [Bool.and_eq_true, decide_eq_true_iff, decide_eq_true_iff]; omega) (by rw [← hF]; exact hy)))
            first | (refine V_eq (ih (i + 1, τ) ⟨by dsimp only; omega, fun s v h => hv s v (by rw [← hz]; exact h), hg⟩ (by dsimp only; omega)) ?_ rfl rfl; rw [hz]; rfl) | (refine V_eq (ih (i + 1, up (up τ 117 4 i) 117 5 (ssum (σ 119) n i)) ⟨by dsimp only; omega, fun s v h => ?_, fun k a => (up_row _ _ _ a).trans ((up_row _ _ _ a).trans (hg k a))⟩ (by dsimp only; omega)) ?_ rfl rfl; (dsimp only at h ⊢; rw [hz] at h; cases h; exact ⟨by rw [up_ne2 _ (by decide), up_at], up_at _ _ _ _⟩); (rw [hz]; rfl))
end
section
def sumC (π : PL) (x : ST) (p : Int) : Int → Bool := fun t => decide (pO π t = p ∧ sP x t = 0 ∧ pL π ≤ sN x t)
def takC (π : PL) (x : ST) : Int → Bool := fun t => decide (sP x t = 0 ∧ pL π ≤ sN x t)
def come (π : PL) (x : ST) (n t : Int) : Int := cel (pK π t) (sN x t) (sD x) n.toNat
def sumF (π : PL) (x : ST) (p m : Int) : Option (Nat × Int) := fnd (okset (bs (sumC π x p) (pN π)).toNat (ssum (prc π x) (pN π)) m (sM x)) (ssum (fun t => -(pU π t)) (pN π)) (2 ^ pN π)
def takF (π : PL) (x : ST) (n : Int) : Option (Nat × Int) := fnd (okset (bs (takC π x) (pN π)).toNat (ssum (prc π x) (pN π)) 0 (sM x)) (ssum (come π x n) (pN π)) (2 ^ pN π)
def there (π : PL) (x : ST) (n : Int) (i : Nat) : Int := sm (fun t => if sP x t = 1 then come π x n t else 0) i
def o_sum (π : PL) (x : ST) (p m k : Int) : Int := if isP π p ∧ (0 ≤ m ∧ m ≤ 999) ∧ (0 ≤ k ∧ k ≤ 1) then (match sumF π x p m with
  | none => -4
  | some (s, v) => if k = 0 then (s : Int) else -v) else -1
def o_take (π : PL) (x : ST) (n k : Int) : Int := if (0 ≤ n ∧ n ≤ 20) ∧ (0 ≤ k ∧ k ≤ 1) then (match takF π x n with
  | none => if k = 0 then 0 else there π x n (pN π)
  | some (s, v) => if k = 0 then (s : Int) else there π x n (pN π) + v) else -1
theorem ssum_e (f g : Int → Int) (n : Nat) (h : ∀ t : Int, 0 ≤ t → t < n → f t = g t) : ssum f n = ssum g n := funext (fun b => ssum_cg f g n b h)

def i_F_sum : List (Nat × (Instr × Nat)) := [(0, (.aload_n 0, 1)), (1, (.iload_n 1, 1)), (2, (.invokevirtual 109, 3)), (5, (.ifCond .eq 23, 3)), (8, (.iload_n 2, 1)), (9, (.iconst 0, 1)), (10, (.sipush 999, 3)), (13, (.invokestatic 98, 3)), (16, (.ifCond .eq 12, 3)), (19, (.iload_n 3, 1)), (20, (.iconst 0, 1)), (21, (.iconst 1, 1)), (22, (.invokestatic 98, 3)), (25, (.ifCond .ne 5, 3)), (28, (.iconst (-1), 1)), (29, (.ireturn, 1)), (30, (.iconst 0, 1)), (31, (.istore 4, 2)), (33, (.iconst 0, 1)), (34, (.istore 5, 2)), (36, (.iload 5, 2)), (38, (.aload_n 0, 1)), (39, (.getfield 26, 3)), (42, (.getfield 196, 3)), (45, (.if_icmp .ge 85, 3)), (48, (.aload_n 0, 1)), (49, (.getfield 26, 3)), (52, (.getfield 131, 3)), (55, (.iload 5, 2)), (57, (.invokestatic 117, 3)), (60, (.iload_n 1, 1)), (61, (.if_icmp .ne 28, 3)), (64, (.aload_n 0, 1)), (65, (.getfield 36, 3)), (68, (.aload_n 0, 1)), (69, (.getfield 26, 3)), (72, (.iload 5, 2)), (74, (.invokevirtual 199, 3)), (77, (.ifCond .eq 12, 3)), (80, (.iload 4, 2)), (82, (.iconst 1, 1)), (83, (.iload 5, 2)), (85, (.ishl, 1)), (86, (.ior, 1)), (87, (.istore 4, 2)), (89, (.aload_n 0, 1)), (90, (.getfield 63, 3)), (93, (.iload 5, 2)), (95, (.aload_n 0, 1)), (96, (.getfield 36, 3)), (99, (.aload_n 0, 1)), (100, (.getfield 26, 3)), (103, (.iload 5, 2)), (105, (.invokevirtual 146, 3)), (108, (.aload_n 0, 1)), (109, (.getfield 26, 3)), (112, (.getfield 140, 3)), (115, (.iload 5, 2)), (117, (.invokestatic 117, 3)), (120, (.ineg, 1)), (121, (.invokevirtual 202, 3)), (124, (.iinc 5 1, 3)), (127, (.goto (-91), 3)), (130, (.aload_n 0, 1)), (131, (.getfield 63, 3)), (134, (.aload_n 0, 1)), (135, (.getfield 26, 3)), (138, (.getfield 196, 3)), (141, (.iload 4, 2)), (143, (.iload_n 2, 1)), (144, (.aload_n 0, 1)), (145, (.getfield 36, 3)), (148, (.getfield 206, 3)), (151, (.invokevirtual 209, 3)), (154, (.ifCond .ne 6, 3)), (157, (.bipush (-4), 2)), (159, (.ireturn, 1)), (160, (.iload_n 3, 1)), (161, (.ifCond .ne 13, 3)), (164, (.aload_n 0, 1)), (165, (.getfield 63, 3)), (168, (.getfield 213, 3)), (171, (.goto 11, 3)), (174, (.aload_n 0, 1)), (175, (.getfield 63, 3)), (178, (.getfield 216, 3)), (181, (.ineg, 1)), (182, (.ireturn, 1))]
theorem k_F_sum : i_F_sum.all (fun q => decide (decode b_F_sum q.1 = .ok q.2)) = true := by decide +kernel

set_option maxHeartbeats 1000000 in
set_option maxRecDepth 20000 in
theorem c_F_sum (l : Launch) (G : GE) (σ : Wd) (pl sp : Nat) (π : PL) (x : ST) (us ks : List ST) (lk : List (Int × (Int × Int))) (tx : List Int) (j : Int) (hC : CR σ pl sp π x us ks lk tx) (hV : VK π x us ks j) (hj : j ≤ 100) (p m k : Int) (hp : inR p) (hm : inR m) (hk : inR k) : Ct l G y_F_sum b_F_sum 6 (some (.int)) 3 73 [vR 0, vI p, vI m, vI k] σ (Rt (some (vI (o_sum π x p m k))) (fun σ' => CR σ' pl sp π x us ks lk tx ∧ Fc σ σ')) := by
  refine Ct.of cm_F_sum (Nat.le_of_ble_eq_true rfl) ?_
  intro X hXl hXG hXN hRm C E
  subst hXl; subst hXG
  have ⟨hp_1, hp_2⟩ := hp
  have ⟨hm_1, hm_2⟩ := hm
  have ⟨hk_1, hk_2⟩ := hk
  show V X 0 [some (vR 0), some (vI p), some (vI m), some (vI k), none, none] [] σ
  refine V_R (fun hR => ?_)
  obtain ⟨hF, hsp0, hsp, hne, hx, hU, hK, hl, hT⟩ := id hC
  obtain ⟨ok, xk, usk, ksk, ks2⟩ := id hV
  have hF0 := hF
  obtain ⟨hm_pl, hπ⟩ := hF
  have hπ0 := hπ
  obtain ⟨hpl, e0, e2, e7, e10, eT, eX⟩ := hπ
  obtain ⟨hpl_1, hpl_2, hpl_3, hpl_4, hpl_5, hpl_6⟩ := kd_P hpl
  have ⟨k1, k2, k3, k4, k5, k6, kT, kX⟩ := ok
  have hx0 := hx
  obtain ⟨hs, f0, f1, fQ, fT⟩ := hx
  simp only [Nat.reduceAdd] at fQ fT
  have ⟨x1, x2, x3, x4, xQ, xT⟩ := xk
  have p512 := kd5 hpl
  have s512 := kd5 hsp
  refine V_aload_n (pc := 0) C (dk k_F_sum 0 rfl) rfl ?_
  refine V_iload_n (pc := 1) C (dk k_F_sum 1 rfl) rfl ?_
  refine V_callV (pc := 2) C (dk k_F_sum 2 rfl) lk_F_109 cm_F_isPerson vm_F_isPerson (c_F_isPerson _ _ _ pl π p hF0 ok hp) kq_0 rfl rfl rfl (Nat.le_of_ble_eq_true rfl) (Rm.mono hRm (by decide) (by decide)) ?_
  refine V_ifeqB (pc := 5) C (dk k_F_sum 3 rfl) 28 rfl (fun h1 => ?_) (fun h1 => ?_)
  · skip
    refine V_iconst (pc := 28) C (dk k_F_sum 14 rfl) rfl ?_
    refine V_iret (pc := 29) C E (dk k_F_sum 15 rfl) ?_
    rw [show o_sum π x p m k = -1 from if_neg (by omega)]
    exact ⟨rfl, hC, Fc.rf σ⟩
  · skip
    refine V_iload_n (pc := 8) C (dk k_F_sum 4 rfl) rfl ?_
    refine V_iconst (pc := 9) C (dk k_F_sum 5 rfl) rfl ?_
    refine V_sipush (pc := 10) (n' := 999) C (dk k_F_sum 6 rfl) rfl ?_
    refine V_callS (pc := 13) C (dk k_F_sum 7 rfl) lk_F_98 cm_F_within sm_F_within (c_F_within _ _ _ m 0 999 hm ⟨by decide, by decide⟩ ⟨by decide, by decide⟩) rfl rfl (Nat.le_of_ble_eq_true rfl) (Rm.mono hRm (by decide) (by decide)) ?_
    refine V_ifeqB (pc := 16) C (dk k_F_sum 8 rfl) 28 rfl (fun h2 => ?_) (fun h2 => ?_)
    · skip
      refine V_iconst (pc := 28) C (dk k_F_sum 14 rfl) rfl ?_
      refine V_iret (pc := 29) C E (dk k_F_sum 15 rfl) ?_
      rw [show o_sum π x p m k = -1 from if_neg (by omega)]
      exact ⟨rfl, hC, Fc.rf σ⟩
    · skip
      refine V_iload_n (pc := 19) C (dk k_F_sum 9 rfl) rfl ?_
      refine V_iconst (pc := 20) C (dk k_F_sum 10 rfl) rfl ?_
      refine V_iconst (pc := 21) C (dk k_F_sum 11 rfl) rfl ?_
      refine V_callS (pc := 22) C (dk k_F_sum 12 rfl) lk_F_98 cm_F_within sm_F_within (c_F_within _ _ _ k 0 1 hk ⟨by decide, by decide⟩ ⟨by decide, by decide⟩) rfl rfl (Nat.le_of_ble_eq_true rfl) (Rm.mono hRm (by decide) (by decide)) ?_
      refine V_ifneB (pc := 25) C (dk k_F_sum 13 rfl) 30 rfl (fun h3 => ?_) (fun h3 => ?_)
      · skip
        refine V_iconst (pc := 30) C (dk k_F_sum 16 rfl) rfl ?_
        refine V_istore (pc := 31) C (dk k_F_sum 17 rfl) (by rw [hXN]; decide) ?_
        dsimp only [lst, lstL, lz, kill, Fin.val, Nat.reduceAdd]
        refine V_iconst (pc := 33) C (dk k_F_sum 18 rfl) rfl ?_
        refine V_istore (pc := 34) C (dk k_F_sum 19 rfl) (by rw [hXN]; decide) ?_
        dsimp only [lst, lstL, lz, kill, Fin.val, Nat.reduceAdd]
        refine V_eq (V_loop (fun q : Nat × Wd => q.1 ≤ pN π ∧ (∀ t : Int, 0 ≤ t → t < q.1 → q.2 118 t = prc π x t ∧ q.2 119 t = -(pU π t)) ∧ Fr 118 2 σ q.2) (fun q => [some (vR 0), some (vI p), some (vI m), some (vI k), some (vI (bs (sumC π x p) q.1)), some (vI (q.1 : Int))]) (fun q => q.2) (fun q => pN π - q.1) (fun q hq ih => ?_) (0, σ) ⟨Nat.zero_le _, fun t a b => by dsimp only at b; omega, Fr.rf _ _ _⟩) rfl rfl rfl
        obtain ⟨i, τ⟩ := q
        obtain ⟨hi, hv, tfr⟩ := hq
        dsimp only at hi hv tfr ih ⊢
        refine V_R (fun hR => ?_)
        have hb := bs_256 (sumC π x p) (show i ≤ 8 by omega)
        have rpl : ∀ d, d < 7 → τ (pl + d) = σ (pl + d) := fun d hd => tfr _ (by omega)
        have r0 : τ pl = σ pl := tfr _ (by omega)
        have r2 : τ (pl + 2) = σ (pl + 2) := rpl 2 (by omega)
        have r5 : τ (pl + 5) = σ (pl + 5) := rpl 5 (by omega)
        have r19 : τ 19 = σ 19 := tfr _ (by omega)
        refine V_iload (pc := 36) C (dk k_F_sum 20 rfl) rfl ?_
        refine V_aload_n (pc := 38) C (dk k_F_sum 21 rfl) rfl ?_
        refine V_getm (pc := 39) (o2 := pl) C (dk k_F_sum 22 rfl) fl_F_26 kq_0 (by decide) rfl (by rw [tfr 0 (by omega)]; exact hm_pl) ?_
        refine V_geti (pc := 42) (ji := 2) C (dk k_F_sum 23 rfl) fl_F_196 hpl (by decide) rfl rfl ?_
        rw [r0]
        refine V_icmpge (pc := 45) C (dk k_F_sum 24 rfl) 130 rfl (by first | exact hR _ _ | with_reducible assumption | exact ⟨by omega, by omega⟩) (by first | exact hR _ _ | with_reducible assumption | exact ⟨by omega, by omega⟩) (fun h4 => ?_) (fun h4 => ?_)
        · skip
          obtain rfl : i = pN π := by omega
          have hbb : ∀ t : Int, 0 ≤ t → t < pN π → (-1000 ≤ τ 118 t ∧ τ 118 t ≤ 1000) ∧ (-1000 ≤ τ 119 t ∧ τ 119 t ≤ 1000) := fun t a b => by (obtain ⟨v1, v2⟩ := hv t a b; have ⟨pb0, pb1⟩ := prc_b ok xk a b; obtain ⟨-, -, -, -, c1, c2⟩ := kT t a b; omega)
          have eP := ssum_e (τ 118) (prc π x) (pN π) (fun t a b => (hv t a b).1)
          have eW := ssum_e (τ 119) (fun t => -(pU π t)) (pN π) (fun t a b => (hv t a b).2)
          refine V_aload_n (pc := 130) C (dk k_F_sum 63 rfl) rfl ?_
          refine V_getr (pc := 131) (o2 := 117) C (dk k_F_sum 64 rfl) fl_F_63 kq_0 (by decide) rfl (by decide) rfl ?_
          refine V_aload_n (pc := 134) C (dk k_F_sum 65 rfl) rfl ?_
          refine V_getm (pc := 135) (o2 := pl) C (dk k_F_sum 66 rfl) fl_F_26 kq_0 (by decide) rfl (by rw [tfr 0 (by omega)]; exact hm_pl) ?_
          refine V_geti (pc := 138) (ji := 2) C (dk k_F_sum 67 rfl) fl_F_196 hpl (by decide) rfl rfl ?_
          refine V_iload (pc := 141) C (dk k_F_sum 68 rfl) rfl ?_
          refine V_iload_n (pc := 143) C (dk k_F_sum 69 rfl) rfl ?_
          refine V_aload_n (pc := 144) C (dk k_F_sum 70 rfl) rfl ?_
          refine V_getr (pc := 145) (o2 := 19) C (dk k_F_sum 71 rfl) fl_F_36 kq_0 (by decide) rfl (by decide) rfl ?_
          refine V_geti (pc := 148) (ji := 1) C (dk k_F_sum 72 rfl) fl_F_206 kq_19 (by decide) rfl rfl ?_
          rw [r0, e2, r19, f1, show bs (sumC π x p) (pN π) = (((bs (sumC π x p) (pN π)).toNat : Nat) : Int) by omega]
          refine V_callVr (pc := 151) C (dk k_F_sum 73 rfl) lk_F_209 cm_C_find vm_C_find (c_C_find _ _ _ (pN π) (bs (sumC π x p) (pN π)).toNat m (sM x) (by omega) (by omega) hm ⟨by omega, by omega⟩ hbb) kq_117 rfl rfl rfl (Nat.le_of_ble_eq_true rfl) (Rm.mono hRm (by decide) (by decide)) (fun τ2 hq2 => ?_)
          refine V_R (fun hR => ?_)
          rw [eP, eW] at hq2 ⊢
          obtain ⟨hq3, hq4⟩ := hq2
          have ffr : ∀ k, (k < 117 ∨ 122 ≤ k) → τ2 k = σ k := fun k a => (hq4 k a).trans (tfr k (by omega))
          change V X _ _ [vI (if (sumF π x p m).isSome = true then 1 else 0)] _
          change ∀ (s : Nat) (v : Int), sumF π x p m = some (s, v) → τ2 117 4 = s ∧ τ2 117 5 = v at hq3
          obtain ⟨S, hS⟩ : ∃ S, S = sumF π x p m := ⟨_, rfl⟩
          rw [← hS] at hq3 ⊢
          refine V_ifneB (pc := 154) C (dk k_F_sum 74 rfl) 160 rfl (fun h5 => ?_) (fun h5 => ?_)
          · skip
            obtain ⟨⟨s, v⟩, hsv⟩ := Option.isSome_iff_exists.mp (by assumption : S.isSome = true)
            obtain ⟨v1, v2⟩ := hq3 s v hsv
            have hv2 : inR v := by rw [← v2]; exact hR _ _
            refine V_iload_n (pc := 160) C (dk k_F_sum 77 rfl) rfl ?_
            refine V_ifne (pc := 161) C (dk k_F_sum 78 rfl) 174 rfl (by first | exact hR _ _ | with_reducible assumption | exact ⟨by omega, by omega⟩) (fun h6 => ?_) (fun h6 => ?_)
            · skip
              refine V_aload_n (pc := 174) C (dk k_F_sum 83 rfl) rfl ?_
              refine V_getr (pc := 175) (o2 := 117) C (dk k_F_sum 84 rfl) fl_F_63 kq_0 (by decide) rfl (by decide) rfl ?_
              refine V_geti (pc := 178) (ji := 5) C (dk k_F_sum 85 rfl) fl_F_216 kq_117 (by decide) rfl rfl ?_
              refine V_ineg (pc := 181) C (dk k_F_sum 86 rfl) ?_
              refine V_iret (pc := 182) C E (dk k_F_sum 87 rfl) ?_
              have ho : o_sum π x p m k = if k = 0 then (s : Int) else -v := by unfold o_sum; rw [if_pos (by omega), ← hS, hsv]
              rw [ho]
              first | (rw [if_pos (by omega), v1]; exact ⟨rfl, hC.fr (fun k a => ffr k (by unfold scr at a; omega)), fun k a => ffr k (by omega)⟩) | (rw [if_neg (by omega), v2]; exact ⟨rfl, hC.fr (fun k a => ffr k (by unfold scr at a; omega)), fun k a => ffr k (by omega)⟩)
            · skip
              refine V_aload_n (pc := 164) C (dk k_F_sum 79 rfl) rfl ?_
              refine V_getr (pc := 165) (o2 := 117) C (dk k_F_sum 80 rfl) fl_F_63 kq_0 (by decide) rfl (by decide) rfl ?_
              refine V_geti (pc := 168) (ji := 4) C (dk k_F_sum 81 rfl) fl_F_213 kq_117 (by decide) rfl rfl ?_
              refine V_goto (pc := 171) C (dk k_F_sum 82 rfl) 182 rfl ?_
              refine V_iret (pc := 182) C E (dk k_F_sum 87 rfl) ?_
              have ho : o_sum π x p m k = if k = 0 then (s : Int) else -v := by unfold o_sum; rw [if_pos (by omega), ← hS, hsv]
              rw [ho]
              first | (rw [if_pos (by omega), v1]; exact ⟨rfl, hC.fr (fun k a => ffr k (by unfold scr at a; omega)), fun k a => ffr k (by omega)⟩) | (rw [if_neg (by omega), v2]; exact ⟨rfl, hC.fr (fun k a => ffr k (by unfold scr at a; omega)), fun k a => ffr k (by omega)⟩)
          · skip
            refine V_bipush (pc := 157) (n' := (-4)) C (dk k_F_sum 75 rfl) rfl ?_
            refine V_iret (pc := 159) C E (dk k_F_sum 76 rfl) ?_
            have hn : S = none := by cases hc : S with | none => rfl | some q => exact absurd (by rw [hc]; rfl) (by assumption : ¬ S.isSome = true)
            have ho : o_sum π x p m k = -4 := by unfold o_sum; rw [if_pos (by omega), ← hS, hn]
            rw [ho]
            exact ⟨rfl, hC.fr (fun k a => ffr k (by unfold scr at a; omega)), fun k a => ffr k (by omega)⟩
        · skip
          obtain ⟨gN, gP⟩ := fT i (by omega) (by omega)
          obtain ⟨gO, gK, gU⟩ := eT i (by omega) (by omega)
          obtain ⟨kO0, kO1, kK0, kK1, kU0, kU1⟩ := kT i (by omega) (by omega)
          have hp8 := bs_p8 (show i < 8 by omega)
          have ⟨pb0, pb1⟩ := prc_b ok xk (t := (i : Int)) (by omega) (by omega)
          refine V_aload_n (pc := 48) C (dk k_F_sum 25 rfl) rfl ?_
          refine V_getm (pc := 49) (o2 := pl) C (dk k_F_sum 26 rfl) fl_F_26 kq_0 (by decide) rfl (by rw [tfr 0 (by omega)]; exact hm_pl) ?_
          refine V_getr (pc := 52) (o2 := pl + 2) C (dk k_F_sum 27 rfl) fl_F_131 hpl (by decide) rfl (by decide) rfl ?_
          refine V_iload (pc := 55) C (dk k_F_sum 28 rfl) rfl ?_
          refine V_callS (pc := 57) C (dk k_F_sum 29 rfl) lk_F_117 cm_F_at sm_F_at (c_at _ _ _ (pl + 2) 8 (i : Int) hpl_2 (by decide) (by omega) (by omega)) rfl rfl (Nat.le_of_ble_eq_true rfl) (Rm.mono hRm (by decide) (by decide)) ?_
          rw [r2, gO]
          refine V_iload_n (pc := 60) C (dk k_F_sum 30 rfl) rfl ?_
          refine V_icmpne (pc := 61) C (dk k_F_sum 31 rfl) 89 rfl (by first | exact hR _ _ | with_reducible assumption | exact ⟨by omega, by omega⟩) (by first | exact hR _ _ | with_reducible assumption | exact ⟨by omega, by omega⟩) (fun h7 => ?_) (fun h7 => ?_)
          · skip
            refine V_aload_n (pc := 89) C (dk k_F_sum 45 rfl) rfl ?_
            refine V_getr (pc := 90) (o2 := 117) C (dk k_F_sum 46 rfl) fl_F_63 kq_0 (by decide) rfl (by decide) rfl ?_
            refine V_iload (pc := 93) C (dk k_F_sum 47 rfl) rfl ?_
            refine V_aload_n (pc := 95) C (dk k_F_sum 48 rfl) rfl ?_
            refine V_getr (pc := 96) (o2 := 19) C (dk k_F_sum 49 rfl) fl_F_36 kq_0 (by decide) rfl (by decide) rfl ?_
            refine V_aload_n (pc := 99) C (dk k_F_sum 50 rfl) rfl ?_
            refine V_getm (pc := 100) (o2 := pl) C (dk k_F_sum 51 rfl) fl_F_26 kq_0 (by decide) rfl (by rw [tfr 0 (by omega)]; exact hm_pl) ?_
            refine V_iload (pc := 103) C (dk k_F_sum 52 rfl) rfl ?_
            refine V_callV (pc := 105) C (dk k_F_sum 53 rfl) lk_F_146 cm_S_price vm_S_price (c_S_price _ _ _ 19 pl π x j i (hπ0.fr (fun k a b => tfr k (by omega))) ok (hx0.fr (fun k a b => tfr k (by omega))) xk (by omega) (by omega) (by omega)) kq_19 rfl rfl rfl (Nat.le_of_ble_eq_true rfl) (Rm.mono hRm (by decide) (by decide)) ?_
            refine V_aload_n (pc := 108) C (dk k_F_sum 54 rfl) rfl ?_
            refine V_getm (pc := 109) (o2 := pl) C (dk k_F_sum 55 rfl) fl_F_26 kq_0 (by decide) rfl (by rw [tfr 0 (by omega)]; exact hm_pl) ?_
            refine V_getr (pc := 112) (o2 := pl + 5) C (dk k_F_sum 56 rfl) fl_F_140 hpl (by decide) rfl (by decide) rfl ?_
            refine V_iload (pc := 115) C (dk k_F_sum 57 rfl) rfl ?_
            refine V_callS (pc := 117) C (dk k_F_sum 58 rfl) lk_F_117 cm_F_at sm_F_at (c_at _ _ _ (pl + 5) 8 (i : Int) hpl_5 (by decide) (by omega) (by omega)) rfl rfl (Nat.le_of_ble_eq_true rfl) (Rm.mono hRm (by decide) (by decide)) ?_
            rw [r5, gU]
            refine V_ineg (pc := 120) C (dk k_F_sum 59 rfl) ?_
            refine V_callV0 (pc := 121) C (dk k_F_sum 60 rfl) lk_F_202 cm_C_offer vm_C_offer (c_C_offer _ _ _ i (prc π x i) (-(pU π i)) (by omega) (by omega) ⟨by omega, by omega⟩ ⟨by omega, by omega⟩) kq_117 rfl rfl rfl (Nat.le_of_ble_eq_true rfl) (Rm.mono hRm (by decide) (by decide)) ?_
            refine V_R (fun hR => ?_)
            refine V_iinc (pc := 124) C (dk k_F_sum 61 rfl) (by rw [hXN]; decide) rfl ?_
            dsimp only [lst, lstL, lz, kill, Fin.val, Nat.reduceAdd]
            refine V_goto (pc := 127) C (dk k_F_sum 62 rfl) 36 rfl ?_
            refine V_eq (ih (i + 1, up (up τ 118 (i : Int) (prc π x i)) 119 (i : Int) (-(pU π i))) ⟨by dsimp only; omega, fun t a b => ?_, (tfr.up _ _ (by omega) (by omega)).up _ _ (by omega) (by omega)⟩ (by dsimp only; omega)) ?_ rfl rfl
            · dsimp only at b ⊢
              by_cases ht : t = i
              · subst ht; exact ⟨(up_ne1 _ _ _ _ (by decide)).trans (up_at _ _ _ _), up_at _ _ _ _⟩
              · simp (disch := omega) only [up_ne1, up_ne2]; exact hv t a (by omega)
            · rw [bs_s]
              first | (rw [if_pos (show sumC π x p (i : Int) = true from decide_eq_true ⟨by omega, by omega, by omega⟩), ← bs_or]; rfl) | (rw [if_neg (show ¬ sumC π x p (i : Int) = true from fun z => by have := of_decide_eq_true z; omega), Int.add_zero]; rfl)
          · skip
            refine V_aload_n (pc := 64) C (dk k_F_sum 32 rfl) rfl ?_
            refine V_getr (pc := 65) (o2 := 19) C (dk k_F_sum 33 rfl) fl_F_36 kq_0 (by decide) rfl (by decide) rfl ?_
            refine V_aload_n (pc := 68) C (dk k_F_sum 34 rfl) rfl ?_
            refine V_getm (pc := 69) (o2 := pl) C (dk k_F_sum 35 rfl) fl_F_26 kq_0 (by decide) rfl (by rw [tfr 0 (by omega)]; exact hm_pl) ?_
            refine V_iload (pc := 72) C (dk k_F_sum 36 rfl) rfl ?_
            refine V_callV (pc := 74) C (dk k_F_sum 37 rfl) lk_F_199 cm_S_isOffered vm_S_isOffered (c_S_isOffered _ _ _ 19 pl π x j i (hπ0.fr (fun k a b => tfr k (by omega))) ok (hx0.fr (fun k a b => tfr k (by omega))) xk (by omega) (by omega) (by omega)) kq_19 rfl rfl rfl (Nat.le_of_ble_eq_true rfl) (Rm.mono hRm (by decide) (by decide)) ?_
            refine V_ifeqB (pc := 77) C (dk k_F_sum 38 rfl) 89 rfl (fun h8 => ?_) (fun h8 => ?_)
            · skip
              refine V_aload_n (pc := 89) C (dk k_F_sum 45 rfl) rfl ?_
              refine V_getr (pc := 90) (o2 := 117) C (dk k_F_sum 46 rfl) fl_F_63 kq_0 (by decide) rfl (by decide) rfl ?_
              refine V_iload (pc := 93) C (dk k_F_sum 47 rfl) rfl ?_
              refine V_aload_n (pc := 95) C (dk k_F_sum 48 rfl) rfl ?_
              refine V_getr (pc := 96) (o2 := 19) C (dk k_F_sum 49 rfl) fl_F_36 kq_0 (by decide) rfl (by decide) rfl ?_
              refine V_aload_n (pc := 99) C (dk k_F_sum 50 rfl) rfl ?_
              refine V_getm (pc := 100) (o2 := pl) C (dk k_F_sum 51 rfl) fl_F_26 kq_0 (by decide) rfl (by rw [tfr 0 (by omega)]; exact hm_pl) ?_
              refine V_iload (pc := 103) C (dk k_F_sum 52 rfl) rfl ?_
              refine V_callV (pc := 105) C (dk k_F_sum 53 rfl) lk_F_146 cm_S_price vm_S_price (c_S_price _ _ _ 19 pl π x j i (hπ0.fr (fun k a b => tfr k (by omega))) ok (hx0.fr (fun k a b => tfr k (by omega))) xk (by omega) (by omega) (by omega)) kq_19 rfl rfl rfl (Nat.le_of_ble_eq_true rfl) (Rm.mono hRm (by decide) (by decide)) ?_
              refine V_aload_n (pc := 108) C (dk k_F_sum 54 rfl) rfl ?_
              refine V_getm (pc := 109) (o2 := pl) C (dk k_F_sum 55 rfl) fl_F_26 kq_0 (by decide) rfl (by rw [tfr 0 (by omega)]; exact hm_pl) ?_
              refine V_getr (pc := 112) (o2 := pl + 5) C (dk k_F_sum 56 rfl) fl_F_140 hpl (by decide) rfl (by decide) rfl ?_
              refine V_iload (pc := 115) C (dk k_F_sum 57 rfl) rfl ?_
              refine V_callS (pc := 117) C (dk k_F_sum 58 rfl) lk_F_117 cm_F_at sm_F_at (c_at _ _ _ (pl + 5) 8 (i : Int) hpl_5 (by decide) (by omega) (by omega)) rfl rfl (Nat.le_of_ble_eq_true rfl) (Rm.mono hRm (by decide) (by decide)) ?_
              rw [r5, gU]
              refine V_ineg (pc := 120) C (dk k_F_sum 59 rfl) ?_
              refine V_callV0 (pc := 121) C (dk k_F_sum 60 rfl) lk_F_202 cm_C_offer vm_C_offer (c_C_offer _ _ _ i (prc π x i) (-(pU π i)) (by omega) (by omega) ⟨by omega, by omega⟩ ⟨by omega, by omega⟩) kq_117 rfl rfl rfl (Nat.le_of_ble_eq_true rfl) (Rm.mono hRm (by decide) (by decide)) ?_
              refine V_R (fun hR => ?_)
              refine V_iinc (pc := 124) C (dk k_F_sum 61 rfl) (by rw [hXN]; decide) rfl ?_
              dsimp only [lst, lstL, lz, kill, Fin.val, Nat.reduceAdd]
              refine V_goto (pc := 127) C (dk k_F_sum 62 rfl) 36 rfl ?_
              refine V_eq (ih (i + 1, up (up τ 118 (i : Int) (prc π x i)) 119 (i : Int) (-(pU π i))) ⟨by dsimp only; omega, fun t a b => ?_, (tfr.up _ _ (by omega) (by omega)).up _ _ (by omega) (by omega)⟩ (by dsimp only; omega)) ?_ rfl rfl
              · dsimp only at b ⊢
                by_cases ht : t = i
                · subst ht; exact ⟨(up_ne1 _ _ _ _ (by decide)).trans (up_at _ _ _ _), up_at _ _ _ _⟩
                · simp (disch := omega) only [up_ne1, up_ne2]; exact hv t a (by omega)
              · rw [bs_s]
                first | (rw [if_pos (show sumC π x p (i : Int) = true from decide_eq_true ⟨by omega, by omega, by omega⟩), ← bs_or]; rfl) | (rw [if_neg (show ¬ sumC π x p (i : Int) = true from fun z => by have := of_decide_eq_true z; omega), Int.add_zero]; rfl)
            · skip
              refine V_iload (pc := 80) C (dk k_F_sum 39 rfl) rfl ?_
              refine V_iconst (pc := 82) C (dk k_F_sum 40 rfl) rfl ?_
              refine V_iload (pc := 83) C (dk k_F_sum 41 rfl) rfl ?_
              refine V_ishl (pc := 85) C (dk k_F_sum 42 rfl) (by omega) (by omega) (by omega) hp8.1 ?_
              refine V_ior (pc := 86) C (dk k_F_sum 43 rfl) ⟨by omega, by omega⟩ ⟨by omega, by omega⟩ (by omega) (by omega) ?_
              refine V_istore (pc := 87) C (dk k_F_sum 44 rfl) (by rw [hXN]; decide) ?_
              dsimp only [lst, lstL, lz, kill, Fin.val, Nat.reduceAdd]
              refine V_aload_n (pc := 89) C (dk k_F_sum 45 rfl) rfl ?_
              refine V_getr (pc := 90) (o2 := 117) C (dk k_F_sum 46 rfl) fl_F_63 kq_0 (by decide) rfl (by decide) rfl ?_
              refine V_iload (pc := 93) C (dk k_F_sum 47 rfl) rfl ?_
              refine V_aload_n (pc := 95) C (dk k_F_sum 48 rfl) rfl ?_
              refine V_getr (pc := 96) (o2 := 19) C (dk k_F_sum 49 rfl) fl_F_36 kq_0 (by decide) rfl (by decide) rfl ?_
              refine V_aload_n (pc := 99) C (dk k_F_sum 50 rfl) rfl ?_
              refine V_getm (pc := 100) (o2 := pl) C (dk k_F_sum 51 rfl) fl_F_26 kq_0 (by decide) rfl (by rw [tfr 0 (by omega)]; exact hm_pl) ?_
              refine V_iload (pc := 103) C (dk k_F_sum 52 rfl) rfl ?_
              refine V_callV (pc := 105) C (dk k_F_sum 53 rfl) lk_F_146 cm_S_price vm_S_price (c_S_price _ _ _ 19 pl π x j i (hπ0.fr (fun k a b => tfr k (by omega))) ok (hx0.fr (fun k a b => tfr k (by omega))) xk (by omega) (by omega) (by omega)) kq_19 rfl rfl rfl (Nat.le_of_ble_eq_true rfl) (Rm.mono hRm (by decide) (by decide)) ?_
              refine V_aload_n (pc := 108) C (dk k_F_sum 54 rfl) rfl ?_
              refine V_getm (pc := 109) (o2 := pl) C (dk k_F_sum 55 rfl) fl_F_26 kq_0 (by decide) rfl (by rw [tfr 0 (by omega)]; exact hm_pl) ?_
              refine V_getr (pc := 112) (o2 := pl + 5) C (dk k_F_sum 56 rfl) fl_F_140 hpl (by decide) rfl (by decide) rfl ?_
              refine V_iload (pc := 115) C (dk k_F_sum 57 rfl) rfl ?_
              refine V_callS (pc := 117) C (dk k_F_sum 58 rfl) lk_F_117 cm_F_at sm_F_at (c_at _ _ _ (pl + 5) 8 (i : Int) hpl_5 (by decide) (by omega) (by omega)) rfl rfl (Nat.le_of_ble_eq_true rfl) (Rm.mono hRm (by decide) (by decide)) ?_
              rw [r5, gU]
              refine V_ineg (pc := 120) C (dk k_F_sum 59 rfl) ?_
              refine V_callV0 (pc := 121) C (dk k_F_sum 60 rfl) lk_F_202 cm_C_offer vm_C_offer (c_C_offer _ _ _ i (prc π x i) (-(pU π i)) (by omega) (by omega) ⟨by omega, by omega⟩ ⟨by omega, by omega⟩) kq_117 rfl rfl rfl (Nat.le_of_ble_eq_true rfl) (Rm.mono hRm (by decide) (by decide)) ?_
              refine V_R (fun hR => ?_)
              refine V_iinc (pc := 124) C (dk k_F_sum 61 rfl) (by rw [hXN]; decide) rfl ?_
              dsimp only [lst, lstL, lz, kill, Fin.val, Nat.reduceAdd]
              refine V_goto (pc := 127) C (dk k_F_sum 62 rfl) 36 rfl ?_
              refine V_eq (ih (i + 1, up (up τ 118 (i : Int) (prc π x i)) 119 (i : Int) (-(pU π i))) ⟨by dsimp only; omega, fun t a b => ?_, (tfr.up _ _ (by omega) (by omega)).up _ _ (by omega) (by omega)⟩ (by dsimp only; omega)) ?_ rfl rfl
              · dsimp only at b ⊢
                by_cases ht : t = i
                · subst ht; exact ⟨(up_ne1 _ _ _ _ (by decide)).trans (up_at _ _ _ _), up_at _ _ _ _⟩
                · simp (disch := omega) only [up_ne1, up_ne2]; exact hv t a (by omega)
              · rw [bs_s]
                first | (rw [if_pos (show sumC π x p (i : Int) = true from decide_eq_true ⟨by omega, by omega, by omega⟩), ← bs_or]; rfl) | (rw [if_neg (show ¬ sumC π x p (i : Int) = true from fun z => by have := of_decide_eq_true z; omega), Int.add_zero]; rfl)
      · skip
        refine V_iconst (pc := 28) C (dk k_F_sum 14 rfl) rfl ?_
        refine V_iret (pc := 29) C E (dk k_F_sum 15 rfl) ?_
        rw [show o_sum π x p m k = -1 from if_neg (by omega)]
        exact ⟨rfl, hC, Fc.rf σ⟩

def i_F_take : List (Nat × (Instr × Nat)) := [(0, (.iload_n 1, 1)), (1, (.iconst 0, 1)), (2, (.bipush 20, 2)), (4, (.invokestatic 98, 3)), (7, (.ifCond .eq 12, 3)), (10, (.iload_n 2, 1)), (11, (.iconst 0, 1)), (12, (.iconst 1, 1)), (13, (.invokestatic 98, 3)), (16, (.ifCond .ne 5, 3)), (19, (.iconst (-1), 1)), (20, (.ireturn, 1)), (21, (.iconst 0, 1)), (22, (.istore_n 3, 1)), (23, (.iconst 0, 1)), (24, (.istore 4, 2)), (26, (.iconst 0, 1)), (27, (.istore 5, 2)), (29, (.iload 5, 2)), (31, (.aload_n 0, 1)), (32, (.getfield 26, 3)), (35, (.getfield 196, 3)), (38, (.if_icmp .ge 100, 3)), (41, (.aload_n 0, 1)), (42, (.iload 5, 2)), (44, (.aload_n 0, 1)), (45, (.getfield 26, 3)), (48, (.getfield 134, 3)), (51, (.iload 5, 2)), (53, (.invokestatic 117, 3)), (56, (.iload_n 1, 1)), (57, (.invokevirtual 185, 3)), (60, (.istore 6, 2)), (62, (.aload_n 0, 1)), (63, (.getfield 36, 3)), (66, (.getfield 143, 3)), (69, (.iload 5, 2)), (71, (.invokestatic 117, 3)), (74, (.iconst 1, 1)), (75, (.if_icmp .ne 10, 3)), (78, (.iload 4, 2)), (80, (.iload 6, 2)), (82, (.iadd, 1)), (83, (.istore 4, 2)), (85, (.aload_n 0, 1)), (86, (.getfield 36, 3)), (89, (.aload_n 0, 1)), (90, (.getfield 26, 3)), (93, (.iload 5, 2)), (95, (.invokevirtual 199, 3)), (98, (.ifCond .eq 10, 3)), (101, (.iload_n 3, 1)), (102, (.iconst 1, 1)), (103, (.iload 5, 2)), (105, (.ishl, 1)), (106, (.ior, 1)), (107, (.istore_n 3, 1)), (108, (.aload_n 0, 1)), (109, (.getfield 63, 3)), (112, (.iload 5, 2)), (114, (.aload_n 0, 1)), (115, (.getfield 36, 3)), (118, (.aload_n 0, 1)), (119, (.getfield 26, 3)), (122, (.iload 5, 2)), (124, (.invokevirtual 146, 3)), (127, (.iload 6, 2)), (129, (.invokevirtual 202, 3)), (132, (.iinc 5 1, 3)), (135, (.goto (-106), 3)), (138, (.aload_n 0, 1)), (139, (.getfield 63, 3)), (142, (.aload_n 0, 1)), (143, (.getfield 26, 3)), (146, (.getfield 196, 3)), (149, (.iload_n 3, 1)), (150, (.iconst 0, 1)), (151, (.aload_n 0, 1)), (152, (.getfield 36, 3)), (155, (.getfield 206, 3)), (158, (.invokevirtual 209, 3)), (161, (.ifCond .ne 14, 3)), (164, (.iload_n 2, 1)), (165, (.ifCond .ne 7, 3)), (168, (.iconst 0, 1)), (169, (.goto 5, 3)), (172, (.iload 4, 2)), (174, (.ireturn, 1)), (175, (.iload_n 2, 1)), (176, (.ifCond .ne 13, 3)), (179, (.aload_n 0, 1)), (180, (.getfield 63, 3)), (183, (.getfield 213, 3)), (186, (.goto 13, 3)), (189, (.iload 4, 2)), (191, (.aload_n 0, 1)), (192, (.getfield 63, 3)), (195, (.getfield 216, 3)), (198, (.iadd, 1)), (199, (.ireturn, 1))]
theorem k_F_take : i_F_take.all (fun q => decide (decode b_F_take q.1 = .ok q.2)) = true := by decide +kernel

set_option maxHeartbeats 1000000 in
set_option maxRecDepth 20000 in
theorem c_F_take (l : Launch) (G : GE) (σ : Wd) (pl sp : Nat) (π : PL) (x : ST) (us ks : List ST) (lk : List (Int × (Int × Int))) (tx : List Int) (j : Int) (hC : CR σ pl sp π x us ks lk tx) (hV : VK π x us ks j) (hj : j ≤ 100) (n k : Int) (hn : inR n) (hk : inR k) : Ct l G y_F_take b_F_take 7 (some (.int)) 3 73 [vR 0, vI n, vI k] σ (Rt (some (vI (o_take π x n k))) (fun σ' => CR σ' pl sp π x us ks lk tx ∧ Fc σ σ')) := by
  refine Ct.of cm_F_take (Nat.le_of_ble_eq_true rfl) ?_
  intro X hXl hXG hXN hRm C E
  subst hXl; subst hXG
  have ⟨hn_1, hn_2⟩ := hn
  have ⟨hk_1, hk_2⟩ := hk
  show V X 0 [some (vR 0), some (vI n), some (vI k), none, none, none, none] [] σ
  refine V_R (fun hR => ?_)
  obtain ⟨hF, hsp0, hsp, hne, hx, hU, hK, hl, hT⟩ := id hC
  obtain ⟨ok, xk, usk, ksk, ks2⟩ := id hV
  have hF0 := hF
  obtain ⟨hm_pl, hπ⟩ := hF
  have hπ0 := hπ
  obtain ⟨hpl, e0, e2, e7, e10, eT, eX⟩ := hπ
  obtain ⟨hpl_1, hpl_2, hpl_3, hpl_4, hpl_5, hpl_6⟩ := kd_P hpl
  have ⟨k1, k2, k3, k4, k5, k6, kT, kX⟩ := ok
  have hx0 := hx
  obtain ⟨hs, f0, f1, fQ, fT⟩ := hx
  simp only [Nat.reduceAdd] at fQ fT
  have ⟨x1, x2, x3, x4, xQ, xT⟩ := xk
  have p512 := kd5 hpl
  have s512 := kd5 hsp
  refine V_iload_n (pc := 0) C (dk k_F_take 0 rfl) rfl ?_
  refine V_iconst (pc := 1) C (dk k_F_take 1 rfl) rfl ?_
  refine V_bipush (pc := 2) (n' := 20) C (dk k_F_take 2 rfl) rfl ?_
  refine V_callS (pc := 4) C (dk k_F_take 3 rfl) lk_F_98 cm_F_within sm_F_within (c_F_within _ _ _ n 0 20 hn ⟨by decide, by decide⟩ ⟨by decide, by decide⟩) rfl rfl (Nat.le_of_ble_eq_true rfl) (Rm.mono hRm (by decide) (by decide)) ?_
  refine V_ifeqB (pc := 7) C (dk k_F_take 4 rfl) 19 rfl (fun h1 => ?_) (fun h1 => ?_)
  · skip
    refine V_iconst (pc := 19) C (dk k_F_take 10 rfl) rfl ?_
    refine V_iret (pc := 20) C E (dk k_F_take 11 rfl) ?_
    rw [show o_take π x n k = -1 from if_neg (by omega)]
    exact ⟨rfl, hC, Fc.rf σ⟩
  · skip
    refine V_iload_n (pc := 10) C (dk k_F_take 5 rfl) rfl ?_
    refine V_iconst (pc := 11) C (dk k_F_take 6 rfl) rfl ?_
    refine V_iconst (pc := 12) C (dk k_F_take 7 rfl) rfl ?_
    refine V_callS (pc := 13) C (dk k_F_take 8 rfl) lk_F_98 cm_F_within sm_F_within (c_F_within _ _ _ k 0 1 hk ⟨by decide, by decide⟩ ⟨by decide, by decide⟩) rfl rfl (Nat.le_of_ble_eq_true rfl) (Rm.mono hRm (by decide) (by decide)) ?_
    refine V_ifneB (pc := 16) C (dk k_F_take 9 rfl) 21 rfl (fun h2 => ?_) (fun h2 => ?_)
    · skip
      refine V_iconst (pc := 21) C (dk k_F_take 12 rfl) rfl ?_
      refine V_istore_n (pc := 22) C (dk k_F_take 13 rfl) (by rw [hXN]; decide) ?_
      dsimp only [lst, lstL, lz, kill, Fin.val, Nat.reduceAdd]
      refine V_iconst (pc := 23) C (dk k_F_take 14 rfl) rfl ?_
      refine V_istore (pc := 24) C (dk k_F_take 15 rfl) (by rw [hXN]; decide) ?_
      dsimp only [lst, lstL, lz, kill, Fin.val, Nat.reduceAdd]
      refine V_iconst (pc := 26) C (dk k_F_take 16 rfl) rfl ?_
      refine V_istore (pc := 27) C (dk k_F_take 17 rfl) (by rw [hXN]; decide) ?_
      dsimp only [lst, lstL, lz, kill, Fin.val, Nat.reduceAdd]
      refine V_eq (V_loop (fun q : Nat × Wd => q.1 ≤ pN π ∧ (∀ t : Int, 0 ≤ t → t < q.1 → q.2 118 t = prc π x t ∧ q.2 119 t = come π x n t) ∧ Fr 118 2 σ q.2) (fun q => [some (vR 0), some (vI n), some (vI k), some (vI (bs (takC π x) q.1)), some (vI (there π x n q.1)), some (vI (q.1 : Int)), none]) (fun q => q.2) (fun q => pN π - q.1) (fun q hq ih => ?_) (0, σ) ⟨Nat.zero_le _, fun t a b => by dsimp only at b; omega, Fr.rf _ _ _⟩) rfl rfl rfl
      obtain ⟨i, τ⟩ := q
      obtain ⟨hi, hv, tfr⟩ := hq
      dsimp only at hi hv tfr ih ⊢
      refine V_R (fun hR => ?_)
      have hb := bs_256 (takC π x) (show i ≤ 8 by omega)
      have rpl : ∀ d, d < 7 → τ (pl + d) = σ (pl + d) := fun d hd => tfr _ (by omega)
      have r0 : τ pl = σ pl := tfr _ (by omega)
      have r3 : τ (pl + 3) = σ (pl + 3) := rpl 3 (by omega)
      have r19 : τ 19 = σ 19 := tfr _ (by omega)
      have r23 : τ 23 = σ 23 := tfr _ (by omega)
      refine V_iload (pc := 29) C (dk k_F_take 18 rfl) rfl ?_
      refine V_aload_n (pc := 31) C (dk k_F_take 19 rfl) rfl ?_
      refine V_getm (pc := 32) (o2 := pl) C (dk k_F_take 20 rfl) fl_F_26 kq_0 (by decide) rfl (by rw [tfr 0 (by omega)]; exact hm_pl) ?_
      refine V_geti (pc := 35) (ji := 2) C (dk k_F_take 21 rfl) fl_F_196 hpl (by decide) rfl rfl ?_
      rw [r0]
      refine V_icmpge (pc := 38) C (dk k_F_take 22 rfl) 138 rfl (by first | exact hR _ _ | with_reducible assumption | exact ⟨by omega, by omega⟩) (by first | exact hR _ _ | with_reducible assumption | exact ⟨by omega, by omega⟩) (fun h3 => ?_) (fun h3 => ?_)
      · skip
        obtain rfl : i = pN π := by omega
        have hbb : ∀ t : Int, 0 ≤ t → t < pN π → (-1000 ≤ τ 118 t ∧ τ 118 t ≤ 1000) ∧ (-1000 ≤ τ 119 t ∧ τ 119 t ≤ 1000) := fun t a b => by (obtain ⟨v1, v2⟩ := hv t a b; have ⟨pb0, pb1⟩ := prc_b ok xk a b; obtain ⟨c1, c2, -⟩ := xT t a b; have ⟨cm0, cm1⟩ := cel_b (k := pK π t) (d := sD x) c1 c2 n.toNat; have v3 : τ 119 t = cel (pK π t) (sN x t) (sD x) n.toNat := v2; omega)
        have eP := ssum_e (τ 118) (prc π x) (pN π) (fun t a b => (hv t a b).1)
        have eW := ssum_e (τ 119) (come π x n) (pN π) (fun t a b => (hv t a b).2)
        refine V_aload_n (pc := 138) C (dk k_F_take 70 rfl) rfl ?_
        refine V_getr (pc := 139) (o2 := 117) C (dk k_F_take 71 rfl) fl_F_63 kq_0 (by decide) rfl (by decide) rfl ?_
        refine V_aload_n (pc := 142) C (dk k_F_take 72 rfl) rfl ?_
        refine V_getm (pc := 143) (o2 := pl) C (dk k_F_take 73 rfl) fl_F_26 kq_0 (by decide) rfl (by rw [tfr 0 (by omega)]; exact hm_pl) ?_
        refine V_geti (pc := 146) (ji := 2) C (dk k_F_take 74 rfl) fl_F_196 hpl (by decide) rfl rfl ?_
        refine V_iload_n (pc := 149) C (dk k_F_take 75 rfl) rfl ?_
        refine V_iconst (pc := 150) C (dk k_F_take 76 rfl) rfl ?_
        refine V_aload_n (pc := 151) C (dk k_F_take 77 rfl) rfl ?_
        refine V_getr (pc := 152) (o2 := 19) C (dk k_F_take 78 rfl) fl_F_36 kq_0 (by decide) rfl (by decide) rfl ?_
        refine V_geti (pc := 155) (ji := 1) C (dk k_F_take 79 rfl) fl_F_206 kq_19 (by decide) rfl rfl ?_
        rw [r0, e2, r19, f1, show bs (takC π x) (pN π) = (((bs (takC π x) (pN π)).toNat : Nat) : Int) by omega]
        refine V_callVr (pc := 158) C (dk k_F_take 80 rfl) lk_F_209 cm_C_find vm_C_find (c_C_find _ _ _ (pN π) (bs (takC π x) (pN π)).toNat 0 (sM x) (by omega) (by omega) R0 ⟨by omega, by omega⟩ hbb) kq_117 rfl rfl rfl (Nat.le_of_ble_eq_true rfl) (Rm.mono hRm (by decide) (by decide)) (fun τ2 hq2 => ?_)
        refine V_R (fun hR => ?_)
        rw [eP, eW] at hq2 ⊢
        obtain ⟨hq3, hq4⟩ := hq2
        have ffr : ∀ k, (k < 117 ∨ 122 ≤ k) → τ2 k = σ k := fun k a => (hq4 k a).trans (tfr k (by omega))
        change V X _ _ [vI (if (takF π x n).isSome = true then 1 else 0)] _
        change ∀ (s : Nat) (v : Int), takF π x n = some (s, v) → τ2 117 4 = s ∧ τ2 117 5 = v at hq3
        obtain ⟨S, hS⟩ : ∃ S, S = takF π x n := ⟨_, rfl⟩
        rw [← hS] at hq3 ⊢
        refine V_ifneB (pc := 161) C (dk k_F_take 81 rfl) 175 rfl (fun h4 => ?_) (fun h4 => ?_)
        · skip
          obtain ⟨⟨s, v⟩, hsv⟩ := Option.isSome_iff_exists.mp (by assumption : S.isSome = true)
          obtain ⟨v1, v2⟩ := hq3 s v hsv
          refine V_iload_n (pc := 175) C (dk k_F_take 88 rfl) rfl ?_
          refine V_ifne (pc := 176) C (dk k_F_take 89 rfl) 189 rfl (by first | exact hR _ _ | with_reducible assumption | exact ⟨by omega, by omega⟩) (fun h5 => ?_) (fun h5 => ?_)
          · skip
            refine V_iload (pc := 189) C (dk k_F_take 94 rfl) rfl ?_
            refine V_aload_n (pc := 191) C (dk k_F_take 95 rfl) rfl ?_
            refine V_getr (pc := 192) (o2 := 117) C (dk k_F_take 96 rfl) fl_F_63 kq_0 (by decide) rfl (by decide) rfl ?_
            refine V_geti (pc := 195) (ji := 5) C (dk k_F_take 97 rfl) fl_F_216 kq_117 (by decide) rfl rfl ?_
            refine V_iadd (pc := 198) C (dk k_F_take 98 rfl) ?_
            refine V_iret (pc := 199) C E (dk k_F_take 99 rfl) ?_
            have ho : o_take π x n k = if k = 0 then (s : Int) else there π x n (pN π) + v := by unfold o_take; rw [if_pos (by omega), ← hS, hsv]
            rw [ho]
            first | (rw [if_pos (by omega), v1]; exact ⟨rfl, hC.fr (fun k a => ffr k (by unfold scr at a; omega)), fun k a => ffr k (by omega)⟩) | (rw [if_neg (by omega), v2]; exact ⟨rfl, hC.fr (fun k a => ffr k (by unfold scr at a; omega)), fun k a => ffr k (by omega)⟩)
          · skip
            refine V_aload_n (pc := 179) C (dk k_F_take 90 rfl) rfl ?_
            refine V_getr (pc := 180) (o2 := 117) C (dk k_F_take 91 rfl) fl_F_63 kq_0 (by decide) rfl (by decide) rfl ?_
            refine V_geti (pc := 183) (ji := 4) C (dk k_F_take 92 rfl) fl_F_213 kq_117 (by decide) rfl rfl ?_
            refine V_goto (pc := 186) C (dk k_F_take 93 rfl) 199 rfl ?_
            refine V_iret (pc := 199) C E (dk k_F_take 99 rfl) ?_
            have ho : o_take π x n k = if k = 0 then (s : Int) else there π x n (pN π) + v := by unfold o_take; rw [if_pos (by omega), ← hS, hsv]
            rw [ho]
            first | (rw [if_pos (by omega), v1]; exact ⟨rfl, hC.fr (fun k a => ffr k (by unfold scr at a; omega)), fun k a => ffr k (by omega)⟩) | (rw [if_neg (by omega), v2]; exact ⟨rfl, hC.fr (fun k a => ffr k (by unfold scr at a; omega)), fun k a => ffr k (by omega)⟩)
        · skip
          refine V_iload_n (pc := 164) C (dk k_F_take 82 rfl) rfl ?_
          refine V_ifne (pc := 165) C (dk k_F_take 83 rfl) 172 rfl (by first | exact hR _ _ | with_reducible assumption | exact ⟨by omega, by omega⟩) (fun h6 => ?_) (fun h6 => ?_)
          · skip
            refine V_iload (pc := 172) C (dk k_F_take 86 rfl) rfl ?_
            refine V_iret (pc := 174) C E (dk k_F_take 87 rfl) ?_
            have hn : S = none := by cases hc : S with | none => rfl | some q => exact absurd (by rw [hc]; rfl) (by assumption : ¬ S.isSome = true)
            have ho : o_take π x n k = if k = 0 then 0 else there π x n (pN π) := by unfold o_take; rw [if_pos (by omega), ← hS, hn]
            rw [ho]
            first | (rw [if_pos (by omega)]; exact ⟨rfl, hC.fr (fun k a => ffr k (by unfold scr at a; omega)), fun k a => ffr k (by omega)⟩) | (rw [if_neg (by omega)]; exact ⟨rfl, hC.fr (fun k a => ffr k (by unfold scr at a; omega)), fun k a => ffr k (by omega)⟩)
          · skip
            refine V_iconst (pc := 168) C (dk k_F_take 84 rfl) rfl ?_
            refine V_goto (pc := 169) C (dk k_F_take 85 rfl) 174 rfl ?_
            refine V_iret (pc := 174) C E (dk k_F_take 87 rfl) ?_
            have hn : S = none := by cases hc : S with | none => rfl | some q => exact absurd (by rw [hc]; rfl) (by assumption : ¬ S.isSome = true)
            have ho : o_take π x n k = if k = 0 then 0 else there π x n (pN π) := by unfold o_take; rw [if_pos (by omega), ← hS, hn]
            rw [ho]
            first | (rw [if_pos (by omega)]; exact ⟨rfl, hC.fr (fun k a => ffr k (by unfold scr at a; omega)), fun k a => ffr k (by omega)⟩) | (rw [if_neg (by omega)]; exact ⟨rfl, hC.fr (fun k a => ffr k (by unfold scr at a; omega)), fun k a => ffr k (by omega)⟩)
      · skip
        obtain ⟨gN, gP⟩ := fT i (by omega) (by omega)
        obtain ⟨gO, gK, gU⟩ := eT i (by omega) (by omega)
        obtain ⟨kO0, kO1, kK0, kK1, kU0, kU1⟩ := kT i (by omega) (by omega)
        have hp8 := bs_p8 (show i < 8 by omega)
        have ⟨pb0, pb1⟩ := prc_b ok xk (t := (i : Int)) (by omega) (by omega)
        obtain ⟨xN0, xN1, xP0, xP1, -⟩ := xT i (by omega) (by omega)
        have ⟨cm0, cm1⟩ := cel_b (k := pK π i) (d := sD x) xN0 xN1 n.toNat
        have cm0 : 0 ≤ come π x n i := cm0
        have cm1 : come π x n i ≤ 99 := cm1
        refine V_aload_n (pc := 41) C (dk k_F_take 23 rfl) rfl ?_
        refine V_iload (pc := 42) C (dk k_F_take 24 rfl) rfl ?_
        refine V_aload_n (pc := 44) C (dk k_F_take 25 rfl) rfl ?_
        refine V_getm (pc := 45) (o2 := pl) C (dk k_F_take 26 rfl) fl_F_26 kq_0 (by decide) rfl (by rw [tfr 0 (by omega)]; exact hm_pl) ?_
        refine V_getr (pc := 48) (o2 := pl + 3) C (dk k_F_take 27 rfl) fl_F_134 hpl (by decide) rfl (by decide) rfl ?_
        refine V_iload (pc := 51) C (dk k_F_take 28 rfl) rfl ?_
        refine V_callS (pc := 53) C (dk k_F_take 29 rfl) lk_F_117 cm_F_at sm_F_at (c_at _ _ _ (pl + 3) 8 (i : Int) hpl_3 (by decide) (by omega) (by omega)) rfl rfl (Nat.le_of_ble_eq_true rfl) (Rm.mono hRm (by decide) (by decide)) ?_
        rw [r3, gK]
        refine V_iload_n (pc := 56) C (dk k_F_take 30 rfl) rfl ?_
        refine V_callV (pc := 57) C (dk k_F_take 31 rfl) lk_F_185 cm_F_nearInCellar vm_F_nearInCellar (c_F_nearInCellar _ _ _ pl π x j i (pK π i) n (hF0.fr (tfr 0 (by omega)) (fun k a b => tfr k (by omega))) ok (hx0.fr (fun k a b => tfr k (by omega))) xk (by omega) (by omega) (by omega) ⟨by omega, by omega⟩ (by omega) (by omega)) kq_0 rfl rfl rfl (Nat.le_of_ble_eq_true rfl) (Rm.mono hRm (by decide) (by decide)) ?_
        change V X _ _ [vI (come π x n i)] _
        refine V_istore (pc := 60) C (dk k_F_take 32 rfl) (by rw [hXN]; decide) ?_
        dsimp only [lst, lstL, lz, kill, Fin.val, Nat.reduceAdd]
        refine V_aload_n (pc := 62) C (dk k_F_take 33 rfl) rfl ?_
        refine V_getr (pc := 63) (o2 := 19) C (dk k_F_take 34 rfl) fl_F_36 kq_0 (by decide) rfl (by decide) rfl ?_
        refine V_getr (pc := 66) (o2 := 23) C (dk k_F_take 35 rfl) fl_F_143 kq_19 (by decide) rfl (by decide) rfl ?_
        refine V_iload (pc := 69) C (dk k_F_take 36 rfl) rfl ?_
        refine V_callS (pc := 71) C (dk k_F_take 37 rfl) lk_F_117 cm_F_at sm_F_at (c_at _ _ _ (23) 8 (i : Int) kq_23 (by decide) (by omega) (by omega)) rfl rfl (Nat.le_of_ble_eq_true rfl) (Rm.mono hRm (by decide) (by decide)) ?_
        rw [r23, gP]
        refine V_iconst (pc := 74) C (dk k_F_take 38 rfl) rfl ?_
        refine V_icmpne (pc := 75) C (dk k_F_take 39 rfl) 85 rfl (by first | exact hR _ _ | with_reducible assumption | exact ⟨by omega, by omega⟩) (by first | exact hR _ _ | with_reducible assumption | exact ⟨by omega, by omega⟩) (fun h7 => ?_) (fun h7 => ?_)
        · skip
          refine V_aload_n (pc := 85) C (dk k_F_take 44 rfl) rfl ?_
          refine V_getr (pc := 86) (o2 := 19) C (dk k_F_take 45 rfl) fl_F_36 kq_0 (by decide) rfl (by decide) rfl ?_
          refine V_aload_n (pc := 89) C (dk k_F_take 46 rfl) rfl ?_
          refine V_getm (pc := 90) (o2 := pl) C (dk k_F_take 47 rfl) fl_F_26 kq_0 (by decide) rfl (by rw [tfr 0 (by omega)]; exact hm_pl) ?_
          refine V_iload (pc := 93) C (dk k_F_take 48 rfl) rfl ?_
          refine V_callV (pc := 95) C (dk k_F_take 49 rfl) lk_F_199 cm_S_isOffered vm_S_isOffered (c_S_isOffered _ _ _ 19 pl π x j i (hπ0.fr (fun k a b => tfr k (by omega))) ok (hx0.fr (fun k a b => tfr k (by omega))) xk (by omega) (by omega) (by omega)) kq_19 rfl rfl rfl (Nat.le_of_ble_eq_true rfl) (Rm.mono hRm (by decide) (by decide)) ?_
          refine V_ifeqB (pc := 98) C (dk k_F_take 50 rfl) 108 rfl (fun h8 => ?_) (fun h8 => ?_)
          · skip
            refine V_aload_n (pc := 108) C (dk k_F_take 57 rfl) rfl ?_
            refine V_getr (pc := 109) (o2 := 117) C (dk k_F_take 58 rfl) fl_F_63 kq_0 (by decide) rfl (by decide) rfl ?_
            refine V_iload (pc := 112) C (dk k_F_take 59 rfl) rfl ?_
            refine V_aload_n (pc := 114) C (dk k_F_take 60 rfl) rfl ?_
            refine V_getr (pc := 115) (o2 := 19) C (dk k_F_take 61 rfl) fl_F_36 kq_0 (by decide) rfl (by decide) rfl ?_
            refine V_aload_n (pc := 118) C (dk k_F_take 62 rfl) rfl ?_
            refine V_getm (pc := 119) (o2 := pl) C (dk k_F_take 63 rfl) fl_F_26 kq_0 (by decide) rfl (by rw [tfr 0 (by omega)]; exact hm_pl) ?_
            refine V_iload (pc := 122) C (dk k_F_take 64 rfl) rfl ?_
            refine V_callV (pc := 124) C (dk k_F_take 65 rfl) lk_F_146 cm_S_price vm_S_price (c_S_price _ _ _ 19 pl π x j i (hπ0.fr (fun k a b => tfr k (by omega))) ok (hx0.fr (fun k a b => tfr k (by omega))) xk (by omega) (by omega) (by omega)) kq_19 rfl rfl rfl (Nat.le_of_ble_eq_true rfl) (Rm.mono hRm (by decide) (by decide)) ?_
            refine V_iload (pc := 127) C (dk k_F_take 66 rfl) rfl ?_
            refine V_callV0 (pc := 129) C (dk k_F_take 67 rfl) lk_F_202 cm_C_offer vm_C_offer (c_C_offer _ _ _ i (prc π x i) (come π x n i) (by omega) (by omega) ⟨by omega, by omega⟩ ⟨by omega, by omega⟩) kq_117 rfl rfl rfl (Nat.le_of_ble_eq_true rfl) (Rm.mono hRm (by decide) (by decide)) ?_
            refine V_R (fun hR => ?_)
            refine V_iinc (pc := 132) C (dk k_F_take 68 rfl) (by rw [hXN]; decide) rfl ?_
            dsimp only [lst, lstL, lz, kill, Fin.val, Nat.reduceAdd]
            refine V_goto (pc := 135) C (dk k_F_take 69 rfl) 29 rfl ?_
            refine V_fg 6 ?_
            dsimp only [fg]
            refine V_eq (ih (i + 1, up (up τ 118 (i : Int) (prc π x i)) 119 (i : Int) (come π x n i)) ⟨by dsimp only; omega, fun t a b => ?_, (tfr.up _ _ (by omega) (by omega)).up _ _ (by omega) (by omega)⟩ (by dsimp only; omega)) ?_ rfl rfl
            · dsimp only at b ⊢
              by_cases ht : t = i
              · subst ht; exact ⟨(up_ne1 _ _ _ _ (by decide)).trans (up_at _ _ _ _), up_at _ _ _ _⟩
              · simp (disch := omega) only [up_ne1, up_ne2]; exact hv t a (by omega)
            · have hth : there π x n (i + 1) = there π x n i + (if sP x i = 1 then come π x n i else 0) := rfl
              rw [bs_s, hth]
              first | rw [if_pos (show takC π x (i : Int) = true from decide_eq_true ⟨by omega, by omega⟩), ← bs_or] | rw [if_neg (show ¬ takC π x (i : Int) = true from fun z => by have := of_decide_eq_true z; omega), Int.add_zero]
              first | (rw [if_pos (show sP x (i : Int) = 1 by omega)]; rfl) | (rw [if_neg (show ¬ sP x (i : Int) = 1 by omega), Int.add_zero]; rfl)
          · skip
            refine V_iload_n (pc := 101) C (dk k_F_take 51 rfl) rfl ?_
            refine V_iconst (pc := 102) C (dk k_F_take 52 rfl) rfl ?_
            refine V_iload (pc := 103) C (dk k_F_take 53 rfl) rfl ?_
            refine V_ishl (pc := 105) C (dk k_F_take 54 rfl) (by omega) (by omega) (by omega) hp8.1 ?_
            refine V_ior (pc := 106) C (dk k_F_take 55 rfl) ⟨by omega, by omega⟩ ⟨by omega, by omega⟩ (by omega) (by omega) ?_
            refine V_istore_n (pc := 107) C (dk k_F_take 56 rfl) (by rw [hXN]; decide) ?_
            dsimp only [lst, lstL, lz, kill, Fin.val, Nat.reduceAdd]
            refine V_aload_n (pc := 108) C (dk k_F_take 57 rfl) rfl ?_
            refine V_getr (pc := 109) (o2 := 117) C (dk k_F_take 58 rfl) fl_F_63 kq_0 (by decide) rfl (by decide) rfl ?_
            refine V_iload (pc := 112) C (dk k_F_take 59 rfl) rfl ?_
            refine V_aload_n (pc := 114) C (dk k_F_take 60 rfl) rfl ?_
            refine V_getr (pc := 115) (o2 := 19) C (dk k_F_take 61 rfl) fl_F_36 kq_0 (by decide) rfl (by decide) rfl ?_
            refine V_aload_n (pc := 118) C (dk k_F_take 62 rfl) rfl ?_
            refine V_getm (pc := 119) (o2 := pl) C (dk k_F_take 63 rfl) fl_F_26 kq_0 (by decide) rfl (by rw [tfr 0 (by omega)]; exact hm_pl) ?_
            refine V_iload (pc := 122) C (dk k_F_take 64 rfl) rfl ?_
            refine V_callV (pc := 124) C (dk k_F_take 65 rfl) lk_F_146 cm_S_price vm_S_price (c_S_price _ _ _ 19 pl π x j i (hπ0.fr (fun k a b => tfr k (by omega))) ok (hx0.fr (fun k a b => tfr k (by omega))) xk (by omega) (by omega) (by omega)) kq_19 rfl rfl rfl (Nat.le_of_ble_eq_true rfl) (Rm.mono hRm (by decide) (by decide)) ?_
            refine V_iload (pc := 127) C (dk k_F_take 66 rfl) rfl ?_
            refine V_callV0 (pc := 129) C (dk k_F_take 67 rfl) lk_F_202 cm_C_offer vm_C_offer (c_C_offer _ _ _ i (prc π x i) (come π x n i) (by omega) (by omega) ⟨by omega, by omega⟩ ⟨by omega, by omega⟩) kq_117 rfl rfl rfl (Nat.le_of_ble_eq_true rfl) (Rm.mono hRm (by decide) (by decide)) ?_
            refine V_R (fun hR => ?_)
            refine V_iinc (pc := 132) C (dk k_F_take 68 rfl) (by rw [hXN]; decide) rfl ?_
            dsimp only [lst, lstL, lz, kill, Fin.val, Nat.reduceAdd]
            refine V_goto (pc := 135) C (dk k_F_take 69 rfl) 29 rfl ?_
            refine V_fg 6 ?_
            dsimp only [fg]
            refine V_eq (ih (i + 1, up (up τ 118 (i : Int) (prc π x i)) 119 (i : Int) (come π x n i)) ⟨by dsimp only; omega, fun t a b => ?_, (tfr.up _ _ (by omega) (by omega)).up _ _ (by omega) (by omega)⟩ (by dsimp only; omega)) ?_ rfl rfl
            · dsimp only at b ⊢
              by_cases ht : t = i
              · subst ht; exact ⟨(up_ne1 _ _ _ _ (by decide)).trans (up_at _ _ _ _), up_at _ _ _ _⟩
              · simp (disch := omega) only [up_ne1, up_ne2]; exact hv t a (by omega)
            · have hth : there π x n (i + 1) = there π x n i + (if sP x i = 1 then come π x n i else 0) := rfl
              rw [bs_s, hth]
              first | rw [if_pos (show takC π x (i : Int) = true from decide_eq_true ⟨by omega, by omega⟩), ← bs_or] | rw [if_neg (show ¬ takC π x (i : Int) = true from fun z => by have := of_decide_eq_true z; omega), Int.add_zero]
              first | (rw [if_pos (show sP x (i : Int) = 1 by omega)]; rfl) | (rw [if_neg (show ¬ sP x (i : Int) = 1 by omega), Int.add_zero]; rfl)
        · skip
          refine V_iload (pc := 78) C (dk k_F_take 40 rfl) rfl ?_
          refine V_iload (pc := 80) C (dk k_F_take 41 rfl) rfl ?_
          refine V_iadd (pc := 82) C (dk k_F_take 42 rfl) ?_
          refine V_istore (pc := 83) C (dk k_F_take 43 rfl) (by rw [hXN]; decide) ?_
          dsimp only [lst, lstL, lz, kill, Fin.val, Nat.reduceAdd]
          refine V_aload_n (pc := 85) C (dk k_F_take 44 rfl) rfl ?_
          refine V_getr (pc := 86) (o2 := 19) C (dk k_F_take 45 rfl) fl_F_36 kq_0 (by decide) rfl (by decide) rfl ?_
          refine V_aload_n (pc := 89) C (dk k_F_take 46 rfl) rfl ?_
          refine V_getm (pc := 90) (o2 := pl) C (dk k_F_take 47 rfl) fl_F_26 kq_0 (by decide) rfl (by rw [tfr 0 (by omega)]; exact hm_pl) ?_
          refine V_iload (pc := 93) C (dk k_F_take 48 rfl) rfl ?_
          refine V_callV (pc := 95) C (dk k_F_take 49 rfl) lk_F_199 cm_S_isOffered vm_S_isOffered (c_S_isOffered _ _ _ 19 pl π x j i (hπ0.fr (fun k a b => tfr k (by omega))) ok (hx0.fr (fun k a b => tfr k (by omega))) xk (by omega) (by omega) (by omega)) kq_19 rfl rfl rfl (Nat.le_of_ble_eq_true rfl) (Rm.mono hRm (by decide) (by decide)) ?_
          refine V_ifeqB (pc := 98) C (dk k_F_take 50 rfl) 108 rfl (fun h9 => ?_) (fun h9 => ?_)
          · skip
            refine V_aload_n (pc := 108) C (dk k_F_take 57 rfl) rfl ?_
            refine V_getr (pc := 109) (o2 := 117) C (dk k_F_take 58 rfl) fl_F_63 kq_0 (by decide) rfl (by decide) rfl ?_
            refine V_iload (pc := 112) C (dk k_F_take 59 rfl) rfl ?_
            refine V_aload_n (pc := 114) C (dk k_F_take 60 rfl) rfl ?_
            refine V_getr (pc := 115) (o2 := 19) C (dk k_F_take 61 rfl) fl_F_36 kq_0 (by decide) rfl (by decide) rfl ?_
            refine V_aload_n (pc := 118) C (dk k_F_take 62 rfl) rfl ?_
            refine V_getm (pc := 119) (o2 := pl) C (dk k_F_take 63 rfl) fl_F_26 kq_0 (by decide) rfl (by rw [tfr 0 (by omega)]; exact hm_pl) ?_
            refine V_iload (pc := 122) C (dk k_F_take 64 rfl) rfl ?_
            refine V_callV (pc := 124) C (dk k_F_take 65 rfl) lk_F_146 cm_S_price vm_S_price (c_S_price _ _ _ 19 pl π x j i (hπ0.fr (fun k a b => tfr k (by omega))) ok (hx0.fr (fun k a b => tfr k (by omega))) xk (by omega) (by omega) (by omega)) kq_19 rfl rfl rfl (Nat.le_of_ble_eq_true rfl) (Rm.mono hRm (by decide) (by decide)) ?_
            refine V_iload (pc := 127) C (dk k_F_take 66 rfl) rfl ?_
            refine V_callV0 (pc := 129) C (dk k_F_take 67 rfl) lk_F_202 cm_C_offer vm_C_offer (c_C_offer _ _ _ i (prc π x i) (come π x n i) (by omega) (by omega) ⟨by omega, by omega⟩ ⟨by omega, by omega⟩) kq_117 rfl rfl rfl (Nat.le_of_ble_eq_true rfl) (Rm.mono hRm (by decide) (by decide)) ?_
            refine V_R (fun hR => ?_)
            refine V_iinc (pc := 132) C (dk k_F_take 68 rfl) (by rw [hXN]; decide) rfl ?_
            dsimp only [lst, lstL, lz, kill, Fin.val, Nat.reduceAdd]
            refine V_goto (pc := 135) C (dk k_F_take 69 rfl) 29 rfl ?_
            refine V_fg 6 ?_
            dsimp only [fg]
            refine V_eq (ih (i + 1, up (up τ 118 (i : Int) (prc π x i)) 119 (i : Int) (come π x n i)) ⟨by dsimp only; omega, fun t a b => ?_, (tfr.up _ _ (by omega) (by omega)).up _ _ (by omega) (by omega)⟩ (by dsimp only; omega)) ?_ rfl rfl
            · dsimp only at b ⊢
              by_cases ht : t = i
              · subst ht; exact ⟨(up_ne1 _ _ _ _ (by decide)).trans (up_at _ _ _ _), up_at _ _ _ _⟩
              · simp (disch := omega) only [up_ne1, up_ne2]; exact hv t a (by omega)
            · have hth : there π x n (i + 1) = there π x n i + (if sP x i = 1 then come π x n i else 0) := rfl
              rw [bs_s, hth]
              first | rw [if_pos (show takC π x (i : Int) = true from decide_eq_true ⟨by omega, by omega⟩), ← bs_or] | rw [if_neg (show ¬ takC π x (i : Int) = true from fun z => by have := of_decide_eq_true z; omega), Int.add_zero]
              first | (rw [if_pos (show sP x (i : Int) = 1 by omega)]; rfl) | (rw [if_neg (show ¬ sP x (i : Int) = 1 by omega), Int.add_zero]; rfl)
          · skip
            refine V_iload_n (pc := 101) C (dk k_F_take 51 rfl) rfl ?_
            refine V_iconst (pc := 102) C (dk k_F_take 52 rfl) rfl ?_
            refine V_iload (pc := 103) C (dk k_F_take 53 rfl) rfl ?_
            refine V_ishl (pc := 105) C (dk k_F_take 54 rfl) (by omega) (by omega) (by omega) hp8.1 ?_
            refine V_ior (pc := 106) C (dk k_F_take 55 rfl) ⟨by omega, by omega⟩ ⟨by omega, by omega⟩ (by omega) (by omega) ?_
            refine V_istore_n (pc := 107) C (dk k_F_take 56 rfl) (by rw [hXN]; decide) ?_
            dsimp only [lst, lstL, lz, kill, Fin.val, Nat.reduceAdd]
            refine V_aload_n (pc := 108) C (dk k_F_take 57 rfl) rfl ?_
            refine V_getr (pc := 109) (o2 := 117) C (dk k_F_take 58 rfl) fl_F_63 kq_0 (by decide) rfl (by decide) rfl ?_
            refine V_iload (pc := 112) C (dk k_F_take 59 rfl) rfl ?_
            refine V_aload_n (pc := 114) C (dk k_F_take 60 rfl) rfl ?_
            refine V_getr (pc := 115) (o2 := 19) C (dk k_F_take 61 rfl) fl_F_36 kq_0 (by decide) rfl (by decide) rfl ?_
            refine V_aload_n (pc := 118) C (dk k_F_take 62 rfl) rfl ?_
            refine V_getm (pc := 119) (o2 := pl) C (dk k_F_take 63 rfl) fl_F_26 kq_0 (by decide) rfl (by rw [tfr 0 (by omega)]; exact hm_pl) ?_
            refine V_iload (pc := 122) C (dk k_F_take 64 rfl) rfl ?_
            refine V_callV (pc := 124) C (dk k_F_take 65 rfl) lk_F_146 cm_S_price vm_S_price (c_S_price _ _ _ 19 pl π x j i (hπ0.fr (fun k a b => tfr k (by omega))) ok (hx0.fr (fun k a b => tfr k (by omega))) xk (by omega) (by omega) (by omega)) kq_19 rfl rfl rfl (Nat.le_of_ble_eq_true rfl) (Rm.mono hRm (by decide) (by decide)) ?_
            refine V_iload (pc := 127) C (dk k_F_take 66 rfl) rfl ?_
            refine V_callV0 (pc := 129) C (dk k_F_take 67 rfl) lk_F_202 cm_C_offer vm_C_offer (c_C_offer _ _ _ i (prc π x i) (come π x n i) (by omega) (by omega) ⟨by omega, by omega⟩ ⟨by omega, by omega⟩) kq_117 rfl rfl rfl (Nat.le_of_ble_eq_true rfl) (Rm.mono hRm (by decide) (by decide)) ?_
            refine V_R (fun hR => ?_)
            refine V_iinc (pc := 132) C (dk k_F_take 68 rfl) (by rw [hXN]; decide) rfl ?_
            dsimp only [lst, lstL, lz, kill, Fin.val, Nat.reduceAdd]
            refine V_goto (pc := 135) C (dk k_F_take 69 rfl) 29 rfl ?_
            refine V_fg 6 ?_
            dsimp only [fg]
            refine V_eq (ih (i + 1, up (up τ 118 (i : Int) (prc π x i)) 119 (i : Int) (come π x n i)) ⟨by dsimp only; omega, fun t a b => ?_, (tfr.up _ _ (by omega) (by omega)).up _ _ (by omega) (by omega)⟩ (by dsimp only; omega)) ?_ rfl rfl
            · dsimp only at b ⊢
              by_cases ht : t = i
              · subst ht; exact ⟨(up_ne1 _ _ _ _ (by decide)).trans (up_at _ _ _ _), up_at _ _ _ _⟩
              · simp (disch := omega) only [up_ne1, up_ne2]; exact hv t a (by omega)
            · have hth : there π x n (i + 1) = there π x n i + (if sP x i = 1 then come π x n i else 0) := rfl
              rw [bs_s, hth]
              first | rw [if_pos (show takC π x (i : Int) = true from decide_eq_true ⟨by omega, by omega⟩), ← bs_or] | rw [if_neg (show ¬ takC π x (i : Int) = true from fun z => by have := of_decide_eq_true z; omega), Int.add_zero]
              first | (rw [if_pos (show sP x (i : Int) = 1 by omega)]; rfl) | (rw [if_neg (show ¬ sP x (i : Int) = 1 by omega), Int.add_zero]; rfl)
    · skip
      refine V_iconst (pc := 19) C (dk k_F_take 10 rfl) rfl ?_
      refine V_iret (pc := 20) C E (dk k_F_take 11 rfl) ?_
      rw [show o_take π x n k = -1 from if_neg (by omega)]
      exact ⟨rfl, hC, Fc.rf σ⟩
end
section
def chr (tx : List Int) (i : Nat) : Int := tx.getD i 0
theorem chr_at {tx : List Int} {i : Nat} (h : i < tx.length) : tx[i]? = some (chr tx i) := by
  unfold chr; rw [List.getD_eq_getElem?_getD, List.getElem?_eq_getElem h]; rfl
theorem chr_out {tx : List Int} {i : Nat} (h : tx.length ≤ i) : chr tx i = 0 := by
  unfold chr; rw [List.getD_eq_getElem?_getD, List.getElem?_eq_none h]; rfl
theorem chr_b {σ : Wd} {tx : List Int} (h : TxR σ tx) (i : Nat) : 0 ≤ chr tx i ∧ chr tx i ≤ 126 := by
  by_cases hi : i < tx.length
  · have := (h.2.2 i _ (chr_at hi)).2
    omega
  · rw [chr_out (by omega)]; omega
theorem c_let (l : Launch) (G : GE) (σ : Wd) (tx : List Int) (i : Nat) (h : TxR σ tx) (hi : i < 2000) : Ct l G y_L_letter b_L_letter 2 (some (.char)) 0 0 [vR 1, vI (i : Int)] σ (Dt (some (vI (chr tx i))) σ) := by
  have ⟨t1, t2, t3⟩ := h
  have H := c_L_letter l G σ (i : Int) ⟨by omega, by omega⟩ (by omega) (by omega) (fun k a b => by
    have hk : k.toNat < tx.length := by omega
    have := t3 k.toNat _ (chr_at hk)
    rw [Int.toNat_of_nonneg a] at this
    omega)
  by_cases hl : i < tx.length
  · rw [if_pos ⟨by omega, by omega⟩, (t3 i _ (chr_at hl)).1] at H
    exact H
  · rw [if_neg (by omega)] at H
    rw [chr_out (by omega)]
    exact H
abbrev fig (c : Int) : Prop := 48 ≤ c ∧ c ≤ 57
/-- a number of one figure or two at a place, and the place behind it -/
def num (tx : List Int) (i : Nat) : Option (Int × Nat) :=
  if fig (chr tx i) then (if fig (chr tx (i + 1)) then some (10 * (chr tx i - 48) + chr tx (i + 1) - 48, i + 2) else some (chr tx i - 48, i + 1)) else none
def rdN (tx : List Int) : Nat → Nat → List Int → Option (List Int × Nat)
  | 0, _, _ => none
  | f + 1, i, acc => match num tx i with
    | none => none
    | some (v, i1) => if chr tx i1 = 59 then some (acc ++ [v], i1 + 1) else if chr tx i1 = 44 then rdN tx f (i1 + 1) (acc ++ [v]) else none
/-- what has been read so far: money; things; rates; the shop's money, L -/
abbrev DS : Type := List Int × (List (Int × (Int × (Int × Int))) × (List Int × (Int × Int)))
def dM (d : DS) : List Int := d.1
def dT (d : DS) : List (Int × (Int × (Int × Int))) := d.2.1
def dX (d : DS) : List Int := d.2.2.1
def dS (d : DS) : Int := d.2.2.2.1
def dL (d : DS) : Int := d.2.2.2.2
def tell (d : DS) (c : Int) (ns : List Int) : Option DS :=
  if c = 97 then (if ns.length = 1 ∧ (dM d).length < 5 then some (dM d ++ [ns.getD 0 0], d.2) else none)
  else if c = 117 then (if ns.length = 4 ∧ (dT d).length < 8 ∧ (0 ≤ ns.getD 0 0 ∧ ns.getD 0 0 ≤ (dM d).length - 1) ∧ (0 ≤ ns.getD 1 0 ∧ ns.getD 1 0 ≤ 3) ∧ (1 ≤ ns.getD 2 0 ∧ ns.getD 2 0 ≤ 20) ∧ (0 ≤ ns.getD 3 0 ∧ ns.getD 3 0 ≤ 20) then some (dM d, (dT d ++ [(ns.getD 0 0, (ns.getD 1 0, (ns.getD 2 0, ns.getD 3 0)))], d.2.2)) else none)
  else if c = 120 then (if ns.length = 1 ∧ (dX d).length < 12 ∧ ns.getD 0 0 ≤ 9 then some (dM d, (dT d, (dX d ++ [ns.getD 0 0], d.2.2.2))) else none)
  else if c = 115 then (if ns.length = 2 ∧ ns.getD 1 0 ≤ 20 then some (dM d, (dT d, (dX d, (ns.getD 0 0, ns.getD 1 0)))) else none)
  else none
def rdI (tx : List Int) : Nat → Nat → DS → Int × DS
  | 0, _, d => (-4, d)
  | f + 1, i, d => if i < tx.length then (match rdN tx 4 (i + 1) [] with
      | none => ((i : Int), d)
      | some (ns, i1) => match tell d (chr tx i) ns with
        | none => ((i : Int), d)
        | some d' => rdI tx f i1 d') else (-4, d)
def d0 : DS := ([], ([], ([], (60, 4))))
def o_read (tx : List Int) : Int × DS := rdI tx 200 0 d0
/-- a plan that is being read into -/
def DR (σ : Wd) (p : Nat) (d : DS) : Prop := kd p = 5 ∧ (σ p 0 = (dM d).length ∧ (dM d).length ≤ 5) ∧ (σ p 2 = (dT d).length ∧ (dT d).length ≤ 8) ∧ (σ p 7 = (dX d).length ∧ (dX d).length ≤ 12) ∧ (σ p 9 = dS d ∧ σ p 10 = dL d) ∧ (∀ (k : Nat) (v : Int), (dM d)[k]? = some v → σ (p + 1) k = v) ∧ (∀ (k : Nat) (q : Int × (Int × (Int × Int))), (dT d)[k]? = some q → σ (p + 2) k = q.1 ∧ σ (p + 3) k = q.2.1 ∧ σ (p + 4) k = q.2.2.1 ∧ σ (p + 5) k = q.2.2.2) ∧ (∀ (k : Nat) (v : Int), (dX d)[k]? = some v → σ (p + 6) k = v)
theorem rowApp {α : Type} {l : List α} {x z : α} {k : Nat} (h : (l ++ [x])[k]? = some z) : (k < l.length ∧ l[k]? = some z) ∨ (k = l.length ∧ z = x) := by
  by_cases hk : k < l.length
  · rw [List.getElem?_append_left hk] at h; exact Or.inl ⟨hk, h⟩
  · rw [List.getElem?_append_right (by omega)] at h
    have hz : k - l.length = 0 := by
      have := (List.getElem?_eq_some_iff.mp h).1
      simp at this; omega
    rw [hz] at h
    simp at h
    exact Or.inr ⟨by omega, h.symm⟩
theorem DR.addM {σ : Wd} {p : Nat} {d : DS} (h : DR σ p d) (hl : (dM d).length < 5) (v : Int) : DR (up (up σ (p + 1) (dM d).length v) p 0 ((dM d).length + 1)) p (dM d ++ [v], d.2) := by
  obtain ⟨h0, ⟨h1, h1b⟩, ⟨h2, h2b⟩, ⟨h3, h3b⟩, ⟨h4, h5⟩, h6, h7, h8⟩ := h
  refine ⟨h0, ⟨?_, ?_⟩, ⟨?_, h2b⟩, ⟨?_, h3b⟩, ⟨?_, ?_⟩, fun k z hk => ?_, fun k q hk => ?_, fun k z hk => ?_⟩
  · rw [up_at]; show _ = ((dM d ++ [v]).length : Int); rw [List.length_append]; rfl
  · show (dM d ++ [v]).length ≤ 5; rw [List.length_append, List.length_singleton]; omega
  · simp (disch := omega) only [up_ne1, up_ne2]; exact h2
  · simp (disch := omega) only [up_ne1, up_ne2]; exact h3
  · simp (disch := omega) only [up_ne1, up_ne2]; exact h4
  · simp (disch := omega) only [up_ne1, up_ne2]; exact h5
  · rcases rowApp hk with ⟨a, b⟩ | ⟨a, b⟩
    · simp (disch := omega) only [up_ne1, up_ne2]; exact h6 k z b
    · subst b; rw [a]; simp (disch := omega) only [up_ne1, up_at]
  · have := h7 k q hk
    simp (disch := omega) only [up_ne1]; exact this
  · simp (disch := omega) only [up_ne1]; exact h8 k z hk
theorem DR.addX {σ : Wd} {p : Nat} {d : DS} (h : DR σ p d) (hl : (dX d).length < 12) (v : Int) : DR (up (up σ (p + 6) (dX d).length v) p 7 ((dX d).length + 1)) p (dM d, (dT d, (dX d ++ [v], d.2.2.2))) := by
  obtain ⟨h0, ⟨h1, h1b⟩, ⟨h2, h2b⟩, ⟨h3, h3b⟩, ⟨h4, h5⟩, h6, h7, h8⟩ := h
  refine ⟨h0, ⟨?_, h1b⟩, ⟨?_, h2b⟩, ⟨?_, ?_⟩, ⟨?_, ?_⟩, fun k z hk => ?_, fun k q hk => ?_, fun k z hk => ?_⟩
  · simp (disch := omega) only [up_ne1, up_ne2]; exact h1
  · simp (disch := omega) only [up_ne1, up_ne2]; exact h2
  · rw [up_at]; show _ = ((dX d ++ [v]).length : Int); rw [List.length_append]; rfl
  · show (dX d ++ [v]).length ≤ 12; rw [List.length_append, List.length_singleton]; omega
  · simp (disch := omega) only [up_ne1, up_ne2]; exact h4
  · simp (disch := omega) only [up_ne1, up_ne2]; exact h5
  · simp (disch := omega) only [up_ne1]; exact h6 k z hk
  · have := h7 k q hk
    simp (disch := omega) only [up_ne1]; exact this
  · rcases rowApp hk with ⟨a, b⟩ | ⟨a, b⟩
    · simp (disch := omega) only [up_ne1, up_ne2]; exact h8 k z b
    · subst b; rw [a]; simp (disch := omega) only [up_ne1, up_at]
theorem DR.addT {σ : Wd} {p : Nat} {d : DS} (h : DR σ p d) (hl : (dT d).length < 8) (a b c e : Int) : DR (up (up (up (up (up σ (p + 2) (dT d).length a) (p + 3) (dT d).length b) (p + 4) (dT d).length c) (p + 5) (dT d).length e) p 2 ((dT d).length + 1)) p (dM d, (dT d ++ [(a, (b, (c, e)))], d.2.2)) := by
  obtain ⟨h0, ⟨h1, h1b⟩, ⟨h2, h2b⟩, ⟨h3, h3b⟩, ⟨h4, h5⟩, h6, h7, h8⟩ := h
  refine ⟨h0, ⟨?_, h1b⟩, ⟨?_, ?_⟩, ⟨?_, h3b⟩, ⟨?_, ?_⟩, fun k z hk => ?_, fun k q hk => ?_, fun k z hk => ?_⟩
  · simp (disch := omega) only [up_ne1, up_ne2]; exact h1
  · rw [up_at]; show _ = ((dT d ++ [(a, (b, (c, e)))]).length : Int); rw [List.length_append]; rfl
  · show (dT d ++ [(a, (b, (c, e)))]).length ≤ 8; rw [List.length_append, List.length_singleton]; omega
  · simp (disch := omega) only [up_ne1, up_ne2]; exact h3
  · simp (disch := omega) only [up_ne1, up_ne2]; exact h4
  · simp (disch := omega) only [up_ne1, up_ne2]; exact h5
  · simp (disch := omega) only [up_ne1]; exact h6 k z hk
  · rcases rowApp hk with ⟨i, j⟩ | ⟨i, j⟩
    · have := h7 k q j
      simp (disch := omega) only [up_ne1, up_ne2]; exact this
    · subst j; rw [i]; simp (disch := omega) only [up_ne1, up_at]; exact ⟨trivial, trivial, trivial, trivial⟩
  · simp (disch := omega) only [up_ne1]; exact h8 k z hk
theorem DR.shop {σ : Wd} {p : Nat} {d : DS} (h : DR σ p d) (a b : Int) : DR (up (up σ p 9 a) p 10 b) p (dM d, (dT d, (dX d, (a, b)))) := by
  obtain ⟨h0, ⟨h1, h1b⟩, ⟨h2, h2b⟩, ⟨h3, h3b⟩, ⟨h4, h5⟩, h6, h7, h8⟩ := h
  refine ⟨h0, ⟨?_, h1b⟩, ⟨?_, h2b⟩, ⟨?_, h3b⟩, ⟨?_, ?_⟩, fun k z hk => ?_, fun k q hk => ?_, fun k z hk => ?_⟩
  · simp (disch := omega) only [up_ne1, up_ne2]; exact h1
  · simp (disch := omega) only [up_ne1, up_ne2]; exact h2
  · simp (disch := omega) only [up_ne1, up_ne2]; exact h3
  · simp (disch := omega) only [up_ne2, up_at]; rfl
  · rw [up_at]; rfl
  · simp (disch := omega) only [up_ne1]; exact h6 k z hk
  · have := h7 k q hk
    simp (disch := omega) only [up_ne1]; exact this
  · simp (disch := omega) only [up_ne1]; exact h8 k z hk
theorem DR.fr {σ σ' : Wd} {p : Nat} {d : DS} (h : DR σ p d) (hf : ∀ k, p ≤ k → k < p + 7 → σ' k = σ k) : DR σ' p d := by
  obtain ⟨h0, h1, h2, h3, h4, h6, h7, h8⟩ := h
  have e := hf p (by omega) (by omega)
  refine ⟨h0, by rw [e]; exact h1, by rw [e]; exact h2, by rw [e]; exact h3, by rw [e]; exact h4, fun k z hk => ?_, fun k q hk => ?_, fun k z hk => ?_⟩
  · rw [hf (p + 1) (by omega) (by omega)]; exact h6 k z hk
  · rw [hf (p + 2) (by omega) (by omega), hf (p + 3) (by omega) (by omega), hf (p + 4) (by omega) (by omega), hf (p + 5) (by omega) (by omega)]; exact h7 k q hk
  · rw [hf (p + 6) (by omega) (by omega)]; exact h8 k z hk
/-- the numbers that have been read -/
def NsR (σ : Wd) (ns : List Int) : Prop := σ 3 1 = ns.length ∧ ns.length ≤ 4 ∧ ∀ (k : Nat) (v : Int), ns[k]? = some v → σ 4 k = v ∧ 0 ≤ v ∧ v ≤ 99
theorem NsR.at {σ : Wd} {ns : List Int} (h : NsR σ ns) {k : Nat} (hk : k < ns.length) : σ 4 k = ns.getD k 0 ∧ 0 ≤ ns.getD k 0 ∧ ns.getD k 0 ≤ 99 := by
  refine h.2.2 k _ ?_
  rw [List.getD_eq_getElem?_getD, List.getElem?_eq_getElem hk]; rfl

def i_P_clear : List (Nat × (Instr × Nat)) := [(0, (.aload_n 0, 1)), (1, (.iconst 0, 1)), (2, (.putfield 30, 3)), (5, (.aload_n 0, 1)), (6, (.iconst 0, 1)), (7, (.putfield 34, 3)), (10, (.aload_n 0, 1)), (11, (.iconst 0, 1)), (12, (.putfield 37, 3)), (15, (.aload_n 0, 1)), (16, (.bipush 60, 2)), (18, (.putfield 40, 3)), (21, (.aload_n 0, 1)), (22, (.iconst 4, 1)), (23, (.putfield 43, 3)), (26, (.return_, 1))]
theorem k_P_clear : i_P_clear.all (fun q => decide (decode b_P_clear q.1 = .ok q.2)) = true := by decide +kernel

set_option maxHeartbeats 1000000 in
set_option maxRecDepth 20000 in
theorem c_P_clear (l : Launch) (G : GE) (σ : Wd) (p : Nat) (hp : kd p = 5) : Ct l G y_P_clear b_P_clear 1 (none) 0 0 [vR p] σ (Rt none (fun σ' => DR σ' p d0 ∧ Fr p 7 σ σ')) := by
  refine Ct.of cm_P_clear (Nat.le_of_ble_eq_true rfl) ?_
  intro X hXl hXG hXN hRm C E
  subst hXl; subst hXG
  show V X 0 [some (vR p)] [] σ
  refine V_R (fun hR => ?_)
  refine V_aload_n (pc := 0) C (dk k_P_clear 0 rfl) rfl ?_
  refine V_iconst (pc := 1) C (dk k_P_clear 1 rfl) rfl ?_
  refine V_puti (pc := 2) (ji := 0) C (dk k_P_clear 2 rfl) fl_P_30 fw_5_0 hp (by decide) rfl rfl ⟨by decide, by decide⟩ ?_
  refine V_R (fun hR => ?_)
  refine V_aload_n (pc := 5) C (dk k_P_clear 3 rfl) rfl ?_
  refine V_iconst (pc := 6) C (dk k_P_clear 4 rfl) rfl ?_
  refine V_puti (pc := 7) (ji := 2) C (dk k_P_clear 5 rfl) fl_P_34 fw_5_2 hp (by decide) rfl rfl ⟨by decide, by decide⟩ ?_
  refine V_R (fun hR => ?_)
  refine V_aload_n (pc := 10) C (dk k_P_clear 6 rfl) rfl ?_
  refine V_iconst (pc := 11) C (dk k_P_clear 7 rfl) rfl ?_
  refine V_puti (pc := 12) (ji := 7) C (dk k_P_clear 8 rfl) fl_P_37 fw_5_7 hp (by decide) rfl rfl ⟨by decide, by decide⟩ ?_
  refine V_R (fun hR => ?_)
  refine V_aload_n (pc := 15) C (dk k_P_clear 9 rfl) rfl ?_
  refine V_bipush (pc := 16) (n' := 60) C (dk k_P_clear 10 rfl) rfl ?_
  refine V_puti (pc := 18) (ji := 9) C (dk k_P_clear 11 rfl) fl_P_40 fw_5_9 hp (by decide) rfl rfl ⟨by decide, by decide⟩ ?_
  refine V_R (fun hR => ?_)
  refine V_aload_n (pc := 21) C (dk k_P_clear 12 rfl) rfl ?_
  refine V_iconst (pc := 22) C (dk k_P_clear 13 rfl) rfl ?_
  refine V_puti (pc := 23) (ji := 10) C (dk k_P_clear 14 rfl) fl_P_43 fw_5_10 hp (by decide) rfl rfl ⟨by decide, by decide⟩ ?_
  refine V_R (fun hR => ?_)
  refine V_vret (pc := 26) C E (dk k_P_clear 15 rfl) ?_
  refine ⟨rfl, ⟨hp, ⟨?_, by decide⟩, ⟨?_, by decide⟩, ⟨?_, by decide⟩, ⟨?_, ?_⟩, fun k z h => by simp [dM, d0] at h, fun k q h => by simp [dT, d0] at h, fun k z h => by simp [dX, d0] at h⟩, ((((Fr.rf p 7 σ).up _ _ (by omega) (by omega)).up _ _ (by omega) (by omega)).up _ _ (by omega) (by omega)).up _ _ (by omega) (by omega) |>.up _ _ (by omega) (by omega)⟩
  all_goals (simp (disch := omega) only [up_ne2, up_at]; rfl)

def i_P_addPerson : List (Nat × (Instr × Nat)) := [(0, (.aload_n 0, 1)), (1, (.getfield 30, 3)), (4, (.iconst 5, 1)), (5, (.if_icmp .lt 5, 3)), (8, (.iconst 0, 1)), (9, (.ireturn, 1)), (10, (.aload_n 0, 1)), (11, (.getfield 9, 3)), (14, (.aload_n 0, 1)), (15, (.getfield 30, 3)), (18, (.iload_n 1, 1)), (19, (.invokestatic 50, 3)), (22, (.aload_n 0, 1)), (23, (.dup, 1)), (24, (.getfield 30, 3)), (27, (.iconst 1, 1)), (28, (.iadd, 1)), (29, (.putfield 30, 3)), (32, (.iconst 1, 1)), (33, (.ireturn, 1))]
theorem k_P_addPerson : i_P_addPerson.all (fun q => decide (decode b_P_addPerson q.1 = .ok q.2)) = true := by decide +kernel

set_option maxHeartbeats 1000000 in
set_option maxRecDepth 20000 in
theorem c_P_addPerson (l : Launch) (G : GE) (σ : Wd) (p : Nat) (d : DS) (v : Int) (hd : DR σ p d) (hv : inR v) : Ct l G y_P_addPerson b_P_addPerson 2 (some (.boolean)) 1 22 [vR p, vI v] σ (Rt (some (vI (if (dM d).length < 5 then 1 else 0))) (fun σ' => ((dM d).length < 5 → DR σ' p (dM d ++ [v], d.2)) ∧ Fr p 7 σ σ')) := by
  refine Ct.of cm_P_addPerson (Nat.le_of_ble_eq_true rfl) ?_
  intro X hXl hXG hXN hRm C E
  subst hXl; subst hXG
  have ⟨hv_1, hv_2⟩ := hv
  show V X 0 [some (vR p), some (vI v)] [] σ
  refine V_R (fun hR => ?_)
  obtain ⟨hp, ⟨a0, a1⟩, ⟨b0, b1⟩, ⟨c0, c1⟩, ⟨s0, s1⟩, r1, r2, r3⟩ := id hd
  obtain ⟨hp_1, hp_2, hp_3, hp_4, hp_5, hp_6⟩ := kd_P hp
  refine V_aload_n (pc := 0) C (dk k_P_addPerson 0 rfl) rfl ?_
  refine V_geti (pc := 1) (ji := 0) C (dk k_P_addPerson 1 rfl) fl_P_30 hp (by decide) rfl rfl ?_
  refine V_iconst (pc := 4) C (dk k_P_addPerson 2 rfl) rfl ?_
  refine V_icmplt (pc := 5) C (dk k_P_addPerson 3 rfl) 10 rfl (by first | exact hR _ _ | with_reducible assumption | exact ⟨by omega, by omega⟩) (by first | exact hR _ _ | with_reducible assumption | exact ⟨by omega, by omega⟩) (fun h1 => ?_) (fun h1 => ?_)
  · skip
    refine V_aload_n (pc := 10) C (dk k_P_addPerson 6 rfl) rfl ?_
    refine V_getr (pc := 11) (o2 := p + 1) C (dk k_P_addPerson 7 rfl) fl_P_9 hp (by decide) rfl (by decide) rfl ?_
    refine V_aload_n (pc := 14) C (dk k_P_addPerson 8 rfl) rfl ?_
    refine V_geti (pc := 15) (ji := 0) C (dk k_P_addPerson 9 rfl) fl_P_30 hp (by decide) rfl rfl ?_
    refine V_iload_n (pc := 18) C (dk k_P_addPerson 10 rfl) rfl ?_
    rw [a0]
    refine V_callS0 (pc := 19) C (dk k_P_addPerson 11 rfl) lk_P_50 cm_F_put sm_F_put (c_put _ _ _ (p + 1) 5 ((dM d).length : Int) v hp_1 (by decide) (by omega) (by omega) hv) rfl rfl (Nat.le_of_ble_eq_true rfl) (Rm.mono hRm (by decide) (by decide)) ?_
    refine V_R (fun hR => ?_)
    refine V_aload_n (pc := 22) C (dk k_P_addPerson 12 rfl) rfl ?_
    refine V_dupR (pc := 23) C (dk k_P_addPerson 13 rfl) ?_
    refine V_geti (pc := 24) (ji := 0) C (dk k_P_addPerson 14 rfl) fl_P_30 hp (by decide) rfl rfl ?_
    refine V_iconst (pc := 27) C (dk k_P_addPerson 15 rfl) rfl ?_
    have e1 : up σ (p + 1) ((dM d).length : Int) v p 0 = (dM d).length := by rw [up_ne1 _ _ _ _ (by omega)]; exact a0
    rw [e1]
    refine V_iadd (pc := 28) C (dk k_P_addPerson 16 rfl) ?_
    refine V_puti (pc := 29) (ji := 0) C (dk k_P_addPerson 17 rfl) fl_P_30 fw_5_0 hp (by decide) rfl rfl ⟨by omega, by omega⟩ ?_
    refine V_R (fun hR => ?_)
    refine V_iconst (pc := 32) C (dk k_P_addPerson 18 rfl) rfl ?_
    refine V_zret (pc := 33) C (by first | exact Or.inl rfl | exact Or.inr rfl | (split <;> first | exact Or.inl rfl | exact Or.inr rfl) | omega) E (dk k_P_addPerson 19 rfl) ?_
    rw [if_pos (by omega)]
    exact ⟨rfl, fun z => hd.addM z v, ((Fr.rf p 7 σ).up _ _ (by omega) (by omega)).up _ _ (by omega) (by omega)⟩
  · skip
    refine V_iconst (pc := 8) C (dk k_P_addPerson 4 rfl) rfl ?_
    refine V_zret (pc := 9) C (by first | exact Or.inl rfl | exact Or.inr rfl | (split <;> first | exact Or.inl rfl | exact Or.inr rfl) | omega) E (dk k_P_addPerson 5 rfl) ?_
    rw [if_neg (by omega)]
    exact ⟨rfl, fun z => by omega, Fr.rf _ _ _⟩

def i_P_addRate : List (Nat × (Instr × Nat)) := [(0, (.aload_n 0, 1)), (1, (.getfield 37, 3)), (4, (.bipush 12, 2)), (6, (.if_icmp .ge 9, 3)), (9, (.iload_n 1, 1)), (10, (.bipush 9, 2)), (12, (.if_icmp .le 5, 3)), (15, (.iconst 0, 1)), (16, (.ireturn, 1)), (17, (.aload_n 0, 1)), (18, (.getfield 27, 3)), (21, (.aload_n 0, 1)), (22, (.getfield 37, 3)), (25, (.iload_n 1, 1)), (26, (.invokestatic 50, 3)), (29, (.aload_n 0, 1)), (30, (.dup, 1)), (31, (.getfield 37, 3)), (34, (.iconst 1, 1)), (35, (.iadd, 1)), (36, (.putfield 37, 3)), (39, (.iconst 1, 1)), (40, (.ireturn, 1))]
theorem k_P_addRate : i_P_addRate.all (fun q => decide (decode b_P_addRate q.1 = .ok q.2)) = true := by decide +kernel

set_option maxHeartbeats 1000000 in
set_option maxRecDepth 20000 in
theorem c_P_addRate (l : Launch) (G : GE) (σ : Wd) (p : Nat) (d : DS) (v : Int) (hd : DR σ p d) (hv : inR v) : Ct l G y_P_addRate b_P_addRate 2 (some (.boolean)) 1 22 [vR p, vI v] σ (Rt (some (vI (if (dX d).length < 12 ∧ v ≤ 9 then 1 else 0))) (fun σ' => ((dX d).length < 12 ∧ v ≤ 9 → DR σ' p (dM d, (dT d, (dX d ++ [v], d.2.2.2)))) ∧ Fr p 7 σ σ')) := by
  refine Ct.of cm_P_addRate (Nat.le_of_ble_eq_true rfl) ?_
  intro X hXl hXG hXN hRm C E
  subst hXl; subst hXG
  have ⟨hv_1, hv_2⟩ := hv
  show V X 0 [some (vR p), some (vI v)] [] σ
  refine V_R (fun hR => ?_)
  obtain ⟨hp, ⟨a0, a1⟩, ⟨b0, b1⟩, ⟨c0, c1⟩, ⟨s0, s1⟩, r1, r2, r3⟩ := id hd
  obtain ⟨hp_1, hp_2, hp_3, hp_4, hp_5, hp_6⟩ := kd_P hp
  refine V_aload_n (pc := 0) C (dk k_P_addRate 0 rfl) rfl ?_
  refine V_geti (pc := 1) (ji := 7) C (dk k_P_addRate 1 rfl) fl_P_37 hp (by decide) rfl rfl ?_
  refine V_bipush (pc := 4) (n' := 12) C (dk k_P_addRate 2 rfl) rfl ?_
  refine V_icmpge (pc := 6) C (dk k_P_addRate 3 rfl) 15 rfl (by first | exact hR _ _ | with_reducible assumption | exact ⟨by omega, by omega⟩) (by first | exact hR _ _ | with_reducible assumption | exact ⟨by omega, by omega⟩) (fun h1 => ?_) (fun h1 => ?_)
  · skip
    refine V_iconst (pc := 15) C (dk k_P_addRate 7 rfl) rfl ?_
    refine V_zret (pc := 16) C (by first | exact Or.inl rfl | exact Or.inr rfl | (split <;> first | exact Or.inl rfl | exact Or.inr rfl) | omega) E (dk k_P_addRate 8 rfl) ?_
    rw [if_neg (by omega)]
    exact ⟨rfl, fun z => by omega, Fr.rf _ _ _⟩
  · skip
    refine V_iload_n (pc := 9) C (dk k_P_addRate 4 rfl) rfl ?_
    refine V_bipush (pc := 10) (n' := 9) C (dk k_P_addRate 5 rfl) rfl ?_
    refine V_icmple (pc := 12) C (dk k_P_addRate 6 rfl) 17 rfl (by first | exact hR _ _ | with_reducible assumption | exact ⟨by omega, by omega⟩) (by first | exact hR _ _ | with_reducible assumption | exact ⟨by omega, by omega⟩) (fun h2 => ?_) (fun h2 => ?_)
    · skip
      refine V_aload_n (pc := 17) C (dk k_P_addRate 9 rfl) rfl ?_
      refine V_getr (pc := 18) (o2 := p + 6) C (dk k_P_addRate 10 rfl) fl_P_27 hp (by decide) rfl (by decide) rfl ?_
      refine V_aload_n (pc := 21) C (dk k_P_addRate 11 rfl) rfl ?_
      refine V_geti (pc := 22) (ji := 7) C (dk k_P_addRate 12 rfl) fl_P_37 hp (by decide) rfl rfl ?_
      refine V_iload_n (pc := 25) C (dk k_P_addRate 13 rfl) rfl ?_
      rw [c0]
      refine V_callS0 (pc := 26) C (dk k_P_addRate 14 rfl) lk_P_50 cm_F_put sm_F_put (c_put _ _ _ (p + 6) 12 ((dX d).length : Int) v hp_6 (by decide) (by omega) (by omega) hv) rfl rfl (Nat.le_of_ble_eq_true rfl) (Rm.mono hRm (by decide) (by decide)) ?_
      refine V_R (fun hR => ?_)
      refine V_aload_n (pc := 29) C (dk k_P_addRate 15 rfl) rfl ?_
      refine V_dupR (pc := 30) C (dk k_P_addRate 16 rfl) ?_
      refine V_geti (pc := 31) (ji := 7) C (dk k_P_addRate 17 rfl) fl_P_37 hp (by decide) rfl rfl ?_
      refine V_iconst (pc := 34) C (dk k_P_addRate 18 rfl) rfl ?_
      have e1 : up σ (p + 6) ((dX d).length : Int) v p 7 = (dX d).length := by rw [up_ne1 _ _ _ _ (by omega)]; exact c0
      rw [e1]
      refine V_iadd (pc := 35) C (dk k_P_addRate 19 rfl) ?_
      refine V_puti (pc := 36) (ji := 7) C (dk k_P_addRate 20 rfl) fl_P_37 fw_5_7 hp (by decide) rfl rfl ⟨by omega, by omega⟩ ?_
      refine V_R (fun hR => ?_)
      refine V_iconst (pc := 39) C (dk k_P_addRate 21 rfl) rfl ?_
      refine V_zret (pc := 40) C (by first | exact Or.inl rfl | exact Or.inr rfl | (split <;> first | exact Or.inl rfl | exact Or.inr rfl) | omega) E (dk k_P_addRate 22 rfl) ?_
      rw [if_pos (by omega)]
      exact ⟨rfl, fun z => hd.addX z.1 v, ((Fr.rf p 7 σ).up _ _ (by omega) (by omega)).up _ _ (by omega) (by omega)⟩
    · skip
      refine V_iconst (pc := 15) C (dk k_P_addRate 7 rfl) rfl ?_
      refine V_zret (pc := 16) C (by first | exact Or.inl rfl | exact Or.inr rfl | (split <;> first | exact Or.inl rfl | exact Or.inr rfl) | omega) E (dk k_P_addRate 8 rfl) ?_
      rw [if_neg (by omega)]
      exact ⟨rfl, fun z => by omega, Fr.rf _ _ _⟩

def i_P_setShop : List (Nat × (Instr × Nat)) := [(0, (.iload_n 2, 1)), (1, (.bipush 20, 2)), (3, (.if_icmp .le 5, 3)), (6, (.iconst 0, 1)), (7, (.ireturn, 1)), (8, (.aload_n 0, 1)), (9, (.iload_n 1, 1)), (10, (.putfield 40, 3)), (13, (.aload_n 0, 1)), (14, (.iload_n 2, 1)), (15, (.putfield 43, 3)), (18, (.iconst 1, 1)), (19, (.ireturn, 1))]
theorem k_P_setShop : i_P_setShop.all (fun q => decide (decode b_P_setShop q.1 = .ok q.2)) = true := by decide +kernel

set_option maxHeartbeats 1000000 in
set_option maxRecDepth 20000 in
theorem c_P_setShop (l : Launch) (G : GE) (σ : Wd) (p : Nat) (d : DS) (a b : Int) (hd : DR σ p d) (ha : inR a) (hb : inR b) : Ct l G y_P_setShop b_P_setShop 3 (some (.boolean)) 0 0 [vR p, vI a, vI b] σ (Rt (some (vI (if b ≤ 20 then 1 else 0))) (fun σ' => (b ≤ 20 → DR σ' p (dM d, (dT d, (dX d, (a, b))))) ∧ Fr p 7 σ σ')) := by
  refine Ct.of cm_P_setShop (Nat.le_of_ble_eq_true rfl) ?_
  intro X hXl hXG hXN hRm C E
  subst hXl; subst hXG
  have ⟨ha_1, ha_2⟩ := ha
  have ⟨hb_1, hb_2⟩ := hb
  show V X 0 [some (vR p), some (vI a), some (vI b)] [] σ
  refine V_R (fun hR => ?_)
  obtain ⟨hp, ⟨a0, a1⟩, ⟨b0, b1⟩, ⟨c0, c1⟩, ⟨s0, s1⟩, r1, r2, r3⟩ := id hd
  obtain ⟨hp_1, hp_2, hp_3, hp_4, hp_5, hp_6⟩ := kd_P hp
  refine V_iload_n (pc := 0) C (dk k_P_setShop 0 rfl) rfl ?_
  refine V_bipush (pc := 1) (n' := 20) C (dk k_P_setShop 1 rfl) rfl ?_
  refine V_icmple (pc := 3) C (dk k_P_setShop 2 rfl) 8 rfl (by first | exact hR _ _ | with_reducible assumption | exact ⟨by omega, by omega⟩) (by first | exact hR _ _ | with_reducible assumption | exact ⟨by omega, by omega⟩) (fun h1 => ?_) (fun h1 => ?_)
  · skip
    refine V_aload_n (pc := 8) C (dk k_P_setShop 5 rfl) rfl ?_
    refine V_iload_n (pc := 9) C (dk k_P_setShop 6 rfl) rfl ?_
    refine V_puti (pc := 10) (ji := 9) C (dk k_P_setShop 7 rfl) fl_P_40 fw_5_9 hp (by decide) rfl rfl ha ?_
    refine V_R (fun hR => ?_)
    refine V_aload_n (pc := 13) C (dk k_P_setShop 8 rfl) rfl ?_
    refine V_iload_n (pc := 14) C (dk k_P_setShop 9 rfl) rfl ?_
    refine V_puti (pc := 15) (ji := 10) C (dk k_P_setShop 10 rfl) fl_P_43 fw_5_10 hp (by decide) rfl rfl hb ?_
    refine V_R (fun hR => ?_)
    refine V_iconst (pc := 18) C (dk k_P_setShop 11 rfl) rfl ?_
    refine V_zret (pc := 19) C (by first | exact Or.inl rfl | exact Or.inr rfl | (split <;> first | exact Or.inl rfl | exact Or.inr rfl) | omega) E (dk k_P_setShop 12 rfl) ?_
    rw [if_pos (by omega)]
    exact ⟨rfl, fun z => hd.shop a b, ((Fr.rf p 7 σ).up _ _ (by omega) (by omega)).up _ _ (by omega) (by omega)⟩
  · skip
    refine V_iconst (pc := 6) C (dk k_P_setShop 3 rfl) rfl ?_
    refine V_zret (pc := 7) C (by first | exact Or.inl rfl | exact Or.inr rfl | (split <;> first | exact Or.inl rfl | exact Or.inr rfl) | omega) E (dk k_P_setShop 4 rfl) ?_
    rw [if_neg (by omega)]
    exact ⟨rfl, fun z => by omega, Fr.rf _ _ _⟩

def i_P_addThing : List (Nat × (Instr × Nat)) := [(0, (.aload_n 0, 1)), (1, (.getfield 34, 3)), (4, (.bipush 8, 2)), (6, (.if_icmp .ge 51, 3)), (9, (.iload_n 1, 1)), (10, (.iconst 0, 1)), (11, (.aload_n 0, 1)), (12, (.getfield 30, 3)), (15, (.iconst 1, 1)), (16, (.isub, 1)), (17, (.invokestatic 54, 3)), (20, (.ifCond .eq 37, 3)), (23, (.iload_n 2, 1)), (24, (.iconst 0, 1)), (25, (.iconst 3, 1)), (26, (.invokestatic 54, 3)), (29, (.ifCond .eq 28, 3)), (32, (.iload_n 3, 1)), (33, (.iconst 1, 1)), (34, (.bipush 20, 2)), (36, (.invokestatic 54, 3)), (39, (.ifCond .eq 18, 3)), (42, (.iload 4, 2)), (44, (.iconst 0, 1)), (45, (.bipush 20, 2)), (47, (.invokestatic 54, 3)), (50, (.ifCond .eq 7, 3)), (53, (.iconst 1, 1)), (54, (.goto 4, 3)), (57, (.iconst 0, 1)), (58, (.istore 5, 2)), (60, (.iload 5, 2)), (62, (.ifCond .ne 5, 3)), (65, (.iconst 0, 1)), (66, (.ireturn, 1)), (67, (.aload_n 0, 1)), (68, (.getfield 15, 3)), (71, (.aload_n 0, 1)), (72, (.getfield 34, 3)), (75, (.iload_n 1, 1)), (76, (.invokestatic 50, 3)), (79, (.aload_n 0, 1)), (80, (.getfield 18, 3)), (83, (.aload_n 0, 1)), (84, (.getfield 34, 3)), (87, (.iload_n 2, 1)), (88, (.invokestatic 50, 3)), (91, (.aload_n 0, 1)), (92, (.getfield 21, 3)), (95, (.aload_n 0, 1)), (96, (.getfield 34, 3)), (99, (.iload_n 3, 1)), (100, (.invokestatic 50, 3)), (103, (.aload_n 0, 1)), (104, (.getfield 24, 3)), (107, (.aload_n 0, 1)), (108, (.getfield 34, 3)), (111, (.iload 4, 2)), (113, (.invokestatic 50, 3)), (116, (.aload_n 0, 1)), (117, (.dup, 1)), (118, (.getfield 34, 3)), (121, (.iconst 1, 1)), (122, (.iadd, 1)), (123, (.putfield 34, 3)), (126, (.iconst 1, 1)), (127, (.ireturn, 1))]
theorem k_P_addThing : i_P_addThing.all (fun q => decide (decode b_P_addThing q.1 = .ok q.2)) = true := by decide +kernel

set_option maxHeartbeats 1000000 in
set_option maxRecDepth 20000 in
theorem c_P_addThing (l : Launch) (G : GE) (σ : Wd) (p : Nat) (d : DS) (a b c e : Int) (hd : DR σ p d) (ha : inR a) (hb : inR b) (hc : inR c) (he : inR e) : Ct l G y_P_addThing b_P_addThing 6 (some (.boolean)) 1 22 [vR p, vI a, vI b, vI c, vI e] σ (Rt (some (vI (if (dT d).length < 8 ∧ (0 ≤ a ∧ a ≤ (dM d).length - 1) ∧ (0 ≤ b ∧ b ≤ 3) ∧ (1 ≤ c ∧ c ≤ 20) ∧ (0 ≤ e ∧ e ≤ 20) then 1 else 0))) (fun σ' => ((dT d).length < 8 ∧ (0 ≤ a ∧ a ≤ (dM d).length - 1) ∧ (0 ≤ b ∧ b ≤ 3) ∧ (1 ≤ c ∧ c ≤ 20) ∧ (0 ≤ e ∧ e ≤ 20) → DR σ' p (dM d, (dT d ++ [(a, (b, (c, e)))], d.2.2))) ∧ Fr p 7 σ σ')) := by
  refine Ct.of cm_P_addThing (Nat.le_of_ble_eq_true rfl) ?_
  intro X hXl hXG hXN hRm C E
  subst hXl; subst hXG
  have ⟨ha_1, ha_2⟩ := ha
  have ⟨hb_1, hb_2⟩ := hb
  have ⟨hc_1, hc_2⟩ := hc
  have ⟨he_1, he_2⟩ := he
  show V X 0 [some (vR p), some (vI a), some (vI b), some (vI c), some (vI e), none] [] σ
  refine V_R (fun hR => ?_)
  obtain ⟨hp, ⟨a0, a1⟩, ⟨b0, b1⟩, ⟨c0, c1⟩, ⟨s0, s1⟩, r1, r2, r3⟩ := id hd
  obtain ⟨hp_1, hp_2, hp_3, hp_4, hp_5, hp_6⟩ := kd_P hp
  refine V_aload_n (pc := 0) C (dk k_P_addThing 0 rfl) rfl ?_
  refine V_geti (pc := 1) (ji := 2) C (dk k_P_addThing 1 rfl) fl_P_34 hp (by decide) rfl rfl ?_
  refine V_bipush (pc := 4) (n' := 8) C (dk k_P_addThing 2 rfl) rfl ?_
  refine V_icmpge (pc := 6) C (dk k_P_addThing 3 rfl) 57 rfl (by first | exact hR _ _ | with_reducible assumption | exact ⟨by omega, by omega⟩) (by first | exact hR _ _ | with_reducible assumption | exact ⟨by omega, by omega⟩) (fun h1 => ?_) (fun h1 => ?_)
  · skip
    refine V_iconst (pc := 57) C (dk k_P_addThing 29 rfl) rfl ?_
    refine V_istore (pc := 58) C (dk k_P_addThing 30 rfl) (by rw [hXN]; decide) ?_
    dsimp only [lst, lstL, lz, kill, Fin.val, Nat.reduceAdd]
    refine V_iload (pc := 60) C (dk k_P_addThing 31 rfl) rfl ?_
    refine V_ifne (pc := 62) C (dk k_P_addThing 32 rfl) 67 rfl (by first | exact hR _ _ | with_reducible assumption | exact ⟨by omega, by omega⟩) (fun h2 => ?_) (fun h2 => ?_)
    · skip
      refine V_aload_n (pc := 67) C (dk k_P_addThing 35 rfl) rfl ?_
      refine V_getr (pc := 68) (o2 := p + 2) C (dk k_P_addThing 36 rfl) fl_P_15 hp (by decide) rfl (by decide) rfl ?_
      refine V_aload_n (pc := 71) C (dk k_P_addThing 37 rfl) rfl ?_
      refine V_geti (pc := 72) (ji := 2) C (dk k_P_addThing 38 rfl) fl_P_34 hp (by decide) rfl rfl ?_
      rw [b0]
      refine V_iload_n (pc := 75) C (dk k_P_addThing 39 rfl) rfl ?_
      refine V_callS0 (pc := 76) C (dk k_P_addThing 40 rfl) lk_P_50 cm_F_put sm_F_put (c_put _ _ _ (p + 2) 8 ((dT d).length : Int) a hp_2 (by decide) (by omega) (by omega) ha) rfl rfl (Nat.le_of_ble_eq_true rfl) (Rm.mono hRm (by decide) (by decide)) ?_
      refine V_R (fun hR => ?_)
      refine V_aload_n (pc := 79) C (dk k_P_addThing 41 rfl) rfl ?_
      refine V_getr (pc := 80) (o2 := p + 3) C (dk k_P_addThing 42 rfl) fl_P_18 hp (by decide) rfl (by decide) rfl ?_
      refine V_aload_n (pc := 83) C (dk k_P_addThing 43 rfl) rfl ?_
      refine V_geti (pc := 84) (ji := 2) C (dk k_P_addThing 44 rfl) fl_P_34 hp (by decide) rfl rfl ?_
      have e1 : up σ (p + 2) ((dT d).length : Int) a p 2 = ((dT d).length : Int) := (up_ne1 _ _ _ _ (by omega)).trans b0
      rw [e1]
      refine V_iload_n (pc := 87) C (dk k_P_addThing 45 rfl) rfl ?_
      refine V_callS0 (pc := 88) C (dk k_P_addThing 46 rfl) lk_P_50 cm_F_put sm_F_put (c_put _ _ _ (p + 3) 8 ((dT d).length : Int) b hp_3 (by decide) (by omega) (by omega) hb) rfl rfl (Nat.le_of_ble_eq_true rfl) (Rm.mono hRm (by decide) (by decide)) ?_
      refine V_R (fun hR => ?_)
      refine V_aload_n (pc := 91) C (dk k_P_addThing 47 rfl) rfl ?_
      refine V_getr (pc := 92) (o2 := p + 4) C (dk k_P_addThing 48 rfl) fl_P_21 hp (by decide) rfl (by decide) rfl ?_
      refine V_aload_n (pc := 95) C (dk k_P_addThing 49 rfl) rfl ?_
      refine V_geti (pc := 96) (ji := 2) C (dk k_P_addThing 50 rfl) fl_P_34 hp (by decide) rfl rfl ?_
      have e2 : up (up σ (p + 2) ((dT d).length : Int) a) (p + 3) ((dT d).length : Int) b p 2 = ((dT d).length : Int) := (up_ne1 _ _ _ _ (by omega)).trans e1
      rw [e2]
      refine V_iload_n (pc := 99) C (dk k_P_addThing 51 rfl) rfl ?_
      refine V_callS0 (pc := 100) C (dk k_P_addThing 52 rfl) lk_P_50 cm_F_put sm_F_put (c_put _ _ _ (p + 4) 8 ((dT d).length : Int) c hp_4 (by decide) (by omega) (by omega) hc) rfl rfl (Nat.le_of_ble_eq_true rfl) (Rm.mono hRm (by decide) (by decide)) ?_
      refine V_R (fun hR => ?_)
      refine V_aload_n (pc := 103) C (dk k_P_addThing 53 rfl) rfl ?_
      refine V_getr (pc := 104) (o2 := p + 5) C (dk k_P_addThing 54 rfl) fl_P_24 hp (by decide) rfl (by decide) rfl ?_
      refine V_aload_n (pc := 107) C (dk k_P_addThing 55 rfl) rfl ?_
      refine V_geti (pc := 108) (ji := 2) C (dk k_P_addThing 56 rfl) fl_P_34 hp (by decide) rfl rfl ?_
      have e3 : up (up (up σ (p + 2) ((dT d).length : Int) a) (p + 3) ((dT d).length : Int) b) (p + 4) ((dT d).length : Int) c p 2 = ((dT d).length : Int) := (up_ne1 _ _ _ _ (by omega)).trans e2
      rw [e3]
      refine V_iload (pc := 111) C (dk k_P_addThing 57 rfl) rfl ?_
      refine V_callS0 (pc := 113) C (dk k_P_addThing 58 rfl) lk_P_50 cm_F_put sm_F_put (c_put _ _ _ (p + 5) 8 ((dT d).length : Int) e hp_5 (by decide) (by omega) (by omega) he) rfl rfl (Nat.le_of_ble_eq_true rfl) (Rm.mono hRm (by decide) (by decide)) ?_
      refine V_R (fun hR => ?_)
      refine V_aload_n (pc := 116) C (dk k_P_addThing 59 rfl) rfl ?_
      refine V_dupR (pc := 117) C (dk k_P_addThing 60 rfl) ?_
      refine V_geti (pc := 118) (ji := 2) C (dk k_P_addThing 61 rfl) fl_P_34 hp (by decide) rfl rfl ?_
      have e4 : up (up (up (up σ (p + 2) ((dT d).length : Int) a) (p + 3) ((dT d).length : Int) b) (p + 4) ((dT d).length : Int) c) (p + 5) ((dT d).length : Int) e p 2 = ((dT d).length : Int) := (up_ne1 _ _ _ _ (by omega)).trans e3
      rw [e4]
      refine V_iconst (pc := 121) C (dk k_P_addThing 62 rfl) rfl ?_
      refine V_iadd (pc := 122) C (dk k_P_addThing 63 rfl) ?_
      refine V_puti (pc := 123) (ji := 2) C (dk k_P_addThing 64 rfl) fl_P_34 fw_5_2 hp (by decide) rfl rfl ⟨by omega, by omega⟩ ?_
      refine V_R (fun hR => ?_)
      refine V_iconst (pc := 126) C (dk k_P_addThing 65 rfl) rfl ?_
      refine V_zret (pc := 127) C (by first | exact Or.inl rfl | exact Or.inr rfl | (split <;> first | exact Or.inl rfl | exact Or.inr rfl) | omega) E (dk k_P_addThing 66 rfl) ?_
      first | (exfalso; omega) | (rw [if_pos (by omega)]; exact ⟨rfl, fun z => hd.addT (by omega) a b c e, ((((Fr.rf p 7 σ).up _ _ (by omega) (by omega)).up _ _ (by omega) (by omega)).up _ _ (by omega) (by omega)).up _ _ (by omega) (by omega) |>.up _ _ (by omega) (by omega)⟩)
    · skip
      refine V_iconst (pc := 65) C (dk k_P_addThing 33 rfl) rfl ?_
      refine V_zret (pc := 66) C (by first | exact Or.inl rfl | exact Or.inr rfl | (split <;> first | exact Or.inl rfl | exact Or.inr rfl) | omega) E (dk k_P_addThing 34 rfl) ?_
      first | (exfalso; omega) | (rw [if_neg (by omega)]; exact ⟨rfl, fun z => by omega, Fr.rf _ _ _⟩)
  · skip
    refine V_iload_n (pc := 9) C (dk k_P_addThing 4 rfl) rfl ?_
    refine V_iconst (pc := 10) C (dk k_P_addThing 5 rfl) rfl ?_
    refine V_aload_n (pc := 11) C (dk k_P_addThing 6 rfl) rfl ?_
    refine V_geti (pc := 12) (ji := 0) C (dk k_P_addThing 7 rfl) fl_P_30 hp (by decide) rfl rfl ?_
    refine V_iconst (pc := 15) C (dk k_P_addThing 8 rfl) rfl ?_
    refine V_isub (pc := 16) C (dk k_P_addThing 9 rfl) ?_
    refine V_callS (pc := 17) C (dk k_P_addThing 10 rfl) lk_P_54 cm_F_within sm_F_within (c_F_within _ _ _ a 0 (σ p 0 - 1) ha R0 ⟨by omega, by omega⟩) rfl rfl (Nat.le_of_ble_eq_true rfl) (Rm.mono hRm (by decide) (by decide)) ?_
    refine V_ifeqB (pc := 20) C (dk k_P_addThing 11 rfl) 57 rfl (fun h3 => ?_) (fun h3 => ?_)
    · skip
      refine V_iconst (pc := 57) C (dk k_P_addThing 29 rfl) rfl ?_
      refine V_istore (pc := 58) C (dk k_P_addThing 30 rfl) (by rw [hXN]; decide) ?_
      dsimp only [lst, lstL, lz, kill, Fin.val, Nat.reduceAdd]
      refine V_iload (pc := 60) C (dk k_P_addThing 31 rfl) rfl ?_
      refine V_ifne (pc := 62) C (dk k_P_addThing 32 rfl) 67 rfl (by first | exact hR _ _ | with_reducible assumption | exact ⟨by omega, by omega⟩) (fun h4 => ?_) (fun h4 => ?_)
      · skip
        refine V_aload_n (pc := 67) C (dk k_P_addThing 35 rfl) rfl ?_
        refine V_getr (pc := 68) (o2 := p + 2) C (dk k_P_addThing 36 rfl) fl_P_15 hp (by decide) rfl (by decide) rfl ?_
        refine V_aload_n (pc := 71) C (dk k_P_addThing 37 rfl) rfl ?_
        refine V_geti (pc := 72) (ji := 2) C (dk k_P_addThing 38 rfl) fl_P_34 hp (by decide) rfl rfl ?_
        rw [b0]
        refine V_iload_n (pc := 75) C (dk k_P_addThing 39 rfl) rfl ?_
        refine V_callS0 (pc := 76) C (dk k_P_addThing 40 rfl) lk_P_50 cm_F_put sm_F_put (c_put _ _ _ (p + 2) 8 ((dT d).length : Int) a hp_2 (by decide) (by omega) (by omega) ha) rfl rfl (Nat.le_of_ble_eq_true rfl) (Rm.mono hRm (by decide) (by decide)) ?_
        refine V_R (fun hR => ?_)
        refine V_aload_n (pc := 79) C (dk k_P_addThing 41 rfl) rfl ?_
        refine V_getr (pc := 80) (o2 := p + 3) C (dk k_P_addThing 42 rfl) fl_P_18 hp (by decide) rfl (by decide) rfl ?_
        refine V_aload_n (pc := 83) C (dk k_P_addThing 43 rfl) rfl ?_
        refine V_geti (pc := 84) (ji := 2) C (dk k_P_addThing 44 rfl) fl_P_34 hp (by decide) rfl rfl ?_
        have e1 : up σ (p + 2) ((dT d).length : Int) a p 2 = ((dT d).length : Int) := (up_ne1 _ _ _ _ (by omega)).trans b0
        rw [e1]
        refine V_iload_n (pc := 87) C (dk k_P_addThing 45 rfl) rfl ?_
        refine V_callS0 (pc := 88) C (dk k_P_addThing 46 rfl) lk_P_50 cm_F_put sm_F_put (c_put _ _ _ (p + 3) 8 ((dT d).length : Int) b hp_3 (by decide) (by omega) (by omega) hb) rfl rfl (Nat.le_of_ble_eq_true rfl) (Rm.mono hRm (by decide) (by decide)) ?_
        refine V_R (fun hR => ?_)
        refine V_aload_n (pc := 91) C (dk k_P_addThing 47 rfl) rfl ?_
        refine V_getr (pc := 92) (o2 := p + 4) C (dk k_P_addThing 48 rfl) fl_P_21 hp (by decide) rfl (by decide) rfl ?_
        refine V_aload_n (pc := 95) C (dk k_P_addThing 49 rfl) rfl ?_
        refine V_geti (pc := 96) (ji := 2) C (dk k_P_addThing 50 rfl) fl_P_34 hp (by decide) rfl rfl ?_
        have e2 : up (up σ (p + 2) ((dT d).length : Int) a) (p + 3) ((dT d).length : Int) b p 2 = ((dT d).length : Int) := (up_ne1 _ _ _ _ (by omega)).trans e1
        rw [e2]
        refine V_iload_n (pc := 99) C (dk k_P_addThing 51 rfl) rfl ?_
        refine V_callS0 (pc := 100) C (dk k_P_addThing 52 rfl) lk_P_50 cm_F_put sm_F_put (c_put _ _ _ (p + 4) 8 ((dT d).length : Int) c hp_4 (by decide) (by omega) (by omega) hc) rfl rfl (Nat.le_of_ble_eq_true rfl) (Rm.mono hRm (by decide) (by decide)) ?_
        refine V_R (fun hR => ?_)
        refine V_aload_n (pc := 103) C (dk k_P_addThing 53 rfl) rfl ?_
        refine V_getr (pc := 104) (o2 := p + 5) C (dk k_P_addThing 54 rfl) fl_P_24 hp (by decide) rfl (by decide) rfl ?_
        refine V_aload_n (pc := 107) C (dk k_P_addThing 55 rfl) rfl ?_
        refine V_geti (pc := 108) (ji := 2) C (dk k_P_addThing 56 rfl) fl_P_34 hp (by decide) rfl rfl ?_
        have e3 : up (up (up σ (p + 2) ((dT d).length : Int) a) (p + 3) ((dT d).length : Int) b) (p + 4) ((dT d).length : Int) c p 2 = ((dT d).length : Int) := (up_ne1 _ _ _ _ (by omega)).trans e2
        rw [e3]
        refine V_iload (pc := 111) C (dk k_P_addThing 57 rfl) rfl ?_
        refine V_callS0 (pc := 113) C (dk k_P_addThing 58 rfl) lk_P_50 cm_F_put sm_F_put (c_put _ _ _ (p + 5) 8 ((dT d).length : Int) e hp_5 (by decide) (by omega) (by omega) he) rfl rfl (Nat.le_of_ble_eq_true rfl) (Rm.mono hRm (by decide) (by decide)) ?_
        refine V_R (fun hR => ?_)
        refine V_aload_n (pc := 116) C (dk k_P_addThing 59 rfl) rfl ?_
        refine V_dupR (pc := 117) C (dk k_P_addThing 60 rfl) ?_
        refine V_geti (pc := 118) (ji := 2) C (dk k_P_addThing 61 rfl) fl_P_34 hp (by decide) rfl rfl ?_
        have e4 : up (up (up (up σ (p + 2) ((dT d).length : Int) a) (p + 3) ((dT d).length : Int) b) (p + 4) ((dT d).length : Int) c) (p + 5) ((dT d).length : Int) e p 2 = ((dT d).length : Int) := (up_ne1 _ _ _ _ (by omega)).trans e3
        rw [e4]
        refine V_iconst (pc := 121) C (dk k_P_addThing 62 rfl) rfl ?_
        refine V_iadd (pc := 122) C (dk k_P_addThing 63 rfl) ?_
        refine V_puti (pc := 123) (ji := 2) C (dk k_P_addThing 64 rfl) fl_P_34 fw_5_2 hp (by decide) rfl rfl ⟨by omega, by omega⟩ ?_
        refine V_R (fun hR => ?_)
        refine V_iconst (pc := 126) C (dk k_P_addThing 65 rfl) rfl ?_
        refine V_zret (pc := 127) C (by first | exact Or.inl rfl | exact Or.inr rfl | (split <;> first | exact Or.inl rfl | exact Or.inr rfl) | omega) E (dk k_P_addThing 66 rfl) ?_
        first | (exfalso; omega) | (rw [if_pos (by omega)]; exact ⟨rfl, fun z => hd.addT (by omega) a b c e, ((((Fr.rf p 7 σ).up _ _ (by omega) (by omega)).up _ _ (by omega) (by omega)).up _ _ (by omega) (by omega)).up _ _ (by omega) (by omega) |>.up _ _ (by omega) (by omega)⟩)
      · skip
        refine V_iconst (pc := 65) C (dk k_P_addThing 33 rfl) rfl ?_
        refine V_zret (pc := 66) C (by first | exact Or.inl rfl | exact Or.inr rfl | (split <;> first | exact Or.inl rfl | exact Or.inr rfl) | omega) E (dk k_P_addThing 34 rfl) ?_
        first | (exfalso; omega) | (rw [if_neg (by omega)]; exact ⟨rfl, fun z => by omega, Fr.rf _ _ _⟩)
    · skip
      refine V_iload_n (pc := 23) C (dk k_P_addThing 12 rfl) rfl ?_
      refine V_iconst (pc := 24) C (dk k_P_addThing 13 rfl) rfl ?_
      refine V_iconst (pc := 25) C (dk k_P_addThing 14 rfl) rfl ?_
      refine V_callS (pc := 26) C (dk k_P_addThing 15 rfl) lk_P_54 cm_F_within sm_F_within (c_F_within _ _ _ b 0 3 hb R0 ⟨by decide, by decide⟩) rfl rfl (Nat.le_of_ble_eq_true rfl) (Rm.mono hRm (by decide) (by decide)) ?_
      refine V_ifeqB (pc := 29) C (dk k_P_addThing 16 rfl) 57 rfl (fun h5 => ?_) (fun h5 => ?_)
      · skip
        refine V_iconst (pc := 57) C (dk k_P_addThing 29 rfl) rfl ?_
        refine V_istore (pc := 58) C (dk k_P_addThing 30 rfl) (by rw [hXN]; decide) ?_
        dsimp only [lst, lstL, lz, kill, Fin.val, Nat.reduceAdd]
        refine V_iload (pc := 60) C (dk k_P_addThing 31 rfl) rfl ?_
        refine V_ifne (pc := 62) C (dk k_P_addThing 32 rfl) 67 rfl (by first | exact hR _ _ | with_reducible assumption | exact ⟨by omega, by omega⟩) (fun h6 => ?_) (fun h6 => ?_)
        · skip
          refine V_aload_n (pc := 67) C (dk k_P_addThing 35 rfl) rfl ?_
          refine V_getr (pc := 68) (o2 := p + 2) C (dk k_P_addThing 36 rfl) fl_P_15 hp (by decide) rfl (by decide) rfl ?_
          refine V_aload_n (pc := 71) C (dk k_P_addThing 37 rfl) rfl ?_
          refine V_geti (pc := 72) (ji := 2) C (dk k_P_addThing 38 rfl) fl_P_34 hp (by decide) rfl rfl ?_
          rw [b0]
          refine V_iload_n (pc := 75) C (dk k_P_addThing 39 rfl) rfl ?_
          refine V_callS0 (pc := 76) C (dk k_P_addThing 40 rfl) lk_P_50 cm_F_put sm_F_put (c_put _ _ _ (p + 2) 8 ((dT d).length : Int) a hp_2 (by decide) (by omega) (by omega) ha) rfl rfl (Nat.le_of_ble_eq_true rfl) (Rm.mono hRm (by decide) (by decide)) ?_
          refine V_R (fun hR => ?_)
          refine V_aload_n (pc := 79) C (dk k_P_addThing 41 rfl) rfl ?_
          refine V_getr (pc := 80) (o2 := p + 3) C (dk k_P_addThing 42 rfl) fl_P_18 hp (by decide) rfl (by decide) rfl ?_
          refine V_aload_n (pc := 83) C (dk k_P_addThing 43 rfl) rfl ?_
          refine V_geti (pc := 84) (ji := 2) C (dk k_P_addThing 44 rfl) fl_P_34 hp (by decide) rfl rfl ?_
          have e1 : up σ (p + 2) ((dT d).length : Int) a p 2 = ((dT d).length : Int) := (up_ne1 _ _ _ _ (by omega)).trans b0
          rw [e1]
          refine V_iload_n (pc := 87) C (dk k_P_addThing 45 rfl) rfl ?_
          refine V_callS0 (pc := 88) C (dk k_P_addThing 46 rfl) lk_P_50 cm_F_put sm_F_put (c_put _ _ _ (p + 3) 8 ((dT d).length : Int) b hp_3 (by decide) (by omega) (by omega) hb) rfl rfl (Nat.le_of_ble_eq_true rfl) (Rm.mono hRm (by decide) (by decide)) ?_
          refine V_R (fun hR => ?_)
          refine V_aload_n (pc := 91) C (dk k_P_addThing 47 rfl) rfl ?_
          refine V_getr (pc := 92) (o2 := p + 4) C (dk k_P_addThing 48 rfl) fl_P_21 hp (by decide) rfl (by decide) rfl ?_
          refine V_aload_n (pc := 95) C (dk k_P_addThing 49 rfl) rfl ?_
          refine V_geti (pc := 96) (ji := 2) C (dk k_P_addThing 50 rfl) fl_P_34 hp (by decide) rfl rfl ?_
          have e2 : up (up σ (p + 2) ((dT d).length : Int) a) (p + 3) ((dT d).length : Int) b p 2 = ((dT d).length : Int) := (up_ne1 _ _ _ _ (by omega)).trans e1
          rw [e2]
          refine V_iload_n (pc := 99) C (dk k_P_addThing 51 rfl) rfl ?_
          refine V_callS0 (pc := 100) C (dk k_P_addThing 52 rfl) lk_P_50 cm_F_put sm_F_put (c_put _ _ _ (p + 4) 8 ((dT d).length : Int) c hp_4 (by decide) (by omega) (by omega) hc) rfl rfl (Nat.le_of_ble_eq_true rfl) (Rm.mono hRm (by decide) (by decide)) ?_
          refine V_R (fun hR => ?_)
          refine V_aload_n (pc := 103) C (dk k_P_addThing 53 rfl) rfl ?_
          refine V_getr (pc := 104) (o2 := p + 5) C (dk k_P_addThing 54 rfl) fl_P_24 hp (by decide) rfl (by decide) rfl ?_
          refine V_aload_n (pc := 107) C (dk k_P_addThing 55 rfl) rfl ?_
          refine V_geti (pc := 108) (ji := 2) C (dk k_P_addThing 56 rfl) fl_P_34 hp (by decide) rfl rfl ?_
          have e3 : up (up (up σ (p + 2) ((dT d).length : Int) a) (p + 3) ((dT d).length : Int) b) (p + 4) ((dT d).length : Int) c p 2 = ((dT d).length : Int) := (up_ne1 _ _ _ _ (by omega)).trans e2
          rw [e3]
          refine V_iload (pc := 111) C (dk k_P_addThing 57 rfl) rfl ?_
          refine V_callS0 (pc := 113) C (dk k_P_addThing 58 rfl) lk_P_50 cm_F_put sm_F_put (c_put _ _ _ (p + 5) 8 ((dT d).length : Int) e hp_5 (by decide) (by omega) (by omega) he) rfl rfl (Nat.le_of_ble_eq_true rfl) (Rm.mono hRm (by decide) (by decide)) ?_
          refine V_R (fun hR => ?_)
          refine V_aload_n (pc := 116) C (dk k_P_addThing 59 rfl) rfl ?_
          refine V_dupR (pc := 117) C (dk k_P_addThing 60 rfl) ?_
          refine V_geti (pc := 118) (ji := 2) C (dk k_P_addThing 61 rfl) fl_P_34 hp (by decide) rfl rfl ?_
          have e4 : up (up (up (up σ (p + 2) ((dT d).length : Int) a) (p + 3) ((dT d).length : Int) b) (p + 4) ((dT d).length : Int) c) (p + 5) ((dT d).length : Int) e p 2 = ((dT d).length : Int) := (up_ne1 _ _ _ _ (by omega)).trans e3
          rw [e4]
          refine V_iconst (pc := 121) C (dk k_P_addThing 62 rfl) rfl ?_
          refine V_iadd (pc := 122) C (dk k_P_addThing 63 rfl) ?_
          refine V_puti (pc := 123) (ji := 2) C (dk k_P_addThing 64 rfl) fl_P_34 fw_5_2 hp (by decide) rfl rfl ⟨by omega, by omega⟩ ?_
          refine V_R (fun hR => ?_)
          refine V_iconst (pc := 126) C (dk k_P_addThing 65 rfl) rfl ?_
          refine V_zret (pc := 127) C (by first | exact Or.inl rfl | exact Or.inr rfl | (split <;> first | exact Or.inl rfl | exact Or.inr rfl) | omega) E (dk k_P_addThing 66 rfl) ?_
          first | (exfalso; omega) | (rw [if_pos (by omega)]; exact ⟨rfl, fun z => hd.addT (by omega) a b c e, ((((Fr.rf p 7 σ).up _ _ (by omega) (by omega)).up _ _ (by omega) (by omega)).up _ _ (by omega) (by omega)).up _ _ (by omega) (by omega) |>.up _ _ (by omega) (by omega)⟩)
        · skip
          refine V_iconst (pc := 65) C (dk k_P_addThing 33 rfl) rfl ?_
          refine V_zret (pc := 66) C (by first | exact Or.inl rfl | exact Or.inr rfl | (split <;> first | exact Or.inl rfl | exact Or.inr rfl) | omega) E (dk k_P_addThing 34 rfl) ?_
          first | (exfalso; omega) | (rw [if_neg (by omega)]; exact ⟨rfl, fun z => by omega, Fr.rf _ _ _⟩)
      · skip
        refine V_iload_n (pc := 32) C (dk k_P_addThing 17 rfl) rfl ?_
        refine V_iconst (pc := 33) C (dk k_P_addThing 18 rfl) rfl ?_
        refine V_bipush (pc := 34) (n' := 20) C (dk k_P_addThing 19 rfl) rfl ?_
        refine V_callS (pc := 36) C (dk k_P_addThing 20 rfl) lk_P_54 cm_F_within sm_F_within (c_F_within _ _ _ c 1 20 hc ⟨by decide, by decide⟩ ⟨by decide, by decide⟩) rfl rfl (Nat.le_of_ble_eq_true rfl) (Rm.mono hRm (by decide) (by decide)) ?_
        refine V_ifeqB (pc := 39) C (dk k_P_addThing 21 rfl) 57 rfl (fun h7 => ?_) (fun h7 => ?_)
        · skip
          refine V_iconst (pc := 57) C (dk k_P_addThing 29 rfl) rfl ?_
          refine V_istore (pc := 58) C (dk k_P_addThing 30 rfl) (by rw [hXN]; decide) ?_
          dsimp only [lst, lstL, lz, kill, Fin.val, Nat.reduceAdd]
          refine V_iload (pc := 60) C (dk k_P_addThing 31 rfl) rfl ?_
          refine V_ifne (pc := 62) C (dk k_P_addThing 32 rfl) 67 rfl (by first | exact hR _ _ | with_reducible assumption | exact ⟨by omega, by omega⟩) (fun h8 => ?_) (fun h8 => ?_)
          · skip
            refine V_aload_n (pc := 67) C (dk k_P_addThing 35 rfl) rfl ?_
            refine V_getr (pc := 68) (o2 := p + 2) C (dk k_P_addThing 36 rfl) fl_P_15 hp (by decide) rfl (by decide) rfl ?_
            refine V_aload_n (pc := 71) C (dk k_P_addThing 37 rfl) rfl ?_
            refine V_geti (pc := 72) (ji := 2) C (dk k_P_addThing 38 rfl) fl_P_34 hp (by decide) rfl rfl ?_
            rw [b0]
            refine V_iload_n (pc := 75) C (dk k_P_addThing 39 rfl) rfl ?_
            refine V_callS0 (pc := 76) C (dk k_P_addThing 40 rfl) lk_P_50 cm_F_put sm_F_put (c_put _ _ _ (p + 2) 8 ((dT d).length : Int) a hp_2 (by decide) (by omega) (by omega) ha) rfl rfl (Nat.le_of_ble_eq_true rfl) (Rm.mono hRm (by decide) (by decide)) ?_
            refine V_R (fun hR => ?_)
            refine V_aload_n (pc := 79) C (dk k_P_addThing 41 rfl) rfl ?_
            refine V_getr (pc := 80) (o2 := p + 3) C (dk k_P_addThing 42 rfl) fl_P_18 hp (by decide) rfl (by decide) rfl ?_
            refine V_aload_n (pc := 83) C (dk k_P_addThing 43 rfl) rfl ?_
            refine V_geti (pc := 84) (ji := 2) C (dk k_P_addThing 44 rfl) fl_P_34 hp (by decide) rfl rfl ?_
            have e1 : up σ (p + 2) ((dT d).length : Int) a p 2 = ((dT d).length : Int) := (up_ne1 _ _ _ _ (by omega)).trans b0
            rw [e1]
            refine V_iload_n (pc := 87) C (dk k_P_addThing 45 rfl) rfl ?_
            refine V_callS0 (pc := 88) C (dk k_P_addThing 46 rfl) lk_P_50 cm_F_put sm_F_put (c_put _ _ _ (p + 3) 8 ((dT d).length : Int) b hp_3 (by decide) (by omega) (by omega) hb) rfl rfl (Nat.le_of_ble_eq_true rfl) (Rm.mono hRm (by decide) (by decide)) ?_
            refine V_R (fun hR => ?_)
            refine V_aload_n (pc := 91) C (dk k_P_addThing 47 rfl) rfl ?_
            refine V_getr (pc := 92) (o2 := p + 4) C (dk k_P_addThing 48 rfl) fl_P_21 hp (by decide) rfl (by decide) rfl ?_
            refine V_aload_n (pc := 95) C (dk k_P_addThing 49 rfl) rfl ?_
            refine V_geti (pc := 96) (ji := 2) C (dk k_P_addThing 50 rfl) fl_P_34 hp (by decide) rfl rfl ?_
            have e2 : up (up σ (p + 2) ((dT d).length : Int) a) (p + 3) ((dT d).length : Int) b p 2 = ((dT d).length : Int) := (up_ne1 _ _ _ _ (by omega)).trans e1
            rw [e2]
            refine V_iload_n (pc := 99) C (dk k_P_addThing 51 rfl) rfl ?_
            refine V_callS0 (pc := 100) C (dk k_P_addThing 52 rfl) lk_P_50 cm_F_put sm_F_put (c_put _ _ _ (p + 4) 8 ((dT d).length : Int) c hp_4 (by decide) (by omega) (by omega) hc) rfl rfl (Nat.le_of_ble_eq_true rfl) (Rm.mono hRm (by decide) (by decide)) ?_
            refine V_R (fun hR => ?_)
            refine V_aload_n (pc := 103) C (dk k_P_addThing 53 rfl) rfl ?_
            refine V_getr (pc := 104) (o2 := p + 5) C (dk k_P_addThing 54 rfl) fl_P_24 hp (by decide) rfl (by decide) rfl ?_
            refine V_aload_n (pc := 107) C (dk k_P_addThing 55 rfl) rfl ?_
            refine V_geti (pc := 108) (ji := 2) C (dk k_P_addThing 56 rfl) fl_P_34 hp (by decide) rfl rfl ?_
            have e3 : up (up (up σ (p + 2) ((dT d).length : Int) a) (p + 3) ((dT d).length : Int) b) (p + 4) ((dT d).length : Int) c p 2 = ((dT d).length : Int) := (up_ne1 _ _ _ _ (by omega)).trans e2
            rw [e3]
            refine V_iload (pc := 111) C (dk k_P_addThing 57 rfl) rfl ?_
            refine V_callS0 (pc := 113) C (dk k_P_addThing 58 rfl) lk_P_50 cm_F_put sm_F_put (c_put _ _ _ (p + 5) 8 ((dT d).length : Int) e hp_5 (by decide) (by omega) (by omega) he) rfl rfl (Nat.le_of_ble_eq_true rfl) (Rm.mono hRm (by decide) (by decide)) ?_
            refine V_R (fun hR => ?_)
            refine V_aload_n (pc := 116) C (dk k_P_addThing 59 rfl) rfl ?_
            refine V_dupR (pc := 117) C (dk k_P_addThing 60 rfl) ?_
            refine V_geti (pc := 118) (ji := 2) C (dk k_P_addThing 61 rfl) fl_P_34 hp (by decide) rfl rfl ?_
            have e4 : up (up (up (up σ (p + 2) ((dT d).length : Int) a) (p + 3) ((dT d).length : Int) b) (p + 4) ((dT d).length : Int) c) (p + 5) ((dT d).length : Int) e p 2 = ((dT d).length : Int) := (up_ne1 _ _ _ _ (by omega)).trans e3
            rw [e4]
            refine V_iconst (pc := 121) C (dk k_P_addThing 62 rfl) rfl ?_
            refine V_iadd (pc := 122) C (dk k_P_addThing 63 rfl) ?_
            refine V_puti (pc := 123) (ji := 2) C (dk k_P_addThing 64 rfl) fl_P_34 fw_5_2 hp (by decide) rfl rfl ⟨by omega, by omega⟩ ?_
            refine V_R (fun hR => ?_)
            refine V_iconst (pc := 126) C (dk k_P_addThing 65 rfl) rfl ?_
            refine V_zret (pc := 127) C (by first | exact Or.inl rfl | exact Or.inr rfl | (split <;> first | exact Or.inl rfl | exact Or.inr rfl) | omega) E (dk k_P_addThing 66 rfl) ?_
            first | (exfalso; omega) | (rw [if_pos (by omega)]; exact ⟨rfl, fun z => hd.addT (by omega) a b c e, ((((Fr.rf p 7 σ).up _ _ (by omega) (by omega)).up _ _ (by omega) (by omega)).up _ _ (by omega) (by omega)).up _ _ (by omega) (by omega) |>.up _ _ (by omega) (by omega)⟩)
          · skip
            refine V_iconst (pc := 65) C (dk k_P_addThing 33 rfl) rfl ?_
            refine V_zret (pc := 66) C (by first | exact Or.inl rfl | exact Or.inr rfl | (split <;> first | exact Or.inl rfl | exact Or.inr rfl) | omega) E (dk k_P_addThing 34 rfl) ?_
            first | (exfalso; omega) | (rw [if_neg (by omega)]; exact ⟨rfl, fun z => by omega, Fr.rf _ _ _⟩)
        · skip
          refine V_iload (pc := 42) C (dk k_P_addThing 22 rfl) rfl ?_
          refine V_iconst (pc := 44) C (dk k_P_addThing 23 rfl) rfl ?_
          refine V_bipush (pc := 45) (n' := 20) C (dk k_P_addThing 24 rfl) rfl ?_
          refine V_callS (pc := 47) C (dk k_P_addThing 25 rfl) lk_P_54 cm_F_within sm_F_within (c_F_within _ _ _ e 0 20 he R0 ⟨by decide, by decide⟩) rfl rfl (Nat.le_of_ble_eq_true rfl) (Rm.mono hRm (by decide) (by decide)) ?_
          refine V_ifeqB (pc := 50) C (dk k_P_addThing 26 rfl) 57 rfl (fun h9 => ?_) (fun h9 => ?_)
          · skip
            refine V_iconst (pc := 57) C (dk k_P_addThing 29 rfl) rfl ?_
            refine V_istore (pc := 58) C (dk k_P_addThing 30 rfl) (by rw [hXN]; decide) ?_
            dsimp only [lst, lstL, lz, kill, Fin.val, Nat.reduceAdd]
            refine V_iload (pc := 60) C (dk k_P_addThing 31 rfl) rfl ?_
            refine V_ifne (pc := 62) C (dk k_P_addThing 32 rfl) 67 rfl (by first | exact hR _ _ | with_reducible assumption | exact ⟨by omega, by omega⟩) (fun h10 => ?_) (fun h10 => ?_)
            · skip
              refine V_aload_n (pc := 67) C (dk k_P_addThing 35 rfl) rfl ?_
              refine V_getr (pc := 68) (o2 := p + 2) C (dk k_P_addThing 36 rfl) fl_P_15 hp (by decide) rfl (by decide) rfl ?_
              refine V_aload_n (pc := 71) C (dk k_P_addThing 37 rfl) rfl ?_
              refine V_geti (pc := 72) (ji := 2) C (dk k_P_addThing 38 rfl) fl_P_34 hp (by decide) rfl rfl ?_
              rw [b0]
              refine V_iload_n (pc := 75) C (dk k_P_addThing 39 rfl) rfl ?_
              refine V_callS0 (pc := 76) C (dk k_P_addThing 40 rfl) lk_P_50 cm_F_put sm_F_put (c_put _ _ _ (p + 2) 8 ((dT d).length : Int) a hp_2 (by decide) (by omega) (by omega) ha) rfl rfl (Nat.le_of_ble_eq_true rfl) (Rm.mono hRm (by decide) (by decide)) ?_
              refine V_R (fun hR => ?_)
              refine V_aload_n (pc := 79) C (dk k_P_addThing 41 rfl) rfl ?_
              refine V_getr (pc := 80) (o2 := p + 3) C (dk k_P_addThing 42 rfl) fl_P_18 hp (by decide) rfl (by decide) rfl ?_
              refine V_aload_n (pc := 83) C (dk k_P_addThing 43 rfl) rfl ?_
              refine V_geti (pc := 84) (ji := 2) C (dk k_P_addThing 44 rfl) fl_P_34 hp (by decide) rfl rfl ?_
              have e1 : up σ (p + 2) ((dT d).length : Int) a p 2 = ((dT d).length : Int) := (up_ne1 _ _ _ _ (by omega)).trans b0
              rw [e1]
              refine V_iload_n (pc := 87) C (dk k_P_addThing 45 rfl) rfl ?_
              refine V_callS0 (pc := 88) C (dk k_P_addThing 46 rfl) lk_P_50 cm_F_put sm_F_put (c_put _ _ _ (p + 3) 8 ((dT d).length : Int) b hp_3 (by decide) (by omega) (by omega) hb) rfl rfl (Nat.le_of_ble_eq_true rfl) (Rm.mono hRm (by decide) (by decide)) ?_
              refine V_R (fun hR => ?_)
              refine V_aload_n (pc := 91) C (dk k_P_addThing 47 rfl) rfl ?_
              refine V_getr (pc := 92) (o2 := p + 4) C (dk k_P_addThing 48 rfl) fl_P_21 hp (by decide) rfl (by decide) rfl ?_
              refine V_aload_n (pc := 95) C (dk k_P_addThing 49 rfl) rfl ?_
              refine V_geti (pc := 96) (ji := 2) C (dk k_P_addThing 50 rfl) fl_P_34 hp (by decide) rfl rfl ?_
              have e2 : up (up σ (p + 2) ((dT d).length : Int) a) (p + 3) ((dT d).length : Int) b p 2 = ((dT d).length : Int) := (up_ne1 _ _ _ _ (by omega)).trans e1
              rw [e2]
              refine V_iload_n (pc := 99) C (dk k_P_addThing 51 rfl) rfl ?_
              refine V_callS0 (pc := 100) C (dk k_P_addThing 52 rfl) lk_P_50 cm_F_put sm_F_put (c_put _ _ _ (p + 4) 8 ((dT d).length : Int) c hp_4 (by decide) (by omega) (by omega) hc) rfl rfl (Nat.le_of_ble_eq_true rfl) (Rm.mono hRm (by decide) (by decide)) ?_
              refine V_R (fun hR => ?_)
              refine V_aload_n (pc := 103) C (dk k_P_addThing 53 rfl) rfl ?_
              refine V_getr (pc := 104) (o2 := p + 5) C (dk k_P_addThing 54 rfl) fl_P_24 hp (by decide) rfl (by decide) rfl ?_
              refine V_aload_n (pc := 107) C (dk k_P_addThing 55 rfl) rfl ?_
              refine V_geti (pc := 108) (ji := 2) C (dk k_P_addThing 56 rfl) fl_P_34 hp (by decide) rfl rfl ?_
              have e3 : up (up (up σ (p + 2) ((dT d).length : Int) a) (p + 3) ((dT d).length : Int) b) (p + 4) ((dT d).length : Int) c p 2 = ((dT d).length : Int) := (up_ne1 _ _ _ _ (by omega)).trans e2
              rw [e3]
              refine V_iload (pc := 111) C (dk k_P_addThing 57 rfl) rfl ?_
              refine V_callS0 (pc := 113) C (dk k_P_addThing 58 rfl) lk_P_50 cm_F_put sm_F_put (c_put _ _ _ (p + 5) 8 ((dT d).length : Int) e hp_5 (by decide) (by omega) (by omega) he) rfl rfl (Nat.le_of_ble_eq_true rfl) (Rm.mono hRm (by decide) (by decide)) ?_
              refine V_R (fun hR => ?_)
              refine V_aload_n (pc := 116) C (dk k_P_addThing 59 rfl) rfl ?_
              refine V_dupR (pc := 117) C (dk k_P_addThing 60 rfl) ?_
              refine V_geti (pc := 118) (ji := 2) C (dk k_P_addThing 61 rfl) fl_P_34 hp (by decide) rfl rfl ?_
              have e4 : up (up (up (up σ (p + 2) ((dT d).length : Int) a) (p + 3) ((dT d).length : Int) b) (p + 4) ((dT d).length : Int) c) (p + 5) ((dT d).length : Int) e p 2 = ((dT d).length : Int) := (up_ne1 _ _ _ _ (by omega)).trans e3
              rw [e4]
              refine V_iconst (pc := 121) C (dk k_P_addThing 62 rfl) rfl ?_
              refine V_iadd (pc := 122) C (dk k_P_addThing 63 rfl) ?_
              refine V_puti (pc := 123) (ji := 2) C (dk k_P_addThing 64 rfl) fl_P_34 fw_5_2 hp (by decide) rfl rfl ⟨by omega, by omega⟩ ?_
              refine V_R (fun hR => ?_)
              refine V_iconst (pc := 126) C (dk k_P_addThing 65 rfl) rfl ?_
              refine V_zret (pc := 127) C (by first | exact Or.inl rfl | exact Or.inr rfl | (split <;> first | exact Or.inl rfl | exact Or.inr rfl) | omega) E (dk k_P_addThing 66 rfl) ?_
              first | (exfalso; omega) | (rw [if_pos (by omega)]; exact ⟨rfl, fun z => hd.addT (by omega) a b c e, ((((Fr.rf p 7 σ).up _ _ (by omega) (by omega)).up _ _ (by omega) (by omega)).up _ _ (by omega) (by omega)).up _ _ (by omega) (by omega) |>.up _ _ (by omega) (by omega)⟩)
            · skip
              refine V_iconst (pc := 65) C (dk k_P_addThing 33 rfl) rfl ?_
              refine V_zret (pc := 66) C (by first | exact Or.inl rfl | exact Or.inr rfl | (split <;> first | exact Or.inl rfl | exact Or.inr rfl) | omega) E (dk k_P_addThing 34 rfl) ?_
              first | (exfalso; omega) | (rw [if_neg (by omega)]; exact ⟨rfl, fun z => by omega, Fr.rf _ _ _⟩)
          · skip
            refine V_iconst (pc := 53) C (dk k_P_addThing 27 rfl) rfl ?_
            refine V_goto (pc := 54) C (dk k_P_addThing 28 rfl) 58 rfl ?_
            refine V_istore (pc := 58) C (dk k_P_addThing 30 rfl) (by rw [hXN]; decide) ?_
            dsimp only [lst, lstL, lz, kill, Fin.val, Nat.reduceAdd]
            refine V_iload (pc := 60) C (dk k_P_addThing 31 rfl) rfl ?_
            refine V_ifne (pc := 62) C (dk k_P_addThing 32 rfl) 67 rfl (by first | exact hR _ _ | with_reducible assumption | exact ⟨by omega, by omega⟩) (fun h11 => ?_) (fun h11 => ?_)
            · skip
              refine V_aload_n (pc := 67) C (dk k_P_addThing 35 rfl) rfl ?_
              refine V_getr (pc := 68) (o2 := p + 2) C (dk k_P_addThing 36 rfl) fl_P_15 hp (by decide) rfl (by decide) rfl ?_
              refine V_aload_n (pc := 71) C (dk k_P_addThing 37 rfl) rfl ?_
              refine V_geti (pc := 72) (ji := 2) C (dk k_P_addThing 38 rfl) fl_P_34 hp (by decide) rfl rfl ?_
              rw [b0]
              refine V_iload_n (pc := 75) C (dk k_P_addThing 39 rfl) rfl ?_
              refine V_callS0 (pc := 76) C (dk k_P_addThing 40 rfl) lk_P_50 cm_F_put sm_F_put (c_put _ _ _ (p + 2) 8 ((dT d).length : Int) a hp_2 (by decide) (by omega) (by omega) ha) rfl rfl (Nat.le_of_ble_eq_true rfl) (Rm.mono hRm (by decide) (by decide)) ?_
              refine V_R (fun hR => ?_)
              refine V_aload_n (pc := 79) C (dk k_P_addThing 41 rfl) rfl ?_
              refine V_getr (pc := 80) (o2 := p + 3) C (dk k_P_addThing 42 rfl) fl_P_18 hp (by decide) rfl (by decide) rfl ?_
              refine V_aload_n (pc := 83) C (dk k_P_addThing 43 rfl) rfl ?_
              refine V_geti (pc := 84) (ji := 2) C (dk k_P_addThing 44 rfl) fl_P_34 hp (by decide) rfl rfl ?_
              have e1 : up σ (p + 2) ((dT d).length : Int) a p 2 = ((dT d).length : Int) := (up_ne1 _ _ _ _ (by omega)).trans b0
              rw [e1]
              refine V_iload_n (pc := 87) C (dk k_P_addThing 45 rfl) rfl ?_
              refine V_callS0 (pc := 88) C (dk k_P_addThing 46 rfl) lk_P_50 cm_F_put sm_F_put (c_put _ _ _ (p + 3) 8 ((dT d).length : Int) b hp_3 (by decide) (by omega) (by omega) hb) rfl rfl (Nat.le_of_ble_eq_true rfl) (Rm.mono hRm (by decide) (by decide)) ?_
              refine V_R (fun hR => ?_)
              refine V_aload_n (pc := 91) C (dk k_P_addThing 47 rfl) rfl ?_
              refine V_getr (pc := 92) (o2 := p + 4) C (dk k_P_addThing 48 rfl) fl_P_21 hp (by decide) rfl (by decide) rfl ?_
              refine V_aload_n (pc := 95) C (dk k_P_addThing 49 rfl) rfl ?_
              refine V_geti (pc := 96) (ji := 2) C (dk k_P_addThing 50 rfl) fl_P_34 hp (by decide) rfl rfl ?_
              have e2 : up (up σ (p + 2) ((dT d).length : Int) a) (p + 3) ((dT d).length : Int) b p 2 = ((dT d).length : Int) := (up_ne1 _ _ _ _ (by omega)).trans e1
              rw [e2]
              refine V_iload_n (pc := 99) C (dk k_P_addThing 51 rfl) rfl ?_
              refine V_callS0 (pc := 100) C (dk k_P_addThing 52 rfl) lk_P_50 cm_F_put sm_F_put (c_put _ _ _ (p + 4) 8 ((dT d).length : Int) c hp_4 (by decide) (by omega) (by omega) hc) rfl rfl (Nat.le_of_ble_eq_true rfl) (Rm.mono hRm (by decide) (by decide)) ?_
              refine V_R (fun hR => ?_)
              refine V_aload_n (pc := 103) C (dk k_P_addThing 53 rfl) rfl ?_
              refine V_getr (pc := 104) (o2 := p + 5) C (dk k_P_addThing 54 rfl) fl_P_24 hp (by decide) rfl (by decide) rfl ?_
              refine V_aload_n (pc := 107) C (dk k_P_addThing 55 rfl) rfl ?_
              refine V_geti (pc := 108) (ji := 2) C (dk k_P_addThing 56 rfl) fl_P_34 hp (by decide) rfl rfl ?_
              have e3 : up (up (up σ (p + 2) ((dT d).length : Int) a) (p + 3) ((dT d).length : Int) b) (p + 4) ((dT d).length : Int) c p 2 = ((dT d).length : Int) := (up_ne1 _ _ _ _ (by omega)).trans e2
              rw [e3]
              refine V_iload (pc := 111) C (dk k_P_addThing 57 rfl) rfl ?_
              refine V_callS0 (pc := 113) C (dk k_P_addThing 58 rfl) lk_P_50 cm_F_put sm_F_put (c_put _ _ _ (p + 5) 8 ((dT d).length : Int) e hp_5 (by decide) (by omega) (by omega) he) rfl rfl (Nat.le_of_ble_eq_true rfl) (Rm.mono hRm (by decide) (by decide)) ?_
              refine V_R (fun hR => ?_)
              refine V_aload_n (pc := 116) C (dk k_P_addThing 59 rfl) rfl ?_
              refine V_dupR (pc := 117) C (dk k_P_addThing 60 rfl) ?_
              refine V_geti (pc := 118) (ji := 2) C (dk k_P_addThing 61 rfl) fl_P_34 hp (by decide) rfl rfl ?_
              have e4 : up (up (up (up σ (p + 2) ((dT d).length : Int) a) (p + 3) ((dT d).length : Int) b) (p + 4) ((dT d).length : Int) c) (p + 5) ((dT d).length : Int) e p 2 = ((dT d).length : Int) := (up_ne1 _ _ _ _ (by omega)).trans e3
              rw [e4]
              refine V_iconst (pc := 121) C (dk k_P_addThing 62 rfl) rfl ?_
              refine V_iadd (pc := 122) C (dk k_P_addThing 63 rfl) ?_
              refine V_puti (pc := 123) (ji := 2) C (dk k_P_addThing 64 rfl) fl_P_34 fw_5_2 hp (by decide) rfl rfl ⟨by omega, by omega⟩ ?_
              refine V_R (fun hR => ?_)
              refine V_iconst (pc := 126) C (dk k_P_addThing 65 rfl) rfl ?_
              refine V_zret (pc := 127) C (by first | exact Or.inl rfl | exact Or.inr rfl | (split <;> first | exact Or.inl rfl | exact Or.inr rfl) | omega) E (dk k_P_addThing 66 rfl) ?_
              first | (exfalso; omega) | (rw [if_pos (by omega)]; exact ⟨rfl, fun z => hd.addT (by omega) a b c e, ((((Fr.rf p 7 σ).up _ _ (by omega) (by omega)).up _ _ (by omega) (by omega)).up _ _ (by omega) (by omega)).up _ _ (by omega) (by omega) |>.up _ _ (by omega) (by omega)⟩)
            · skip
              refine V_iconst (pc := 65) C (dk k_P_addThing 33 rfl) rfl ?_
              refine V_zret (pc := 66) C (by first | exact Or.inl rfl | exact Or.inr rfl | (split <;> first | exact Or.inl rfl | exact Or.inr rfl) | omega) E (dk k_P_addThing 34 rfl) ?_
              first | (exfalso; omega) | (rw [if_neg (by omega)]; exact ⟨rfl, fun z => by omega, Fr.rf _ _ _⟩)
end
section
def nr (r : Option (List Int × Nat)) : Int := match r with
  | none => -1
  | some (_, i) => (i : Int)
theorem nr_none {r : Option (List Int × Nat)} (h : nr r = -1) : r = none := by
  cases r with
  | none => rfl
  | some z =>
    obtain ⟨a, b⟩ := z
    have h2 : (b : Int) = -1 := h
    omega
theorem nr_some {r : Option (List Int × Nat)} (h : ¬ nr r = -1) : ∃ ns i, r = some (ns, i) := by
  cases r with
  | none => exact absurd rfl h
  | some z => exact ⟨z.1, z.2, rfl⟩
theorem nr_R {r : Option (List Int × Nat)} (h : ∀ ns i, r = some (ns, i) → i < 2000) : inR (nr r) := by
  cases r with
  | none => exact ⟨by decide, by decide⟩
  | some z =>
    have h2 := h z.1 z.2 rfl
    show inR (z.2 : Int)
    exact ⟨by omega, by omega⟩
theorem isn {α : Type} {o : Option α} (h : ¬ o.isSome = true) : o = none := by
  cases o with
  | none => rfl
  | some z => exact absurd rfl h
theorem num_2 {tx : List Int} {q : Nat} (h : fig (chr tx q)) (h2 : fig (chr tx (q + 1))) : num tx q = some (10 * (chr tx q - 48) + chr tx (q + 1) - 48, q + 2) := by
  unfold num; rw [if_pos h, if_pos h2]
theorem num_1 {tx : List Int} {q : Nat} (h : fig (chr tx q)) (h2 : ¬ fig (chr tx (q + 1))) : num tx q = some (chr tx q - 48, q + 1) := by
  unfold num; rw [if_pos h, if_neg h2]
theorem num_0 {tx : List Int} {q : Nat} (h : ¬ fig (chr tx q)) : num tx q = none := by
  unfold num; rw [if_neg h]
theorem rdN_s (tx : List Int) (f i : Nat) (acc : List Int) : rdN tx (f + 1) i acc = match num tx i with
    | none => none
    | some (v, i1) => if chr tx i1 = 59 then some (acc ++ [v], i1 + 1) else if chr tx i1 = 44 then rdN tx f (i1 + 1) (acc ++ [v]) else none := rfl
theorem num_b {tx : List Int} {i i1 : Nat} {v : Int} (h : num tx i = some (v, i1)) : i < i1 ∧ i1 ≤ i + 2 ∧ 0 ≤ v ∧ v ≤ 99 := by
  unfold num at h
  split at h
  · split at h
    · cases h; rename_i a b; obtain ⟨a1, a2⟩ := a; obtain ⟨b1, b2⟩ := b; omega
    · cases h; rename_i a b; obtain ⟨a1, a2⟩ := a; omega
  · cases h
theorem rdN_b (tx : List Int) : ∀ (f i : Nat) (acc ns : List Int) (n : Nat), rdN tx f i acc = some (ns, n) → i < n ∧ n ≤ i + 3 * f
  | 0, _, _, _, _, h => by cases h
  | f + 1, i, acc, ns, n, h => by
    rw [rdN_s] at h
    cases hn : num tx i with
    | none => rw [hn] at h; cases h
    | some q =>
      obtain ⟨v, i1⟩ := q
      rw [hn] at h
      obtain ⟨b1, b2, -, -⟩ := num_b hn
      dsimp only at h
      split at h
      · cases h; omega
      · split at h
        · have := rdN_b tx f (i1 + 1) _ _ _ h; omega
        · cases h

def i_R_isFigure : List (Nat × (Instr × Nat)) := [(0, (.aload_n 1, 1)), (1, (.iload_n 2, 1)), (2, (.invokevirtual 30, 3)), (5, (.bipush 48, 2)), (7, (.bipush 57, 2)), (9, (.invokestatic 49, 3)), (12, (.ireturn, 1))]
theorem k_R_isFigure : i_R_isFigure.all (fun q => decide (decode b_R_isFigure q.1 = .ok q.2)) = true := by decide +kernel

set_option maxHeartbeats 1000000 in
set_option maxRecDepth 20000 in
theorem c_R_isFigure (l : Launch) (G : GE) (σ : Wd) (tx : List Int) (i : Nat) (hT : TxR σ tx) (hi : i < 2000) : Ct l G y_R_isFigure b_R_isFigure 3 (some (.boolean)) 1 22 [vR 3, vR 1, vI (i : Int)] σ (Dt (some (vI (if fig (chr tx i) then 1 else 0))) σ) := by
  refine Ct.of cm_R_isFigure (Nat.le_of_ble_eq_true rfl) ?_
  intro X hXl hXG hXN hRm C E
  subst hXl; subst hXG
  show V X 0 [some (vR 3), some (vR 1), some (vI (i : Int))] [] σ
  refine V_R (fun hR => ?_)
  have cb := chr_b hT i
  refine V_aload_n (pc := 0) C (dk k_R_isFigure 0 rfl) rfl ?_
  refine V_iload_n (pc := 1) C (dk k_R_isFigure 1 rfl) rfl ?_
  refine V_callV (pc := 2) C (dk k_R_isFigure 2 rfl) lk_R_30 cm_L_letter vm_L_letter (c_let _ _ _ tx i hT (by omega)) kq_1 rfl rfl rfl (Nat.le_of_ble_eq_true rfl) (Rm.mono hRm (by decide) (by decide)) ?_
  refine V_bipush (pc := 5) (n' := 48) C (dk k_R_isFigure 3 rfl) rfl ?_
  refine V_bipush (pc := 7) (n' := 57) C (dk k_R_isFigure 4 rfl) rfl ?_
  refine V_callS (pc := 9) C (dk k_R_isFigure 5 rfl) lk_R_49 cm_F_within sm_F_within (c_F_within _ _ _ (chr tx i) 48 57 ⟨by omega, by omega⟩ ⟨by decide, by decide⟩ ⟨by decide, by decide⟩) rfl rfl (Nat.le_of_ble_eq_true rfl) (Rm.mono hRm (by decide) (by decide)) ?_
  refine V_zret (pc := 12) C (by first | exact Or.inl rfl | exact Or.inr rfl | (split <;> first | exact Or.inl rfl | exact Or.inr rfl) | omega) E (dk k_R_isFigure 6 rfl) ?_
  exact ⟨rfl, rfl⟩

def i_R_readNumbers : List (Nat × (Instr × Nat)) := [(0, (.iload_n 2, 1)), (1, (.istore_n 3, 1)), (2, (.iconst 0, 1)), (3, (.istore 4, 2)), (5, (.iload 4, 2)), (7, (.iconst 4, 1)), (8, (.if_icmp .ge 108, 3)), (11, (.aload_n 0, 1)), (12, (.aload_n 1, 1)), (13, (.iload_n 3, 1)), (14, (.invokevirtual 38, 3)), (17, (.ifCond .ne 5, 3)), (20, (.iconst (-1), 1)), (21, (.ireturn, 1)), (22, (.aload_n 1, 1)), (23, (.iload_n 3, 1)), (24, (.invokevirtual 30, 3)), (27, (.bipush 48, 2)), (29, (.isub, 1)), (30, (.istore 5, 2)), (32, (.iinc 3 1, 3)), (35, (.aload_n 0, 1)), (36, (.aload_n 1, 1)), (37, (.iload_n 3, 1)), (38, (.invokevirtual 38, 3)), (41, (.ifCond .eq 22, 3)), (44, (.bipush 10, 2)), (46, (.iload 5, 2)), (48, (.imul, 1)), (49, (.aload_n 1, 1)), (50, (.iload_n 3, 1)), (51, (.invokevirtual 30, 3)), (54, (.iadd, 1)), (55, (.bipush 48, 2)), (57, (.isub, 1)), (58, (.istore 5, 2)), (60, (.iinc 3 1, 3)), (63, (.aload_n 0, 1)), (64, (.getfield 9, 3)), (67, (.iload 4, 2)), (69, (.iload 5, 2)), (71, (.invokestatic 42, 3)), (74, (.aload_n 0, 1)), (75, (.iload 4, 2)), (77, (.iconst 1, 1)), (78, (.iadd, 1)), (79, (.putfield 46, 3)), (82, (.aload_n 1, 1)), (83, (.iload_n 3, 1)), (84, (.invokevirtual 30, 3)), (87, (.istore 6, 2)), (89, (.iinc 3 1, 3)), (92, (.iload 6, 2)), (94, (.bipush 59, 2)), (96, (.if_icmp .ne 5, 3)), (99, (.iload_n 3, 1)), (100, (.ireturn, 1)), (101, (.iload 6, 2)), (103, (.bipush 44, 2)), (105, (.if_icmp .eq 5, 3)), (108, (.iconst (-1), 1)), (109, (.ireturn, 1)), (110, (.iinc 4 1, 3)), (113, (.goto (-108), 3)), (116, (.iconst (-1), 1)), (117, (.ireturn, 1))]
theorem k_R_readNumbers : i_R_readNumbers.all (fun q => decide (decode b_R_readNumbers q.1 = .ok q.2)) = true := by decide +kernel

set_option maxHeartbeats 1000000 in
set_option maxRecDepth 20000 in
theorem c_R_readNumbers (l : Launch) (G : GE) (σ : Wd) (tx : List Int) (i0 : Nat) (hT : TxR σ tx) (hi0 : i0 ≤ 400) : Ct l G y_R_readNumbers b_R_readNumbers 7 (some (.int)) 2 44 [vR 3, vR 1, vI (i0 : Int)] σ (Rt (some (vI (nr (rdN tx 4 i0 [])))) (fun σ' => Fr 3 2 σ σ' ∧ ∀ ns n, rdN tx 4 i0 [] = some (ns, n) → NsR σ' ns)) := by
  refine Ct.of cm_R_readNumbers (Nat.le_of_ble_eq_true rfl) ?_
  intro X hXl hXG hXN hRm C E
  subst hXl; subst hXG
  show V X 0 [some (vR 3), some (vR 1), some (vI (i0 : Int)), none, none, none, none] [] σ
  refine V_R (fun hR => ?_)
  refine V_iload_n (pc := 0) C (dk k_R_readNumbers 0 rfl) rfl ?_
  refine V_istore_n (pc := 1) C (dk k_R_readNumbers 1 rfl) (by rw [hXN]; decide) ?_
  dsimp only [lst, lstL, lz, kill, Fin.val, Nat.reduceAdd]
  refine V_iconst (pc := 2) C (dk k_R_readNumbers 2 rfl) rfl ?_
  refine V_istore (pc := 3) C (dk k_R_readNumbers 3 rfl) (by rw [hXN]; decide) ?_
  dsimp only [lst, lstL, lz, kill, Fin.val, Nat.reduceAdd]
  refine V_eq (V_loop (fun z : List Int × (Nat × Wd) => z.1.length ≤ 4 ∧ z.2.1 ≤ i0 + 3 * z.1.length ∧ (∀ (k : Nat) (v : Int), z.1[k]? = some v → z.2.2 4 k = v ∧ 0 ≤ v ∧ v ≤ 99) ∧ Fr 3 2 σ z.2.2 ∧ rdN tx 4 i0 [] = rdN tx (4 - z.1.length) z.2.1 z.1) (fun z => [some (vR 3), some (vR 1), some (vI (i0 : Int)), some (vI (z.2.1 : Int)), some (vI (z.1.length : Int)), none, none]) (fun z => z.2.2) (fun z => 4 - z.1.length) (fun z hz ih => ?_) ([], (i0, σ)) ⟨Nat.zero_le 4, Nat.le_refl _, fun k v h => by simp at h, Fr.rf _ _ _, rfl⟩) rfl rfl rfl
  obtain ⟨acc, q, τ⟩ := z
  obtain ⟨hal, hq, hrow, hfr, hrd⟩ := hz
  dsimp only at hal hq hrow hfr hrd ih ⊢
  refine V_R (fun hR => ?_)
  have hTt : TxR τ tx := hT.fr (hfr 1 (by omega)) (hfr 2 (by omega))
  have cb := chr_b hTt q
  have cb1 := chr_b hTt (q + 1)
  refine V_iload (pc := 5) C (dk k_R_readNumbers 4 rfl) rfl ?_
  refine V_iconst (pc := 7) C (dk k_R_readNumbers 5 rfl) rfl ?_
  refine V_icmpge (pc := 8) C (dk k_R_readNumbers 6 rfl) 116 rfl (by first | exact hR _ _ | with_reducible assumption | exact ⟨by omega, by omega⟩) (by first | exact hR _ _ | with_reducible assumption | exact ⟨by omega, by omega⟩) (fun h1 => ?_) (fun h1 => ?_)
  · skip
    refine V_iconst (pc := 116) C (dk k_R_readNumbers 64 rfl) rfl ?_
    refine V_iret (pc := 117) C E (dk k_R_readNumbers 65 rfl) ?_
    rw [hrd, show 4 - acc.length = 0 by omega]
    exact ⟨rfl, hfr, fun ns n h => by cases h⟩
  · skip
    refine V_aload_n (pc := 11) C (dk k_R_readNumbers 7 rfl) rfl ?_
    refine V_aload_n (pc := 12) C (dk k_R_readNumbers 8 rfl) rfl ?_
    refine V_iload_n (pc := 13) C (dk k_R_readNumbers 9 rfl) rfl ?_
    refine V_callV (pc := 14) C (dk k_R_readNumbers 10 rfl) lk_R_38 cm_R_isFigure vm_R_isFigure (c_R_isFigure _ _ _ tx q hTt (by omega)) kq_3 rfl rfl rfl (Nat.le_of_ble_eq_true rfl) (Rm.mono hRm (by decide) (by decide)) ?_
    refine V_ifneB (pc := 17) C (dk k_R_readNumbers 11 rfl) 22 rfl (fun h2 => ?_) (fun h2 => ?_)
    · skip
      refine V_aload_n (pc := 22) C (dk k_R_readNumbers 14 rfl) rfl ?_
      refine V_iload_n (pc := 23) C (dk k_R_readNumbers 15 rfl) rfl ?_
      refine V_callV (pc := 24) C (dk k_R_readNumbers 16 rfl) lk_R_30 cm_L_letter vm_L_letter (c_let _ _ _ tx q hTt (by omega)) kq_1 rfl rfl rfl (Nat.le_of_ble_eq_true rfl) (Rm.mono hRm (by decide) (by decide)) ?_
      refine V_bipush (pc := 27) (n' := 48) C (dk k_R_readNumbers 17 rfl) rfl ?_
      refine V_isub (pc := 29) C (dk k_R_readNumbers 18 rfl) ?_
      refine V_istore (pc := 30) C (dk k_R_readNumbers 19 rfl) (by rw [hXN]; decide) ?_
      dsimp only [lst, lstL, lz, kill, Fin.val, Nat.reduceAdd]
      refine V_iinc (pc := 32) C (dk k_R_readNumbers 20 rfl) (by rw [hXN]; decide) rfl ?_
      dsimp only [lst, lstL, lz, kill, Fin.val, Nat.reduceAdd]
      refine V_aload_n (pc := 35) C (dk k_R_readNumbers 21 rfl) rfl ?_
      refine V_aload_n (pc := 36) C (dk k_R_readNumbers 22 rfl) rfl ?_
      refine V_iload_n (pc := 37) C (dk k_R_readNumbers 23 rfl) rfl ?_
      refine V_callV (pc := 38) C (dk k_R_readNumbers 24 rfl) lk_R_38 cm_R_isFigure vm_R_isFigure (c_R_isFigure _ _ _ tx (q + 1) hTt (by omega)) kq_3 rfl rfl rfl (Nat.le_of_ble_eq_true rfl) (Rm.mono hRm (by decide) (by decide)) ?_
      refine V_ifeqB (pc := 41) C (dk k_R_readNumbers 25 rfl) 63 rfl (fun h3 => ?_) (fun h3 => ?_)
      · skip
        first | (obtain ⟨v, i1, hn0, hv, hi1⟩ : ∃ (v : Int) (i1 : Nat), num tx q = some (v, i1) ∧ 10 * (chr tx q - 48) + chr tx (q + 1) - 48 = v ∧ (q : Int) + 1 + 1 = (i1 : Int) := ⟨_, _, num_2 (by assumption) (by assumption), rfl, by omega⟩; rw [hv, hi1]) | (obtain ⟨v, i1, hn0, hv, hi1⟩ : ∃ (v : Int) (i1 : Nat), num tx q = some (v, i1) ∧ chr tx q - 48 = v ∧ (q : Int) + 1 = (i1 : Int) := ⟨_, _, num_1 (by assumption) (by assumption), rfl, by omega⟩; rw [hv, hi1])
        have ⟨nb1, nb2, nb3, nb4⟩ := num_b hn0
        refine V_aload_n (pc := 63) C (dk k_R_readNumbers 37 rfl) rfl ?_
        refine V_getr (pc := 64) (o2 := 4) C (dk k_R_readNumbers 38 rfl) fl_R_9 kq_3 (by decide) rfl (by decide) rfl ?_
        refine V_iload (pc := 67) C (dk k_R_readNumbers 39 rfl) rfl ?_
        refine V_iload (pc := 69) C (dk k_R_readNumbers 40 rfl) rfl ?_
        refine V_callS0 (pc := 71) C (dk k_R_readNumbers 41 rfl) lk_R_42 cm_F_put sm_F_put (c_put _ _ _ (4) 4 (acc.length : Int) v kq_4 (by decide) (by omega) (by omega) ⟨by omega, by omega⟩) rfl rfl (Nat.le_of_ble_eq_true rfl) (Rm.mono hRm (by decide) (by decide)) ?_
        refine V_R (fun hR => ?_)
        refine V_aload_n (pc := 74) C (dk k_R_readNumbers 42 rfl) rfl ?_
        refine V_iload (pc := 75) C (dk k_R_readNumbers 43 rfl) rfl ?_
        refine V_iconst (pc := 77) C (dk k_R_readNumbers 44 rfl) rfl ?_
        refine V_iadd (pc := 78) C (dk k_R_readNumbers 45 rfl) ?_
        refine V_puti (pc := 79) (ji := 1) C (dk k_R_readNumbers 46 rfl) fl_R_46 fw_6_1 kq_3 (by decide) rfl rfl ⟨by omega, by omega⟩ ?_
        refine V_R (fun hR => ?_)
        have hT3 : TxR (up (up τ 4 (acc.length : Int) v) 3 1 ((acc.length : Int) + 1)) tx := hTt.fr (by rw [up_row _ _ _ (by decide), up_row _ _ _ (by decide)]) (by rw [up_row _ _ _ (by decide), up_row _ _ _ (by decide)])
        have hfr2 : Fr 3 2 σ (up (up τ 4 (acc.length : Int) v) 3 1 ((acc.length : Int) + 1)) := (hfr.up _ _ (by omega) (by omega)).up _ _ (by omega) (by omega)
        have hrow2 : ∀ (k : Nat) (u : Int), (acc ++ [v])[k]? = some u → up (up τ 4 (acc.length : Int) v) 3 1 ((acc.length : Int) + 1) 4 k = u ∧ 0 ≤ u ∧ u ≤ 99 := fun k u hk => by (rcases rowApp hk with ⟨a, b⟩ | ⟨a, b⟩; (simp (disch := omega) only [up_ne1, up_ne2]; exact hrow k u b); (subst b; rw [a]; simp (disch := omega) only [up_ne1, up_at]; exact ⟨trivial, nb3, nb4⟩))
        have cb2 := chr_b hTt i1
        refine V_aload_n (pc := 82) C (dk k_R_readNumbers 47 rfl) rfl ?_
        refine V_iload_n (pc := 83) C (dk k_R_readNumbers 48 rfl) rfl ?_
        refine V_callV (pc := 84) C (dk k_R_readNumbers 49 rfl) lk_R_30 cm_L_letter vm_L_letter (c_let _ _ _ tx i1 hT3 (by omega)) kq_1 rfl rfl rfl (Nat.le_of_ble_eq_true rfl) (Rm.mono hRm (by decide) (by decide)) ?_
        refine V_istore (pc := 87) C (dk k_R_readNumbers 50 rfl) (by rw [hXN]; decide) ?_
        dsimp only [lst, lstL, lz, kill, Fin.val, Nat.reduceAdd]
        refine V_iinc (pc := 89) C (dk k_R_readNumbers 51 rfl) (by rw [hXN]; decide) rfl ?_
        dsimp only [lst, lstL, lz, kill, Fin.val, Nat.reduceAdd]
        refine V_iload (pc := 92) C (dk k_R_readNumbers 52 rfl) rfl ?_
        refine V_bipush (pc := 94) (n' := 59) C (dk k_R_readNumbers 53 rfl) rfl ?_
        refine V_icmpne (pc := 96) C (dk k_R_readNumbers 54 rfl) 101 rfl (by first | exact hR _ _ | with_reducible assumption | exact ⟨by omega, by omega⟩) (by first | exact hR _ _ | with_reducible assumption | exact ⟨by omega, by omega⟩) (fun h4 => ?_) (fun h4 => ?_)
        · skip
          refine V_iload (pc := 101) C (dk k_R_readNumbers 57 rfl) rfl ?_
          refine V_bipush (pc := 103) (n' := 44) C (dk k_R_readNumbers 58 rfl) rfl ?_
          refine V_icmpeq (pc := 105) C (dk k_R_readNumbers 59 rfl) 110 rfl (by first | exact hR _ _ | with_reducible assumption | exact ⟨by omega, by omega⟩) (by first | exact hR _ _ | with_reducible assumption | exact ⟨by omega, by omega⟩) (fun h5 => ?_) (fun h5 => ?_)
          · skip
            refine V_iinc (pc := 110) C (dk k_R_readNumbers 62 rfl) (by rw [hXN]; decide) rfl ?_
            dsimp only [lst, lstL, lz, kill, Fin.val, Nat.reduceAdd]
            refine V_goto (pc := 113) C (dk k_R_readNumbers 63 rfl) 5 rfl ?_
            refine V_fg 5 ?_
            dsimp only [fg]
            refine V_fg 6 ?_
            dsimp only [fg]
            refine V_eq (ih (acc ++ [v], (i1 + 1, up (up τ 4 (acc.length : Int) v) 3 1 ((acc.length : Int) + 1))) ⟨by simp only [List.length_append, List.length_singleton]; omega, by simp only [List.length_append, List.length_singleton]; omega, hrow2, hfr2, ?_⟩ (by simp only [List.length_append, List.length_singleton]; omega)) (by simp only [List.length_append, List.length_singleton]; rfl) rfl rfl
            dsimp only
            rw [hrd, show 4 - acc.length = (4 - (acc.length + 1)) + 1 by omega, rdN_s, hn0]
            dsimp only
            rw [if_neg (by assumption), if_pos (by assumption), List.length_append, List.length_singleton]
          · skip
            refine V_iconst (pc := 108) C (dk k_R_readNumbers 60 rfl) rfl ?_
            refine V_iret (pc := 109) C E (dk k_R_readNumbers 61 rfl) ?_
            rw [hrd, show 4 - acc.length = (4 - (acc.length + 1)) + 1 by omega, rdN_s, hn0]
            dsimp only
            rw [if_neg (by assumption), if_neg (by assumption)]
            exact ⟨rfl, hfr2, fun ns n h => by cases h⟩
        · skip
          refine V_iload_n (pc := 99) C (dk k_R_readNumbers 55 rfl) rfl ?_
          refine V_iret (pc := 100) C E (dk k_R_readNumbers 56 rfl) ?_
          rw [hrd, show 4 - acc.length = (4 - (acc.length + 1)) + 1 by omega, rdN_s, hn0]
          dsimp only
          rw [if_pos (by assumption)]
          refine ⟨rfl, hfr2, fun ns n h => ?_⟩
          cases h
          exact ⟨by rw [up_at, List.length_append]; rfl, by rw [List.length_append, List.length_singleton]; omega, hrow2⟩
      · skip
        refine V_bipush (pc := 44) (n' := 10) C (dk k_R_readNumbers 26 rfl) rfl ?_
        refine V_iload (pc := 46) C (dk k_R_readNumbers 27 rfl) rfl ?_
        refine V_imul (pc := 48) C (dk k_R_readNumbers 28 rfl) ?_
        refine V_aload_n (pc := 49) C (dk k_R_readNumbers 29 rfl) rfl ?_
        refine V_iload_n (pc := 50) C (dk k_R_readNumbers 30 rfl) rfl ?_
        refine V_callV (pc := 51) C (dk k_R_readNumbers 31 rfl) lk_R_30 cm_L_letter vm_L_letter (c_let _ _ _ tx (q + 1) hTt (by omega)) kq_1 rfl rfl rfl (Nat.le_of_ble_eq_true rfl) (Rm.mono hRm (by decide) (by decide)) ?_
        refine V_iadd (pc := 54) C (dk k_R_readNumbers 32 rfl) ?_
        refine V_bipush (pc := 55) (n' := 48) C (dk k_R_readNumbers 33 rfl) rfl ?_
        refine V_isub (pc := 57) C (dk k_R_readNumbers 34 rfl) ?_
        refine V_istore (pc := 58) C (dk k_R_readNumbers 35 rfl) (by rw [hXN]; decide) ?_
        dsimp only [lst, lstL, lz, kill, Fin.val, Nat.reduceAdd]
        refine V_iinc (pc := 60) C (dk k_R_readNumbers 36 rfl) (by rw [hXN]; decide) rfl ?_
        dsimp only [lst, lstL, lz, kill, Fin.val, Nat.reduceAdd]
        first | (obtain ⟨v, i1, hn0, hv, hi1⟩ : ∃ (v : Int) (i1 : Nat), num tx q = some (v, i1) ∧ 10 * (chr tx q - 48) + chr tx (q + 1) - 48 = v ∧ (q : Int) + 1 + 1 = (i1 : Int) := ⟨_, _, num_2 (by assumption) (by assumption), rfl, by omega⟩; rw [hv, hi1]) | (obtain ⟨v, i1, hn0, hv, hi1⟩ : ∃ (v : Int) (i1 : Nat), num tx q = some (v, i1) ∧ chr tx q - 48 = v ∧ (q : Int) + 1 = (i1 : Int) := ⟨_, _, num_1 (by assumption) (by assumption), rfl, by omega⟩; rw [hv, hi1])
        have ⟨nb1, nb2, nb3, nb4⟩ := num_b hn0
        refine V_aload_n (pc := 63) C (dk k_R_readNumbers 37 rfl) rfl ?_
        refine V_getr (pc := 64) (o2 := 4) C (dk k_R_readNumbers 38 rfl) fl_R_9 kq_3 (by decide) rfl (by decide) rfl ?_
        refine V_iload (pc := 67) C (dk k_R_readNumbers 39 rfl) rfl ?_
        refine V_iload (pc := 69) C (dk k_R_readNumbers 40 rfl) rfl ?_
        refine V_callS0 (pc := 71) C (dk k_R_readNumbers 41 rfl) lk_R_42 cm_F_put sm_F_put (c_put _ _ _ (4) 4 (acc.length : Int) v kq_4 (by decide) (by omega) (by omega) ⟨by omega, by omega⟩) rfl rfl (Nat.le_of_ble_eq_true rfl) (Rm.mono hRm (by decide) (by decide)) ?_
        refine V_R (fun hR => ?_)
        refine V_aload_n (pc := 74) C (dk k_R_readNumbers 42 rfl) rfl ?_
        refine V_iload (pc := 75) C (dk k_R_readNumbers 43 rfl) rfl ?_
        refine V_iconst (pc := 77) C (dk k_R_readNumbers 44 rfl) rfl ?_
        refine V_iadd (pc := 78) C (dk k_R_readNumbers 45 rfl) ?_
        refine V_puti (pc := 79) (ji := 1) C (dk k_R_readNumbers 46 rfl) fl_R_46 fw_6_1 kq_3 (by decide) rfl rfl ⟨by omega, by omega⟩ ?_
        refine V_R (fun hR => ?_)
        have hT3 : TxR (up (up τ 4 (acc.length : Int) v) 3 1 ((acc.length : Int) + 1)) tx := hTt.fr (by rw [up_row _ _ _ (by decide), up_row _ _ _ (by decide)]) (by rw [up_row _ _ _ (by decide), up_row _ _ _ (by decide)])
        have hfr2 : Fr 3 2 σ (up (up τ 4 (acc.length : Int) v) 3 1 ((acc.length : Int) + 1)) := (hfr.up _ _ (by omega) (by omega)).up _ _ (by omega) (by omega)
        have hrow2 : ∀ (k : Nat) (u : Int), (acc ++ [v])[k]? = some u → up (up τ 4 (acc.length : Int) v) 3 1 ((acc.length : Int) + 1) 4 k = u ∧ 0 ≤ u ∧ u ≤ 99 := fun k u hk => by (rcases rowApp hk with ⟨a, b⟩ | ⟨a, b⟩; (simp (disch := omega) only [up_ne1, up_ne2]; exact hrow k u b); (subst b; rw [a]; simp (disch := omega) only [up_ne1, up_at]; exact ⟨trivial, nb3, nb4⟩))
        have cb2 := chr_b hTt i1
        refine V_aload_n (pc := 82) C (dk k_R_readNumbers 47 rfl) rfl ?_
        refine V_iload_n (pc := 83) C (dk k_R_readNumbers 48 rfl) rfl ?_
        refine V_callV (pc := 84) C (dk k_R_readNumbers 49 rfl) lk_R_30 cm_L_letter vm_L_letter (c_let _ _ _ tx i1 hT3 (by omega)) kq_1 rfl rfl rfl (Nat.le_of_ble_eq_true rfl) (Rm.mono hRm (by decide) (by decide)) ?_
        refine V_istore (pc := 87) C (dk k_R_readNumbers 50 rfl) (by rw [hXN]; decide) ?_
        dsimp only [lst, lstL, lz, kill, Fin.val, Nat.reduceAdd]
        refine V_iinc (pc := 89) C (dk k_R_readNumbers 51 rfl) (by rw [hXN]; decide) rfl ?_
        dsimp only [lst, lstL, lz, kill, Fin.val, Nat.reduceAdd]
        refine V_iload (pc := 92) C (dk k_R_readNumbers 52 rfl) rfl ?_
        refine V_bipush (pc := 94) (n' := 59) C (dk k_R_readNumbers 53 rfl) rfl ?_
        refine V_icmpne (pc := 96) C (dk k_R_readNumbers 54 rfl) 101 rfl (by first | exact hR _ _ | with_reducible assumption | exact ⟨by omega, by omega⟩) (by first | exact hR _ _ | with_reducible assumption | exact ⟨by omega, by omega⟩) (fun h6 => ?_) (fun h6 => ?_)
        · skip
          refine V_iload (pc := 101) C (dk k_R_readNumbers 57 rfl) rfl ?_
          refine V_bipush (pc := 103) (n' := 44) C (dk k_R_readNumbers 58 rfl) rfl ?_
          refine V_icmpeq (pc := 105) C (dk k_R_readNumbers 59 rfl) 110 rfl (by first | exact hR _ _ | with_reducible assumption | exact ⟨by omega, by omega⟩) (by first | exact hR _ _ | with_reducible assumption | exact ⟨by omega, by omega⟩) (fun h7 => ?_) (fun h7 => ?_)
          · skip
            refine V_iinc (pc := 110) C (dk k_R_readNumbers 62 rfl) (by rw [hXN]; decide) rfl ?_
            dsimp only [lst, lstL, lz, kill, Fin.val, Nat.reduceAdd]
            refine V_goto (pc := 113) C (dk k_R_readNumbers 63 rfl) 5 rfl ?_
            refine V_fg 5 ?_
            dsimp only [fg]
            refine V_fg 6 ?_
            dsimp only [fg]
            refine V_eq (ih (acc ++ [v], (i1 + 1, up (up τ 4 (acc.length : Int) v) 3 1 ((acc.length : Int) + 1))) ⟨by simp only [List.length_append, List.length_singleton]; omega, by simp only [List.length_append, List.length_singleton]; omega, hrow2, hfr2, ?_⟩ (by simp only [List.length_append, List.length_singleton]; omega)) (by simp only [List.length_append, List.length_singleton]; rfl) rfl rfl
            dsimp only
            rw [hrd, show 4 - acc.length = (4 - (acc.length + 1)) + 1 by omega, rdN_s, hn0]
            dsimp only
            rw [if_neg (by assumption), if_pos (by assumption), List.length_append, List.length_singleton]
          · skip
            refine V_iconst (pc := 108) C (dk k_R_readNumbers 60 rfl) rfl ?_
            refine V_iret (pc := 109) C E (dk k_R_readNumbers 61 rfl) ?_
            rw [hrd, show 4 - acc.length = (4 - (acc.length + 1)) + 1 by omega, rdN_s, hn0]
            dsimp only
            rw [if_neg (by assumption), if_neg (by assumption)]
            exact ⟨rfl, hfr2, fun ns n h => by cases h⟩
        · skip
          refine V_iload_n (pc := 99) C (dk k_R_readNumbers 55 rfl) rfl ?_
          refine V_iret (pc := 100) C E (dk k_R_readNumbers 56 rfl) ?_
          rw [hrd, show 4 - acc.length = (4 - (acc.length + 1)) + 1 by omega, rdN_s, hn0]
          dsimp only
          rw [if_pos (by assumption)]
          refine ⟨rfl, hfr2, fun ns n h => ?_⟩
          cases h
          exact ⟨by rw [up_at, List.length_append]; rfl, by rw [List.length_append, List.length_singleton]; omega, hrow2⟩
    · skip
      refine V_iconst (pc := 20) C (dk k_R_readNumbers 12 rfl) rfl ?_
      refine V_iret (pc := 21) C E (dk k_R_readNumbers 13 rfl) ?_
      have hn0 : num tx q = none := num_0 (by assumption)
      rw [hrd, show 4 - acc.length = (4 - (acc.length + 1)) + 1 by omega, rdN_s, hn0]
      exact ⟨rfl, hfr, fun ns n h => by cases h⟩

theorem NsR.row {σ σ' : Wd} {ns : List Int} (h : NsR σ ns) (h3 : σ' 3 = σ 3) (h4 : σ' 4 = σ 4) : NsR σ' ns := by
  unfold NsR; rw [h3, h4]; exact h

def i_R_tell : List (Nat × (Instr × Nat)) := [(0, (.aload_n 0, 1)), (1, (.getfield 9, 3)), (4, (.iconst 0, 1)), (5, (.invokestatic 53, 3)), (8, (.istore_n 3, 1)), (9, (.aload_n 0, 1)), (10, (.getfield 9, 3)), (13, (.iconst 1, 1)), (14, (.invokestatic 53, 3)), (17, (.istore 4, 2)), (19, (.iload_n 2, 1)), (20, (.lookupswitch 152 #[(97, 44), (115, 128), (117, 66), (120, 106)], 44)), (64, (.aload_n 0, 1)), (65, (.getfield 46, 3)), (68, (.iconst 1, 1)), (69, (.if_icmp .ne 15, 3)), (72, (.aload_n 1, 1)), (73, (.iload_n 3, 1)), (74, (.invokevirtual 57, 3)), (77, (.ifCond .eq 7, 3)), (80, (.iconst 1, 1)), (81, (.goto 4, 3)), (84, (.iconst 0, 1)), (85, (.ireturn, 1)), (86, (.aload_n 0, 1)), (87, (.getfield 46, 3)), (90, (.iconst 4, 1)), (91, (.if_icmp .ne 33, 3)), (94, (.aload_n 1, 1)), (95, (.iload_n 3, 1)), (96, (.iload 4, 2)), (98, (.aload_n 0, 1)), (99, (.getfield 9, 3)), (102, (.iconst 2, 1)), (103, (.invokestatic 53, 3)), (106, (.aload_n 0, 1)), (107, (.getfield 9, 3)), (110, (.iconst 3, 1)), (111, (.invokestatic 53, 3)), (114, (.invokevirtual 61, 3)), (117, (.ifCond .eq 7, 3)), (120, (.iconst 1, 1)), (121, (.goto 4, 3)), (124, (.iconst 0, 1)), (125, (.ireturn, 1)), (126, (.aload_n 0, 1)), (127, (.getfield 46, 3)), (130, (.iconst 1, 1)), (131, (.if_icmp .ne 15, 3)), (134, (.aload_n 1, 1)), (135, (.iload_n 3, 1)), (136, (.invokevirtual 65, 3)), (139, (.ifCond .eq 7, 3)), (142, (.iconst 1, 1)), (143, (.goto 4, 3)), (146, (.iconst 0, 1)), (147, (.ireturn, 1)), (148, (.aload_n 0, 1)), (149, (.getfield 46, 3)), (152, (.iconst 2, 1)), (153, (.if_icmp .ne 17, 3)), (156, (.aload_n 1, 1)), (157, (.iload_n 3, 1)), (158, (.iload 4, 2)), (160, (.invokevirtual 68, 3)), (163, (.ifCond .eq 7, 3)), (166, (.iconst 1, 1)), (167, (.goto 4, 3)), (170, (.iconst 0, 1)), (171, (.ireturn, 1)), (172, (.iconst 0, 1)), (173, (.ireturn, 1))]
theorem k_R_tell : i_R_tell.all (fun q => decide (decode b_R_tell q.1 = .ok q.2)) = true := by decide +kernel

set_option maxHeartbeats 1000000 in
set_option maxRecDepth 20000 in
theorem c_R_tell (l : Launch) (G : GE) (σ : Wd) (p : Nat) (d : DS) (c : Int) (ns : List Int) (hd : DR σ p d) (hN : NsR σ ns) (hc : inR c) : Ct l G y_R_tell b_R_tell 5 (some (.boolean)) 2 47 [vR 3, vR p, vI c] σ (Rt (some (vI (if (tell d c ns).isSome = true then 1 else 0))) (fun σ' => (∀ d', tell d c ns = some d' → DR σ' p d') ∧ Fr p 7 σ σ')) := by
  refine Ct.of cm_R_tell (Nat.le_of_ble_eq_true rfl) ?_
  intro X hXl hXG hXN hRm C E
  subst hXl; subst hXG
  have ⟨hc_1, hc_2⟩ := hc
  show V X 0 [some (vR 3), some (vR p), some (vI c), none, none] [] σ
  refine V_R (fun hR => ?_)
  obtain ⟨hp, ⟨a0, a1⟩, ⟨b0, b1⟩, ⟨c0, c1⟩, ⟨s0, s1⟩, r1, r2, r3⟩ := id hd
  obtain ⟨hp_1, hp_2, hp_3, hp_4, hp_5, hp_6⟩ := kd_P hp
  obtain ⟨n1, n2, n3⟩ := id hN
  refine V_aload_n (pc := 0) C (dk k_R_tell 0 rfl) rfl ?_
  refine V_getr (pc := 1) (o2 := 4) C (dk k_R_tell 1 rfl) fl_R_9 kq_3 (by decide) rfl (by decide) rfl ?_
  refine V_iconst (pc := 4) C (dk k_R_tell 2 rfl) rfl ?_
  refine V_callS (pc := 5) C (dk k_R_tell 3 rfl) lk_R_53 cm_F_at sm_F_at (c_at _ _ _ (4) 4 0 kq_4 (by decide) (by omega) (by omega)) rfl rfl (Nat.le_of_ble_eq_true rfl) (Rm.mono hRm (by decide) (by decide)) ?_
  refine V_istore_n (pc := 8) C (dk k_R_tell 4 rfl) (by rw [hXN]; decide) ?_
  dsimp only [lst, lstL, lz, kill, Fin.val, Nat.reduceAdd]
  refine V_aload_n (pc := 9) C (dk k_R_tell 5 rfl) rfl ?_
  refine V_getr (pc := 10) (o2 := 4) C (dk k_R_tell 6 rfl) fl_R_9 kq_3 (by decide) rfl (by decide) rfl ?_
  refine V_iconst (pc := 13) C (dk k_R_tell 7 rfl) rfl ?_
  refine V_callS (pc := 14) C (dk k_R_tell 8 rfl) lk_R_53 cm_F_at sm_F_at (c_at _ _ _ (4) 4 1 kq_4 (by decide) (by omega) (by omega)) rfl rfl (Nat.le_of_ble_eq_true rfl) (Rm.mono hRm (by decide) (by decide)) ?_
  refine V_istore (pc := 17) C (dk k_R_tell 9 rfl) (by rw [hXN]; decide) ?_
  dsimp only [lst, lstL, lz, kill, Fin.val, Nat.reduceAdd]
  refine V_iload_n (pc := 19) C (dk k_R_tell 10 rfl) rfl ?_
  refine V_lookup (pc := 20) C (dk k_R_tell 11 rfl) (by decide) (by first | exact hR _ _ | with_reducible assumption | exact ⟨by omega, by omega⟩) ?_
  by_cases h2 : c = 97
  · refine ⟨44, 64, by rw [h2]; rfl, rfl, ?_⟩
    refine V_aload_n (pc := 64) C (dk k_R_tell 12 rfl) rfl ?_
    refine V_geti (pc := 65) (ji := 1) C (dk k_R_tell 13 rfl) fl_R_46 kq_3 (by decide) rfl rfl ?_
    refine V_iconst (pc := 68) C (dk k_R_tell 14 rfl) rfl ?_
    refine V_icmpne (pc := 69) C (dk k_R_tell 15 rfl) 84 rfl (by first | exact hR _ _ | with_reducible assumption | exact ⟨by omega, by omega⟩) (by first | exact hR _ _ | with_reducible assumption | exact ⟨by omega, by omega⟩) (fun h3 => ?_) (fun h3 => ?_)
    · skip
      refine V_iconst (pc := 84) C (dk k_R_tell 22 rfl) rfl ?_
      refine V_zret (pc := 85) C (by first | exact Or.inl rfl | exact Or.inr rfl | (split <;> first | exact Or.inl rfl | exact Or.inr rfl) | omega) E (dk k_R_tell 23 rfl) ?_
      first | (have ht : tell d c ns = none := by (unfold tell; rw [if_pos (by omega), if_neg (fun z => by omega)])) | (have ht : tell d c ns = some (dM d ++ [ns.getD 0 0], d.2) := by (unfold tell; rw [if_pos (by omega), if_pos (by omega)]))
      rw [ht]
      refine ⟨rfl, ?_, ?_⟩
      · intro d' h
        first | (cases h; done) | (cases h; exact hq1.1 (by omega))
      · first | exact hq1.2 | exact Fr.rf _ _ _
    · skip
      have ⟨g1, g2, g3⟩ := hN.at (k := 0) (by omega)
      have g1 : σ 4 0 = ns.getD 0 0 := g1
      rw [g1]
      refine V_aload_n (pc := 72) C (dk k_R_tell 16 rfl) rfl ?_
      refine V_iload_n (pc := 73) C (dk k_R_tell 17 rfl) rfl ?_
      refine V_callVr (pc := 74) C (dk k_R_tell 18 rfl) lk_R_57 cm_P_addPerson vm_P_addPerson (c_P_addPerson _ _ _ p d (ns.getD 0 0) hd ⟨by omega, by omega⟩) hp rfl rfl rfl (Nat.le_of_ble_eq_true rfl) (Rm.mono hRm (by decide) (by decide)) (fun τ1 hq1 => ?_)
      refine V_R (fun hR => ?_)
      refine V_ifeqB (pc := 77) C (dk k_R_tell 19 rfl) 84 rfl (fun h4 => ?_) (fun h4 => ?_)
      · skip
        refine V_iconst (pc := 84) C (dk k_R_tell 22 rfl) rfl ?_
        refine V_zret (pc := 85) C (by first | exact Or.inl rfl | exact Or.inr rfl | (split <;> first | exact Or.inl rfl | exact Or.inr rfl) | omega) E (dk k_R_tell 23 rfl) ?_
        first | (have ht : tell d c ns = none := by (unfold tell; rw [if_pos (by omega), if_neg (fun z => by omega)])) | (have ht : tell d c ns = some (dM d ++ [ns.getD 0 0], d.2) := by (unfold tell; rw [if_pos (by omega), if_pos (by omega)]))
        rw [ht]
        refine ⟨rfl, ?_, ?_⟩
        · intro d' h
          first | (cases h; done) | (cases h; exact hq1.1 (by omega))
        · first | exact hq1.2 | exact Fr.rf _ _ _
      · skip
        refine V_iconst (pc := 80) C (dk k_R_tell 20 rfl) rfl ?_
        refine V_goto (pc := 81) C (dk k_R_tell 21 rfl) 85 rfl ?_
        refine V_zret (pc := 85) C (by first | exact Or.inl rfl | exact Or.inr rfl | (split <;> first | exact Or.inl rfl | exact Or.inr rfl) | omega) E (dk k_R_tell 23 rfl) ?_
        first | (have ht : tell d c ns = none := by (unfold tell; rw [if_pos (by omega), if_neg (fun z => by omega)])) | (have ht : tell d c ns = some (dM d ++ [ns.getD 0 0], d.2) := by (unfold tell; rw [if_pos (by omega), if_pos (by omega)]))
        rw [ht]
        refine ⟨rfl, ?_, ?_⟩
        · intro d' h
          first | (cases h; done) | (cases h; exact hq1.1 (by omega))
        · first | exact hq1.2 | exact Fr.rf _ _ _
  by_cases h5 : c = 115
  · refine ⟨128, 148, by rw [h5]; rfl, rfl, ?_⟩
    refine V_aload_n (pc := 148) C (dk k_R_tell 57 rfl) rfl ?_
    refine V_geti (pc := 149) (ji := 1) C (dk k_R_tell 58 rfl) fl_R_46 kq_3 (by decide) rfl rfl ?_
    refine V_iconst (pc := 152) C (dk k_R_tell 59 rfl) rfl ?_
    refine V_icmpne (pc := 153) C (dk k_R_tell 60 rfl) 170 rfl (by first | exact hR _ _ | with_reducible assumption | exact ⟨by omega, by omega⟩) (by first | exact hR _ _ | with_reducible assumption | exact ⟨by omega, by omega⟩) (fun h6 => ?_) (fun h6 => ?_)
    · skip
      refine V_iconst (pc := 170) C (dk k_R_tell 68 rfl) rfl ?_
      refine V_zret (pc := 171) C (by first | exact Or.inl rfl | exact Or.inr rfl | (split <;> first | exact Or.inl rfl | exact Or.inr rfl) | omega) E (dk k_R_tell 69 rfl) ?_
      first | (have ht : tell d c ns = none := by (unfold tell; rw [if_neg (by omega), if_neg (by omega), if_neg (by omega), if_pos (by omega), if_neg (fun z => by omega)])) | (have ht : tell d c ns = some (dM d, (dT d, (dX d, (ns.getD 0 0, ns.getD 1 0)))) := by (unfold tell; rw [if_neg (by omega), if_neg (by omega), if_neg (by omega), if_pos (by omega), if_pos (by omega)]))
      rw [ht]
      refine ⟨rfl, ?_, ?_⟩
      · intro d' h
        first | (cases h; done) | (cases h; exact hq1.1 (by omega))
      · first | exact hq1.2 | exact Fr.rf _ _ _
    · skip
      have ⟨g1, g2, g3⟩ := hN.at (k := 0) (by omega)
      have ⟨g4, g5, g6⟩ := hN.at (k := 1) (by omega)
      have g1 : σ 4 0 = ns.getD 0 0 := g1
      have g4 : σ 4 1 = ns.getD 1 0 := g4
      rw [g1, g4]
      refine V_aload_n (pc := 156) C (dk k_R_tell 61 rfl) rfl ?_
      refine V_iload_n (pc := 157) C (dk k_R_tell 62 rfl) rfl ?_
      refine V_iload (pc := 158) C (dk k_R_tell 63 rfl) rfl ?_
      refine V_callVr (pc := 160) C (dk k_R_tell 64 rfl) lk_R_68 cm_P_setShop vm_P_setShop (c_P_setShop _ _ _ p d (ns.getD 0 0) (ns.getD 1 0) hd ⟨by omega, by omega⟩ ⟨by omega, by omega⟩) hp rfl rfl rfl (Nat.le_of_ble_eq_true rfl) (Rm.mono hRm (by decide) (by decide)) (fun τ1 hq1 => ?_)
      refine V_R (fun hR => ?_)
      refine V_ifeqB (pc := 163) C (dk k_R_tell 65 rfl) 170 rfl (fun h7 => ?_) (fun h7 => ?_)
      · skip
        refine V_iconst (pc := 170) C (dk k_R_tell 68 rfl) rfl ?_
        refine V_zret (pc := 171) C (by first | exact Or.inl rfl | exact Or.inr rfl | (split <;> first | exact Or.inl rfl | exact Or.inr rfl) | omega) E (dk k_R_tell 69 rfl) ?_
        first | (have ht : tell d c ns = none := by (unfold tell; rw [if_neg (by omega), if_neg (by omega), if_neg (by omega), if_pos (by omega), if_neg (fun z => by omega)])) | (have ht : tell d c ns = some (dM d, (dT d, (dX d, (ns.getD 0 0, ns.getD 1 0)))) := by (unfold tell; rw [if_neg (by omega), if_neg (by omega), if_neg (by omega), if_pos (by omega), if_pos (by omega)]))
        rw [ht]
        refine ⟨rfl, ?_, ?_⟩
        · intro d' h
          first | (cases h; done) | (cases h; exact hq1.1 (by omega))
        · first | exact hq1.2 | exact Fr.rf _ _ _
      · skip
        refine V_iconst (pc := 166) C (dk k_R_tell 66 rfl) rfl ?_
        refine V_goto (pc := 167) C (dk k_R_tell 67 rfl) 171 rfl ?_
        refine V_zret (pc := 171) C (by first | exact Or.inl rfl | exact Or.inr rfl | (split <;> first | exact Or.inl rfl | exact Or.inr rfl) | omega) E (dk k_R_tell 69 rfl) ?_
        first | (have ht : tell d c ns = none := by (unfold tell; rw [if_neg (by omega), if_neg (by omega), if_neg (by omega), if_pos (by omega), if_neg (fun z => by omega)])) | (have ht : tell d c ns = some (dM d, (dT d, (dX d, (ns.getD 0 0, ns.getD 1 0)))) := by (unfold tell; rw [if_neg (by omega), if_neg (by omega), if_neg (by omega), if_pos (by omega), if_pos (by omega)]))
        rw [ht]
        refine ⟨rfl, ?_, ?_⟩
        · intro d' h
          first | (cases h; done) | (cases h; exact hq1.1 (by omega))
        · first | exact hq1.2 | exact Fr.rf _ _ _
  by_cases h8 : c = 117
  · refine ⟨66, 86, by rw [h8]; rfl, rfl, ?_⟩
    refine V_aload_n (pc := 86) C (dk k_R_tell 24 rfl) rfl ?_
    refine V_geti (pc := 87) (ji := 1) C (dk k_R_tell 25 rfl) fl_R_46 kq_3 (by decide) rfl rfl ?_
    refine V_iconst (pc := 90) C (dk k_R_tell 26 rfl) rfl ?_
    refine V_icmpne (pc := 91) C (dk k_R_tell 27 rfl) 124 rfl (by first | exact hR _ _ | with_reducible assumption | exact ⟨by omega, by omega⟩) (by first | exact hR _ _ | with_reducible assumption | exact ⟨by omega, by omega⟩) (fun h9 => ?_) (fun h9 => ?_)
    · skip
      refine V_iconst (pc := 124) C (dk k_R_tell 43 rfl) rfl ?_
      refine V_zret (pc := 125) C (by first | exact Or.inl rfl | exact Or.inr rfl | (split <;> first | exact Or.inl rfl | exact Or.inr rfl) | omega) E (dk k_R_tell 44 rfl) ?_
      first | (have ht : tell d c ns = none := by (unfold tell; rw [if_neg (by omega), if_pos (by omega), if_neg (fun z => by omega)])) | (have ht : tell d c ns = some (dM d, (dT d ++ [(ns.getD 0 0, (ns.getD 1 0, (ns.getD 2 0, ns.getD 3 0)))], d.2.2)) := by (unfold tell; rw [if_neg (by omega), if_pos (by omega), if_pos (by omega)]))
      rw [ht]
      refine ⟨rfl, ?_, ?_⟩
      · intro d' h
        first | (cases h; done) | (cases h; exact hq1.1 (by omega))
      · first | exact hq1.2 | exact Fr.rf _ _ _
    · skip
      have ⟨g1, g2, g3⟩ := hN.at (k := 0) (by omega)
      have ⟨g4, g5, g6⟩ := hN.at (k := 1) (by omega)
      have ⟨g7, g8, g9⟩ := hN.at (k := 2) (by omega)
      have ⟨u1, u2, u3⟩ := hN.at (k := 3) (by omega)
      have g1 : σ 4 0 = ns.getD 0 0 := g1
      have g4 : σ 4 1 = ns.getD 1 0 := g4
      have g7 : σ 4 2 = ns.getD 2 0 := g7
      have u1 : σ 4 3 = ns.getD 3 0 := u1
      rw [g1, g4]
      refine V_aload_n (pc := 94) C (dk k_R_tell 28 rfl) rfl ?_
      refine V_iload_n (pc := 95) C (dk k_R_tell 29 rfl) rfl ?_
      refine V_iload (pc := 96) C (dk k_R_tell 30 rfl) rfl ?_
      refine V_aload_n (pc := 98) C (dk k_R_tell 31 rfl) rfl ?_
      refine V_getr (pc := 99) (o2 := 4) C (dk k_R_tell 32 rfl) fl_R_9 kq_3 (by decide) rfl (by decide) rfl ?_
      refine V_iconst (pc := 102) C (dk k_R_tell 33 rfl) rfl ?_
      refine V_callS (pc := 103) C (dk k_R_tell 34 rfl) lk_R_53 cm_F_at sm_F_at (c_at _ _ _ (4) 4 2 kq_4 (by decide) (by omega) (by omega)) rfl rfl (Nat.le_of_ble_eq_true rfl) (Rm.mono hRm (by decide) (by decide)) ?_
      rw [g7]
      refine V_aload_n (pc := 106) C (dk k_R_tell 35 rfl) rfl ?_
      refine V_getr (pc := 107) (o2 := 4) C (dk k_R_tell 36 rfl) fl_R_9 kq_3 (by decide) rfl (by decide) rfl ?_
      refine V_iconst (pc := 110) C (dk k_R_tell 37 rfl) rfl ?_
      refine V_callS (pc := 111) C (dk k_R_tell 38 rfl) lk_R_53 cm_F_at sm_F_at (c_at _ _ _ (4) 4 3 kq_4 (by decide) (by omega) (by omega)) rfl rfl (Nat.le_of_ble_eq_true rfl) (Rm.mono hRm (by decide) (by decide)) ?_
      rw [u1]
      refine V_callVr (pc := 114) C (dk k_R_tell 39 rfl) lk_R_61 cm_P_addThing vm_P_addThing (c_P_addThing _ _ _ p d (ns.getD 0 0) (ns.getD 1 0) (ns.getD 2 0) (ns.getD 3 0) hd ⟨by omega, by omega⟩ ⟨by omega, by omega⟩ ⟨by omega, by omega⟩ ⟨by omega, by omega⟩) hp rfl rfl rfl (Nat.le_of_ble_eq_true rfl) (Rm.mono hRm (by decide) (by decide)) (fun τ1 hq1 => ?_)
      refine V_R (fun hR => ?_)
      refine V_ifeqB (pc := 117) C (dk k_R_tell 40 rfl) 124 rfl (fun h10 => ?_) (fun h10 => ?_)
      · skip
        refine V_iconst (pc := 124) C (dk k_R_tell 43 rfl) rfl ?_
        refine V_zret (pc := 125) C (by first | exact Or.inl rfl | exact Or.inr rfl | (split <;> first | exact Or.inl rfl | exact Or.inr rfl) | omega) E (dk k_R_tell 44 rfl) ?_
        first | (have ht : tell d c ns = none := by (unfold tell; rw [if_neg (by omega), if_pos (by omega), if_neg (fun z => by omega)])) | (have ht : tell d c ns = some (dM d, (dT d ++ [(ns.getD 0 0, (ns.getD 1 0, (ns.getD 2 0, ns.getD 3 0)))], d.2.2)) := by (unfold tell; rw [if_neg (by omega), if_pos (by omega), if_pos (by omega)]))
        rw [ht]
        refine ⟨rfl, ?_, ?_⟩
        · intro d' h
          first | (cases h; done) | (cases h; exact hq1.1 (by omega))
        · first | exact hq1.2 | exact Fr.rf _ _ _
      · skip
        refine V_iconst (pc := 120) C (dk k_R_tell 41 rfl) rfl ?_
        refine V_goto (pc := 121) C (dk k_R_tell 42 rfl) 125 rfl ?_
        refine V_zret (pc := 125) C (by first | exact Or.inl rfl | exact Or.inr rfl | (split <;> first | exact Or.inl rfl | exact Or.inr rfl) | omega) E (dk k_R_tell 44 rfl) ?_
        first | (have ht : tell d c ns = none := by (unfold tell; rw [if_neg (by omega), if_pos (by omega), if_neg (fun z => by omega)])) | (have ht : tell d c ns = some (dM d, (dT d ++ [(ns.getD 0 0, (ns.getD 1 0, (ns.getD 2 0, ns.getD 3 0)))], d.2.2)) := by (unfold tell; rw [if_neg (by omega), if_pos (by omega), if_pos (by omega)]))
        rw [ht]
        refine ⟨rfl, ?_, ?_⟩
        · intro d' h
          first | (cases h; done) | (cases h; exact hq1.1 (by omega))
        · first | exact hq1.2 | exact Fr.rf _ _ _
  by_cases h11 : c = 120
  · refine ⟨106, 126, by rw [h11]; rfl, rfl, ?_⟩
    refine V_aload_n (pc := 126) C (dk k_R_tell 45 rfl) rfl ?_
    refine V_geti (pc := 127) (ji := 1) C (dk k_R_tell 46 rfl) fl_R_46 kq_3 (by decide) rfl rfl ?_
    refine V_iconst (pc := 130) C (dk k_R_tell 47 rfl) rfl ?_
    refine V_icmpne (pc := 131) C (dk k_R_tell 48 rfl) 146 rfl (by first | exact hR _ _ | with_reducible assumption | exact ⟨by omega, by omega⟩) (by first | exact hR _ _ | with_reducible assumption | exact ⟨by omega, by omega⟩) (fun h12 => ?_) (fun h12 => ?_)
    · skip
      refine V_iconst (pc := 146) C (dk k_R_tell 55 rfl) rfl ?_
      refine V_zret (pc := 147) C (by first | exact Or.inl rfl | exact Or.inr rfl | (split <;> first | exact Or.inl rfl | exact Or.inr rfl) | omega) E (dk k_R_tell 56 rfl) ?_
      first | (have ht : tell d c ns = none := by (unfold tell; rw [if_neg (by omega), if_neg (by omega), if_pos (by omega), if_neg (fun z => by omega)])) | (have ht : tell d c ns = some (dM d, (dT d, (dX d ++ [ns.getD 0 0], d.2.2.2))) := by (unfold tell; rw [if_neg (by omega), if_neg (by omega), if_pos (by omega), if_pos (by omega)]))
      rw [ht]
      refine ⟨rfl, ?_, ?_⟩
      · intro d' h
        first | (cases h; done) | (cases h; exact hq1.1 (by omega))
      · first | exact hq1.2 | exact Fr.rf _ _ _
    · skip
      have ⟨g1, g2, g3⟩ := hN.at (k := 0) (by omega)
      have g1 : σ 4 0 = ns.getD 0 0 := g1
      rw [g1]
      refine V_aload_n (pc := 134) C (dk k_R_tell 49 rfl) rfl ?_
      refine V_iload_n (pc := 135) C (dk k_R_tell 50 rfl) rfl ?_
      refine V_callVr (pc := 136) C (dk k_R_tell 51 rfl) lk_R_65 cm_P_addRate vm_P_addRate (c_P_addRate _ _ _ p d (ns.getD 0 0) hd ⟨by omega, by omega⟩) hp rfl rfl rfl (Nat.le_of_ble_eq_true rfl) (Rm.mono hRm (by decide) (by decide)) (fun τ1 hq1 => ?_)
      refine V_R (fun hR => ?_)
      refine V_ifeqB (pc := 139) C (dk k_R_tell 52 rfl) 146 rfl (fun h13 => ?_) (fun h13 => ?_)
      · skip
        refine V_iconst (pc := 146) C (dk k_R_tell 55 rfl) rfl ?_
        refine V_zret (pc := 147) C (by first | exact Or.inl rfl | exact Or.inr rfl | (split <;> first | exact Or.inl rfl | exact Or.inr rfl) | omega) E (dk k_R_tell 56 rfl) ?_
        first | (have ht : tell d c ns = none := by (unfold tell; rw [if_neg (by omega), if_neg (by omega), if_pos (by omega), if_neg (fun z => by omega)])) | (have ht : tell d c ns = some (dM d, (dT d, (dX d ++ [ns.getD 0 0], d.2.2.2))) := by (unfold tell; rw [if_neg (by omega), if_neg (by omega), if_pos (by omega), if_pos (by omega)]))
        rw [ht]
        refine ⟨rfl, ?_, ?_⟩
        · intro d' h
          first | (cases h; done) | (cases h; exact hq1.1 (by omega))
        · first | exact hq1.2 | exact Fr.rf _ _ _
      · skip
        refine V_iconst (pc := 142) C (dk k_R_tell 53 rfl) rfl ?_
        refine V_goto (pc := 143) C (dk k_R_tell 54 rfl) 147 rfl ?_
        refine V_zret (pc := 147) C (by first | exact Or.inl rfl | exact Or.inr rfl | (split <;> first | exact Or.inl rfl | exact Or.inr rfl) | omega) E (dk k_R_tell 56 rfl) ?_
        first | (have ht : tell d c ns = none := by (unfold tell; rw [if_neg (by omega), if_neg (by omega), if_pos (by omega), if_neg (fun z => by omega)])) | (have ht : tell d c ns = some (dM d, (dT d, (dX d ++ [ns.getD 0 0], d.2.2.2))) := by (unfold tell; rw [if_neg (by omega), if_neg (by omega), if_pos (by omega), if_pos (by omega)]))
        rw [ht]
        refine ⟨rfl, ?_, ?_⟩
        · intro d' h
          first | (cases h; done) | (cases h; exact hq1.1 (by omega))
        · first | exact hq1.2 | exact Fr.rf _ _ _
  refine ⟨152, 172, by simp only [Op.lookupswitch.offset_cons]; (repeat rw [if_neg (by omega)]); rfl, rfl, ?_⟩
  refine V_iconst (pc := 172) C (dk k_R_tell 70 rfl) rfl ?_
  refine V_zret (pc := 173) C (by first | exact Or.inl rfl | exact Or.inr rfl | (split <;> first | exact Or.inl rfl | exact Or.inr rfl) | omega) E (dk k_R_tell 71 rfl) ?_
  have ht : tell d c ns = none := by (unfold tell; rw [if_neg (by omega), if_neg (by omega), if_neg (by omega), if_neg (by omega)])
  rw [ht]
  exact ⟨rfl, fun d' h => by (cases h), Fr.rf _ _ _⟩

theorem rdI_s (tx : List Int) (f i : Nat) (d : DS) : rdI tx (f + 1) i d = if i < tx.length then (match rdN tx 4 (i + 1) [] with
      | none => ((i : Int), d)
      | some (ns, i1) => match tell d (chr tx i) ns with
        | none => ((i : Int), d)
        | some d' => rdI tx f i1 d') else (-4, d) := rfl

def i_R_readInto : List (Nat × (Instr × Nat)) := [(0, (.aload_n 1, 1)), (1, (.invokevirtual 15, 3)), (4, (.iconst 0, 1)), (5, (.istore_n 3, 1)), (6, (.iconst 0, 1)), (7, (.istore 4, 2)), (9, (.iload 4, 2)), (11, (.sipush 200, 3)), (14, (.if_icmp .ge 51, 3)), (17, (.iload_n 3, 1)), (18, (.aload_n 2, 1)), (19, (.getfield 20, 3)), (22, (.if_icmp .ge 43, 3)), (25, (.aload_n 0, 1)), (26, (.aload_n 2, 1)), (27, (.iload_n 3, 1)), (28, (.iconst 1, 1)), (29, (.iadd, 1)), (30, (.invokevirtual 26, 3)), (33, (.istore 5, 2)), (35, (.iload 5, 2)), (37, (.iconst (-1), 1)), (38, (.if_icmp .eq 16, 3)), (41, (.aload_n 0, 1)), (42, (.aload_n 1, 1)), (43, (.aload_n 2, 1)), (44, (.iload_n 3, 1)), (45, (.invokevirtual 30, 3)), (48, (.invokevirtual 34, 3)), (51, (.ifCond .ne 5, 3)), (54, (.iload_n 3, 1)), (55, (.ireturn, 1)), (56, (.iload 5, 2)), (58, (.istore_n 3, 1)), (59, (.iinc 4 1, 3)), (62, (.goto (-53), 3)), (65, (.bipush (-4), 2)), (67, (.ireturn, 1))]
theorem k_R_readInto : i_R_readInto.all (fun q => decide (decode b_R_readInto q.1 = .ok q.2)) = true := by decide +kernel

set_option maxHeartbeats 1000000 in
set_option maxRecDepth 20000 in
theorem c_R_readInto (l : Launch) (G : GE) (σ : Wd) (p : Nat) (tx : List Int) (hp : kd p = 5) (hT : TxR σ tx) : Ct l G y_R_readInto b_R_readInto 6 (some (.int)) 3 71 [vR 3, vR p, vR 1] σ (Rt (some (vI (o_read tx).1)) (fun σ' => ((o_read tx).1 = -4 → DR σ' p (o_read tx).2) ∧ ∀ k, ¬ (3 ≤ k ∧ k < 5) → ¬ (p ≤ k ∧ k < p + 7) → σ' k = σ k)) := by
  refine Ct.of cm_R_readInto (Nat.le_of_ble_eq_true rfl) ?_
  intro X hXl hXG hXN hRm C E
  subst hXl; subst hXG
  show V X 0 [some (vR 3), some (vR p), some (vR 1), none, none, none] [] σ
  refine V_R (fun hR => ?_)
  have hp512 := kd5 hp
  have ⟨tx1, tx2, tx3⟩ := hT
  refine V_aload_n (pc := 0) C (dk k_R_readInto 0 rfl) rfl ?_
  refine V_callV0r (pc := 1) C (dk k_R_readInto 1 rfl) lk_R_15 cm_P_clear vm_P_clear (c_P_clear _ _ _ p hp) hp rfl rfl rfl (Nat.le_of_ble_eq_true rfl) (Rm.mono hRm (by decide) (by decide)) (fun τ0 hq0 => ?_)
  refine V_R (fun hR => ?_)
  refine V_iconst (pc := 4) C (dk k_R_readInto 2 rfl) rfl ?_
  refine V_istore_n (pc := 5) C (dk k_R_readInto 3 rfl) (by rw [hXN]; decide) ?_
  dsimp only [lst, lstL, lz, kill, Fin.val, Nat.reduceAdd]
  refine V_iconst (pc := 6) C (dk k_R_readInto 4 rfl) rfl ?_
  refine V_istore (pc := 7) C (dk k_R_readInto 5 rfl) (by rw [hXN]; decide) ?_
  dsimp only [lst, lstL, lz, kill, Fin.val, Nat.reduceAdd]
  refine V_eq (V_loop (fun z : Nat × (Nat × (DS × Wd)) => z.1 ≤ 200 ∧ z.2.1 ≤ 300 ∧ z.1 ≤ z.2.1 ∧ DR z.2.2.2 p z.2.2.1 ∧ o_read tx = rdI tx (200 - z.1) z.2.1 z.2.2.1 ∧ ∀ k, ¬ (3 ≤ k ∧ k < 5) → ¬ (p ≤ k ∧ k < p + 7) → z.2.2.2 k = σ k) (fun z => [some (vR 3), some (vR p), some (vR 1), some (vI (z.2.1 : Int)), some (vI (z.1 : Int)), none]) (fun z => z.2.2.2) (fun z => 200 - z.1) (fun z hz ih => ?_) (0, (0, (d0, τ0))) ⟨Nat.zero_le 200, Nat.zero_le 300, Nat.le_refl 0, hq0.1, rfl, fun k a b => hq0.2 k (by omega)⟩) rfl rfl rfl
  obtain ⟨it, q, d, τ⟩ := z
  obtain ⟨hit, hq, hitq, hd, hrd, hfr⟩ := hz
  dsimp only at hit hq hitq hd hrd hfr ih ⊢
  refine V_R (fun hR => ?_)
  have f1t : τ 1 = σ 1 := hfr 1 (by omega) (by omega)
  have hTt : TxR τ tx := hT.fr f1t (hfr 2 (by omega) (by omega))
  have cb := chr_b hTt q
  refine V_iload (pc := 9) C (dk k_R_readInto 6 rfl) rfl ?_
  refine V_sipush (pc := 11) (n' := 200) C (dk k_R_readInto 7 rfl) rfl ?_
  refine V_icmpge (pc := 14) C (dk k_R_readInto 8 rfl) 65 rfl (by first | exact hR _ _ | with_reducible assumption | exact ⟨by omega, by omega⟩) (by first | exact hR _ _ | with_reducible assumption | exact ⟨by omega, by omega⟩) (fun h1 => ?_) (fun h1 => ?_)
  · skip
    refine V_bipush (pc := 65) (n' := (-4)) C (dk k_R_readInto 36 rfl) rfl ?_
    refine V_iret (pc := 67) C E (dk k_R_readInto 37 rfl) ?_
    have hres : o_read tx = (-4, d) := by (rw [hrd]; cases hf : 200 - it with | zero => rfl | succ f => rw [rdI_s, if_neg (by omega)])
    rw [hres]
    exact ⟨rfl, fun _ => hd, hfr⟩
  · skip
    refine V_iload_n (pc := 17) C (dk k_R_readInto 9 rfl) rfl ?_
    refine V_aload_n (pc := 18) C (dk k_R_readInto 10 rfl) rfl ?_
    refine V_geti (pc := 19) (ji := 1) C (dk k_R_readInto 11 rfl) fl_R_20 kq_1 (by decide) rfl rfl ?_
    rw [f1t]
    refine V_icmpge (pc := 22) C (dk k_R_readInto 12 rfl) 65 rfl (by first | exact hR _ _ | with_reducible assumption | exact ⟨by omega, by omega⟩) (by first | exact hR _ _ | with_reducible assumption | exact ⟨by omega, by omega⟩) (fun h2 => ?_) (fun h2 => ?_)
    · skip
      refine V_bipush (pc := 65) (n' := (-4)) C (dk k_R_readInto 36 rfl) rfl ?_
      refine V_iret (pc := 67) C E (dk k_R_readInto 37 rfl) ?_
      have hres : o_read tx = (-4, d) := by (rw [hrd]; cases hf : 200 - it with | zero => rfl | succ f => rw [rdI_s, if_neg (by omega)])
      rw [hres]
      exact ⟨rfl, fun _ => hd, hfr⟩
    · skip
      refine V_aload_n (pc := 25) C (dk k_R_readInto 13 rfl) rfl ?_
      refine V_aload_n (pc := 26) C (dk k_R_readInto 14 rfl) rfl ?_
      refine V_iload_n (pc := 27) C (dk k_R_readInto 15 rfl) rfl ?_
      refine V_iconst (pc := 28) C (dk k_R_readInto 16 rfl) rfl ?_
      refine V_iadd (pc := 29) C (dk k_R_readInto 17 rfl) ?_
      refine V_callVr (pc := 30) C (dk k_R_readInto 18 rfl) lk_R_26 cm_R_readNumbers vm_R_readNumbers (c_R_readNumbers _ _ _ tx (q + 1) hTt (by omega)) kq_3 rfl rfl rfl (Nat.le_of_ble_eq_true rfl) (Rm.mono hRm (by decide) (by decide)) (fun τ2 hq2 => ?_)
      refine V_R (fun hR => ?_)
      refine V_istore (pc := 33) C (dk k_R_readInto 19 rfl) (by rw [hXN]; decide) ?_
      dsimp only [lst, lstL, lz, kill, Fin.val, Nat.reduceAdd]
      have hT2 : TxR τ2 tx := hTt.fr (hq2.1 1 (by omega)) (hq2.1 2 (by omega))
      have hd2 : DR τ2 p d := hd.fr (fun k a b => hq2.1 k (by omega))
      have hnr : inR (nr (rdN tx 4 (q + 1) [])) := nr_R (fun ns i h => by have := rdN_b tx 4 _ _ _ _ h; omega)
      refine V_iload (pc := 35) C (dk k_R_readInto 20 rfl) rfl ?_
      refine V_iconst (pc := 37) C (dk k_R_readInto 21 rfl) rfl ?_
      refine V_icmpeq (pc := 38) C (dk k_R_readInto 22 rfl) 54 rfl hnr (by first | exact hR _ _ | with_reducible assumption | exact ⟨by omega, by omega⟩) (fun h3 => ?_) (fun h3 => ?_)
      · skip
        refine V_iload_n (pc := 54) C (dk k_R_readInto 30 rfl) rfl ?_
        refine V_iret (pc := 55) C E (dk k_R_readInto 31 rfl) ?_
        first | (have hn1 := nr_none (r := rdN tx 4 (q + 1) []) (by assumption)) | (have htn := isn (o := tell d (chr tx q) ns) (by assumption))
        have hres : o_read tx = ((q : Int), d) := by (rw [hrd, show 200 - it = (200 - (it + 1)) + 1 by omega, rdI_s, if_pos (by omega)]; first | rw [hn1] | (rw [hn0]; dsimp only; rw [htn]))
        rw [hres]
        first | exact ⟨rfl, fun z => by (have : (q : Int) = -4 := z; omega), fun k a b => (hq3.2 k (by omega)).trans ((hq2.1 k (by omega)).trans (hfr k a b))⟩ | exact ⟨rfl, fun z => by (have : (q : Int) = -4 := z; omega), fun k a b => (hq2.1 k (by omega)).trans (hfr k a b)⟩
      · skip
        obtain ⟨ns, i1, hn0⟩ := nr_some (r := rdN tx 4 (q + 1) []) (by assumption)
        have hib := rdN_b tx 4 _ _ _ _ hn0
        have hNs := hq2.2 ns i1 hn0
        rw [hn0]
        show V X _ [some (vR 3), some (vR p), some (vR 1), some (vI (q : Int)), some (vI (it : Int)), some (vI (i1 : Int))] _ _
        refine V_aload_n (pc := 41) C (dk k_R_readInto 23 rfl) rfl ?_
        refine V_aload_n (pc := 42) C (dk k_R_readInto 24 rfl) rfl ?_
        refine V_aload_n (pc := 43) C (dk k_R_readInto 25 rfl) rfl ?_
        refine V_iload_n (pc := 44) C (dk k_R_readInto 26 rfl) rfl ?_
        refine V_callV (pc := 45) C (dk k_R_readInto 27 rfl) lk_R_30 cm_L_letter vm_L_letter (c_let _ _ _ tx q hT2 (by omega)) kq_1 rfl rfl rfl (Nat.le_of_ble_eq_true rfl) (Rm.mono hRm (by decide) (by decide)) ?_
        refine V_callVr (pc := 48) C (dk k_R_readInto 28 rfl) lk_R_34 cm_R_tell vm_R_tell (c_R_tell _ _ _ p d (chr tx q) ns hd2 hNs ⟨by omega, by omega⟩) kq_3 rfl rfl rfl (Nat.le_of_ble_eq_true rfl) (Rm.mono hRm (by decide) (by decide)) (fun τ3 hq3 => ?_)
        refine V_R (fun hR => ?_)
        refine V_ifneB (pc := 51) C (dk k_R_readInto 29 rfl) 56 rfl (fun h4 => ?_) (fun h4 => ?_)
        · skip
          obtain ⟨d', htl⟩ := Option.isSome_iff_exists.mp (by assumption : (tell d (chr tx q) ns).isSome = true)
          refine V_iload (pc := 56) C (dk k_R_readInto 32 rfl) rfl ?_
          refine V_istore_n (pc := 58) C (dk k_R_readInto 33 rfl) (by rw [hXN]; decide) ?_
          dsimp only [lst, lstL, lz, kill, Fin.val, Nat.reduceAdd]
          refine V_iinc (pc := 59) C (dk k_R_readInto 34 rfl) (by rw [hXN]; decide) rfl ?_
          dsimp only [lst, lstL, lz, kill, Fin.val, Nat.reduceAdd]
          refine V_goto (pc := 62) C (dk k_R_readInto 35 rfl) 9 rfl ?_
          refine V_fg 5 ?_
          dsimp only [fg]
          exact ih (it + 1, (i1, (d', τ3))) ⟨by dsimp only; omega, by dsimp only; omega, by dsimp only; omega, hq3.1 d' htl, by (dsimp only; rw [hrd, show 200 - it = (200 - (it + 1)) + 1 by omega, rdI_s, if_pos (by omega), hn0]; dsimp only; rw [htl]), fun k a b => (hq3.2 k (by omega)).trans ((hq2.1 k (by omega)).trans (hfr k a b))⟩ (by dsimp only; omega)
        · skip
          refine V_iload_n (pc := 54) C (dk k_R_readInto 30 rfl) rfl ?_
          refine V_iret (pc := 55) C E (dk k_R_readInto 31 rfl) ?_
          first | (have hn1 := nr_none (r := rdN tx 4 (q + 1) []) (by assumption)) | (have htn := isn (o := tell d (chr tx q) ns) (by assumption))
          have hres : o_read tx = ((q : Int), d) := by (rw [hrd, show 200 - it = (200 - (it + 1)) + 1 by omega, rdI_s, if_pos (by omega)]; first | rw [hn1] | (rw [hn0]; dsimp only; rw [htn]))
          rw [hres]
          first | exact ⟨rfl, fun z => by (have : (q : Int) = -4 := z; omega), fun k a b => (hq3.2 k (by omega)).trans ((hq2.1 k (by omega)).trans (hfr k a b))⟩ | exact ⟨rfl, fun z => by (have : (q : Int) = -4 := z; omega), fun k a b => (hq2.1 k (by omega)).trans (hfr k a b)⟩
end
section
def piO (d : DS) : PL := ((dM d).length, ((dT d).length, ((dX d).length, (dL d, (fun t => ((dT d).getD t.toNat (0, (0, (0, 0)))).1, (fun t => ((dT d).getD t.toNat (0, (0, (0, 0)))).2.1, (fun t => ((dT d).getD t.toNat (0, (0, (0, 0)))).2.2.2, fun r => (dX d).getD r.toNat 0)))))))
def stO (d : DS) : ST := (0, (dS d, (fun q => (dM d).getD q.toNat 0, (fun _ => 0, (fun t => ((dT d).getD t.toNat (0, (0, (0, 0)))).2.2.1, fun _ => 0)))))
theorem getO {α : Type} {l : List α} {t : Int} (z : α) (h0 : 0 ≤ t) (h1 : t < l.length) : l[t.toNat]? = some (l.getD t.toNat z) := by
  rw [List.getD_eq_getElem?_getD, List.getElem?_eq_getElem (show t.toNat < l.length by omega)]; rfl
theorem DR.pl {σ : Wd} {p : Nat} {d : DS} (h : DR σ p d) : PlR σ p (piO d) := by
  obtain ⟨h0, ⟨h1, h1b⟩, ⟨h2, h2b⟩, ⟨h3, h3b⟩, ⟨h4, h5⟩, h6, h7, h8⟩ := h
  refine ⟨h0, h1, h2, h3, h5, fun t a b => ?_, fun r a b => ?_⟩
  · have b : t < ((dT d).length : Int) := b
    have g := h7 t.toNat _ (getO (0, (0, (0, 0))) a b)
    rw [Int.toNat_of_nonneg a] at g
    exact ⟨g.1, g.2.1, g.2.2.2⟩
  · have b : r < ((dX d).length : Int) := b
    have g := h8 r.toNat _ (getO 0 a b)
    rw [Int.toNat_of_nonneg a] at g
    exact g
theorem DR.st {σ τ : Wd} {p s : Nat} {d : DS} (h : DR σ p d) (hs : kd s = 7) (h0 : τ s 0 = 0) (h1 : τ s 1 = σ p 9) (h2 : ∀ i : Int, 0 ≤ i → i < 5 → τ (s + 1) i = σ (p + 1) i ∧ τ (s + 2) i = 0) (h3 : ∀ i : Int, 0 ≤ i → i < 8 → τ (s + 3) i = σ (p + 4) i ∧ τ (s + 4) i = 0) : StR τ s (piO d) (stO d) := by
  obtain ⟨g0, ⟨g1, g1b⟩, ⟨g2, g2b⟩, ⟨g3, g3b⟩, ⟨g4, g5⟩, g6, g7, g8⟩ := h
  refine ⟨hs, h0, h1.trans g4, fun q a b => ?_, fun t a b => ?_⟩
  · have b : q < ((dM d).length : Int) := b
    have g := g6 q.toNat _ (getO 0 a b)
    rw [Int.toNat_of_nonneg a] at g
    obtain ⟨e1, e2⟩ := h2 q a (by omega)
    exact ⟨e1.trans g, e2⟩
  · have b : t < ((dT d).length : Int) := b
    have g := g7 t.toNat _ (getO (0, (0, (0, 0))) a b)
    rw [Int.toNat_of_nonneg a] at g
    obtain ⟨e1, e2⟩ := h3 t a (by omega)
    exact ⟨e1.trans g.2.2.1, e2⟩

def i_F_fault : List (Nat × (Instr × Nat)) := [(0, (.aload_n 0, 1)), (1, (.getfield 19, 3)), (4, (.aload_n 0, 1)), (5, (.getfield 30, 3)), (8, (.aload_n 0, 1)), (9, (.getfield 10, 3)), (12, (.invokevirtual 102, 3)), (15, (.ireturn, 1))]
theorem k_F_fault : i_F_fault.all (fun q => decide (decode b_F_fault q.1 = .ok q.2)) = true := by decide +kernel

set_option maxHeartbeats 1000000 in
set_option maxRecDepth 20000 in
theorem c_F_fault (l : Launch) (G : GE) (σ : Wd) (pl sp : Nat) (π : PL) (x : ST) (us ks : List ST) (lk : List (Int × (Int × Int))) (tx : List Int) (j : Int) (hC : CR σ pl sp π x us ks lk tx) (hV : VK π x us ks j) (hj : j ≤ 100) : Ct l G y_F_fault b_F_fault 1 (some (.int)) 4 96 [vR 0] σ (Rt (some (vI (o_read tx).1)) (fun σ' => CR σ' pl sp π x us ks lk tx ∧ Fc σ σ')) := by
  refine Ct.of cm_F_fault (Nat.le_of_ble_eq_true rfl) ?_
  intro X hXl hXG hXN hRm C E
  subst hXl; subst hXG
  show V X 0 [some (vR 0)] [] σ
  refine V_R (fun hR => ?_)
  obtain ⟨hF, hsp0, hsp, hne, hx, hU, hK, hl, hT⟩ := id hC
  obtain ⟨ok, xk, usk, ksk, ks2⟩ := id hV
  have hF0 := hF
  obtain ⟨hm_pl, hπ⟩ := hF
  have hπ0 := hπ
  obtain ⟨hpl, e0, e2, e7, e10, eT, eX⟩ := hπ
  obtain ⟨hpl_1, hpl_2, hpl_3, hpl_4, hpl_5, hpl_6⟩ := kd_P hpl
  have ⟨k1, k2, k3, k4, k5, k6, kT, kX⟩ := ok
  have hx0 := hx
  obtain ⟨hs, f0, f1, fQ, fT⟩ := hx
  simp only [Nat.reduceAdd] at fQ fT
  have ⟨x1, x2, x3, x4, xQ, xT⟩ := xk
  have p512 := kd5 hpl
  have s512 := kd5 hsp
  refine V_aload_n (pc := 0) C (dk k_F_fault 0 rfl) rfl ?_
  refine V_getr (pc := 1) (o2 := 3) C (dk k_F_fault 1 rfl) fl_F_19 kq_0 (by decide) rfl (by decide) rfl ?_
  refine V_aload_n (pc := 4) C (dk k_F_fault 2 rfl) rfl ?_
  refine V_getm (pc := 5) (o2 := sp) C (dk k_F_fault 3 rfl) fl_F_30 kq_0 (by decide) rfl hsp0 ?_
  refine V_aload_n (pc := 8) C (dk k_F_fault 4 rfl) rfl ?_
  refine V_getr (pc := 9) (o2 := 1) C (dk k_F_fault 5 rfl) fl_F_10 kq_0 (by decide) rfl (by decide) rfl ?_
  refine V_callVr (pc := 12) C (dk k_F_fault 6 rfl) lk_F_102 cm_R_readInto vm_R_readInto (c_R_readInto _ _ _ sp tx hsp hT) kq_3 rfl rfl rfl (Nat.le_of_ble_eq_true rfl) (Rm.mono hRm (by decide) (by decide)) (fun τ1 hq1 => ?_)
  refine V_R (fun hR => ?_)
  refine V_iret (pc := 15) C E (dk k_F_fault 7 rfl) ?_
  exact ⟨rfl, hC.fr (fun k a => hq1.2 k (by unfold scr at a; omega) (by unfold scr at a; omega)), fun k a => hq1.2 k (by omega) (by omega)⟩

theorem rdI_R (tx : List Int) : ∀ (f i : Nat) (d : DS), -4 ≤ (rdI tx f i d).1 ∧ ((rdI tx f i d).1 < tx.length ∨ (rdI tx f i d).1 = -4)
  | 0, _, _ => ⟨Int.le_refl _, Or.inr rfl⟩
  | f + 1, i, d => by
    rw [rdI_s]
    split
    · rename_i hi
      split
      · exact ⟨by dsimp only; omega, Or.inl (by dsimp only; omega)⟩
      · split
        · exact ⟨by dsimp only; omega, Or.inl (by dsimp only; omega)⟩
        · exact rdI_R tx f _ _
    · exact ⟨Int.le_refl _, Or.inr rfl⟩
theorem o_read_R (tx : List Int) (h : tx.length ≤ 200) : inR (o_read tx).1 := by
  have ⟨a, b⟩ := rdI_R tx 200 0 d0
  have a : -4 ≤ (o_read tx).1 := a
  have b : (o_read tx).1 < tx.length ∨ (o_read tx).1 = -4 := b
  exact ⟨by omega, by omega⟩

def i_F_layText : List (Nat × (Instr × Nat)) := [(0, (.aload_n 0, 1)), (1, (.getfield 19, 3)), (4, (.aload_n 0, 1)), (5, (.getfield 30, 3)), (8, (.aload_n 0, 1)), (9, (.getfield 10, 3)), (12, (.invokevirtual 102, 3)), (15, (.bipush (-4), 2)), (17, (.if_icmp .ne 13, 3)), (20, (.aload_n 0, 1)), (21, (.getfield 30, 3)), (24, (.getfield 106, 3)), (27, (.ifCond .ne 5, 3)), (30, (.iconst 0, 1)), (31, (.ireturn, 1)), (32, (.aload_n 0, 1)), (33, (.getfield 26, 3)), (36, (.astore_n 1, 1)), (37, (.aload_n 0, 1)), (38, (.aload_n 0, 1)), (39, (.getfield 30, 3)), (42, (.putfield 26, 3)), (45, (.aload_n 0, 1)), (46, (.aload_n 1, 1)), (47, (.putfield 30, 3)), (50, (.aload_n 0, 1)), (51, (.getfield 36, 3)), (54, (.aload_n 0, 1)), (55, (.getfield 26, 3)), (58, (.invokevirtual 263, 3)), (61, (.aload_n 0, 1)), (62, (.getfield 56, 3)), (65, (.iconst 0, 1)), (66, (.putfield 235, 3)), (69, (.aload_n 0, 1)), (70, (.getfield 46, 3)), (73, (.iconst 0, 1)), (74, (.putfield 182, 3)), (77, (.aload_n 0, 1)), (78, (.getfield 50, 3)), (81, (.iconst 0, 1)), (82, (.putfield 182, 3)), (85, (.iconst 1, 1)), (86, (.ireturn, 1))]
theorem k_F_layText : i_F_layText.all (fun q => decide (decode b_F_layText q.1 = .ok q.2)) = true := by decide +kernel

set_option maxHeartbeats 1000000 in
set_option maxRecDepth 20000 in
theorem c_F_layText (l : Launch) (G : GE) (σ : Wd) (pl sp : Nat) (π : PL) (x : ST) (us ks : List ST) (lk : List (Int × (Int × Int))) (tx : List Int) (j : Int) (hC : CR σ pl sp π x us ks lk tx) (hV : VK π x us ks j) (hj : j ≤ 100) (hok : (o_read tx).1 = -4 ∧ dM (o_read tx).2 ≠ []) : Ct l G y_F_layText b_F_layText 2 (some (.boolean)) 4 96 [vR 0] σ (Rt (some (vI 1)) (fun σ' => CR σ' sp pl (piO (o_read tx).2) (stO (o_read tx).2) [] [] [] tx ∧ Fc σ σ')) := by
  refine Ct.of cm_F_layText (Nat.le_of_ble_eq_true rfl) ?_
  intro X hXl hXG hXN hRm C E
  subst hXl; subst hXG
  show V X 0 [some (vR 0), none] [] σ
  refine V_R (fun hR => ?_)
  obtain ⟨hF, hsp0, hsp, hne, hx, hU, hK, hl, hT⟩ := id hC
  obtain ⟨ok, xk, usk, ksk, ks2⟩ := id hV
  have hF0 := hF
  obtain ⟨hm_pl, hπ⟩ := hF
  have hπ0 := hπ
  obtain ⟨hpl, e0, e2, e7, e10, eT, eX⟩ := hπ
  obtain ⟨hpl_1, hpl_2, hpl_3, hpl_4, hpl_5, hpl_6⟩ := kd_P hpl
  have ⟨k1, k2, k3, k4, k5, k6, kT, kX⟩ := ok
  have hx0 := hx
  obtain ⟨hs, f0, f1, fQ, fT⟩ := hx
  simp only [Nat.reduceAdd] at fQ fT
  have ⟨x1, x2, x3, x4, xQ, xT⟩ := xk
  have p512 := kd5 hpl
  have s512 := kd5 hsp
  obtain ⟨tx1, tx2, tx3⟩ := id hT
  refine V_aload_n (pc := 0) C (dk k_F_layText 0 rfl) rfl ?_
  refine V_getr (pc := 1) (o2 := 3) C (dk k_F_layText 1 rfl) fl_F_19 kq_0 (by decide) rfl (by decide) rfl ?_
  refine V_aload_n (pc := 4) C (dk k_F_layText 2 rfl) rfl ?_
  refine V_getm (pc := 5) (o2 := sp) C (dk k_F_layText 3 rfl) fl_F_30 kq_0 (by decide) rfl hsp0 ?_
  refine V_aload_n (pc := 8) C (dk k_F_layText 4 rfl) rfl ?_
  refine V_getr (pc := 9) (o2 := 1) C (dk k_F_layText 5 rfl) fl_F_10 kq_0 (by decide) rfl (by decide) rfl ?_
  refine V_callVr (pc := 12) C (dk k_F_layText 6 rfl) lk_F_102 cm_R_readInto vm_R_readInto (c_R_readInto _ _ _ sp tx hsp hT) kq_3 rfl rfl rfl (Nat.le_of_ble_eq_true rfl) (Rm.mono hRm (by decide) (by decide)) (fun τ1 hq1 => ?_)
  refine V_R (fun hR => ?_)
  have hm1 : (τ1 0 3).toNat = sp := by rw [hq1.2 0 (by omega) (by omega)]; exact hsp0
  have hm2 : (τ1 0 2).toNat = pl := by rw [hq1.2 0 (by omega) (by omega)]; exact hm_pl
  have hrr : inR (o_read tx).1 := o_read_R tx tx2
  have hD := hq1.1 hok.1
  have hlen : 0 < (dM (o_read tx).2).length := Nat.pos_of_ne_zero (fun h => hok.2 (List.eq_nil_of_length_eq_zero h))
  have hD0 := hD.2.1.1
  refine V_bipush (pc := 15) (n' := (-4)) C (dk k_F_layText 7 rfl) rfl ?_
  refine V_icmpne (pc := 17) C (dk k_F_layText 8 rfl) 30 rfl hrr ⟨by decide, by decide⟩ (fun h1 => ?_) (fun h1 => ?_)
  · skip
    exfalso; omega
  · skip
    refine V_aload_n (pc := 20) C (dk k_F_layText 9 rfl) rfl ?_
    refine V_getm (pc := 21) (o2 := sp) C (dk k_F_layText 10 rfl) fl_F_30 kq_0 (by decide) rfl hm1 ?_
    refine V_geti (pc := 24) (ji := 0) C (dk k_F_layText 11 rfl) fl_F_106 hsp (by decide) rfl rfl ?_
    refine V_ifne (pc := 27) C (dk k_F_layText 12 rfl) 32 rfl (by first | exact hR _ _ | with_reducible assumption | exact ⟨by omega, by omega⟩) (fun h2 => ?_) (fun h2 => ?_)
    · skip
      refine V_aload_n (pc := 32) C (dk k_F_layText 15 rfl) rfl ?_
      refine V_getm (pc := 33) (o2 := pl) C (dk k_F_layText 16 rfl) fl_F_26 kq_0 (by decide) rfl hm2 ?_
      refine V_astore_n (pc := 36) C (dk k_F_layText 17 rfl) (by rw [hXN]; decide) ?_
      dsimp only [lst, lstL, lz, kill, Fin.val, Nat.reduceAdd]
      refine V_aload_n (pc := 37) C (dk k_F_layText 18 rfl) rfl ?_
      refine V_aload_n (pc := 38) C (dk k_F_layText 19 rfl) rfl ?_
      refine V_getm (pc := 39) (o2 := sp) C (dk k_F_layText 20 rfl) fl_F_30 kq_0 (by decide) rfl hm1 ?_
      refine V_putm (pc := 42) C (dk k_F_layText 21 rfl) fl_F_26 fw_8_2 kq_0 (by decide) rfl (by omega) ?_
      refine V_R (fun hR => ?_)
      refine V_aload_n (pc := 45) C (dk k_F_layText 22 rfl) rfl ?_
      refine V_aload_n (pc := 46) C (dk k_F_layText 23 rfl) rfl ?_
      refine V_putm (pc := 47) C (dk k_F_layText 24 rfl) fl_F_30 fw_8_3 kq_0 (by decide) rfl (by omega) ?_
      refine V_R (fun hR => ?_)
      change V X _ _ _ (up (up τ1 0 2 (sp : Int)) 0 3 (pl : Int))
      refine V_R (fun hR => ?_)
      refine V_aload_n (pc := 50) C (dk k_F_layText 25 rfl) rfl ?_
      refine V_getr (pc := 51) (o2 := 19) C (dk k_F_layText 26 rfl) fl_F_36 kq_0 (by decide) rfl (by decide) rfl ?_
      refine V_aload_n (pc := 54) C (dk k_F_layText 27 rfl) rfl ?_
      have hm3 : (up (up τ1 0 2 sp) 0 3 pl 0 2).toNat = sp := by rw [up_ne2 _ (by decide), up_at]; exact Int.toNat_natCast sp
      refine V_getm (pc := 55) (o2 := sp) C (dk k_F_layText 28 rfl) fl_F_26 kq_0 (by decide) rfl hm3 ?_
      refine V_callV0r (pc := 58) C (dk k_F_layText 29 rfl) lk_F_263 cm_S_begin vm_S_begin (c_S_begin _ _ _ 19 sp hs hsp) kq_19 rfl rfl rfl (Nat.le_of_ble_eq_true rfl) (Rm.mono hRm (by decide) (by decide)) (fun τ2 hq2 => ?_)
      refine V_R (fun hR => ?_)
      refine V_aload_n (pc := 61) C (dk k_F_layText 30 rfl) rfl ?_
      refine V_getr (pc := 62) (o2 := 113) C (dk k_F_layText 31 rfl) fl_F_56 kq_0 (by decide) rfl (by decide) rfl ?_
      refine V_iconst (pc := 65) C (dk k_F_layText 32 rfl) rfl ?_
      refine V_puti (pc := 66) (ji := 3) C (dk k_F_layText 33 rfl) fl_F_235 fw_3_3 kq_113 (by decide) rfl rfl R0 ?_
      refine V_R (fun hR => ?_)
      refine V_aload_n (pc := 69) C (dk k_F_layText 34 rfl) rfl ?_
      refine V_getr (pc := 70) (o2 := 29) C (dk k_F_layText 35 rfl) fl_F_46 kq_0 (by decide) rfl (by decide) rfl ?_
      refine V_iconst (pc := 73) C (dk k_F_layText 36 rfl) rfl ?_
      refine V_puti (pc := 74) (ji := 2) C (dk k_F_layText 37 rfl) fl_F_182 fw_4_2 kq_29 (by decide) rfl rfl R0 ?_
      refine V_R (fun hR => ?_)
      refine V_aload_n (pc := 77) C (dk k_F_layText 38 rfl) rfl ?_
      refine V_getr (pc := 78) (o2 := 71) C (dk k_F_layText 39 rfl) fl_F_50 kq_0 (by decide) rfl (by decide) rfl ?_
      refine V_iconst (pc := 81) C (dk k_F_layText 40 rfl) rfl ?_
      refine V_puti (pc := 82) (ji := 2) C (dk k_F_layText 41 rfl) fl_F_182 fw_4_2 kq_71 (by decide) rfl rfl R0 ?_
      refine V_R (fun hR => ?_)
      refine V_iconst (pc := 85) C (dk k_F_layText 42 rfl) rfl ?_
      refine V_zret (pc := 86) C (by first | exact Or.inl rfl | exact Or.inr rfl | (split <;> first | exact Or.inl rfl | exact Or.inr rfl) | omega) E (dk k_F_layText 43 rfl) ?_
      have g : ∀ k, k ≠ 0 → up (up τ1 0 2 (sp : Int)) 0 3 (pl : Int) k = τ1 k := fun k a => by rw [up_row _ _ _ a, up_row _ _ _ a]
      have e : ∀ k, ¬ (3 ≤ k ∧ k < 5) → ¬ (sp ≤ k ∧ k < sp + 7) → k ≠ 0 → ¬ (19 ≤ k ∧ k < 24) → k ≠ 113 → k ≠ 29 → k ≠ 71 → up (up (up τ2 113 3 0) 29 2 0) 71 2 0 k = σ k := fun k a b c d u v z => by rw [up_row _ _ _ z, up_row _ _ _ v, up_row _ _ _ u, hq2.2 k (by omega), g k c]; exact hq1.2 k a b
      have e2 : ∀ k, k ≠ 113 → k ≠ 29 → k ≠ 71 → up (up (up τ2 113 3 0) 29 2 0) 71 2 0 k = τ2 k := fun k u v z => by rw [up_row _ _ _ z, up_row _ _ _ v, up_row _ _ _ u]
      have e0 : up (up (up τ2 113 3 0) 29 2 0) 71 2 0 0 = up (up τ1 0 2 (sp : Int)) 0 3 (pl : Int) 0 := (e2 0 (by omega) (by omega) (by omega)).trans (hq2.2 0 (by omega))
      have eS : ∀ k, sp ≤ k → k < sp + 7 → up (up (up τ2 113 3 0) 29 2 0) 71 2 0 k = τ1 k := fun k a b => (e2 k (by omega) (by omega) (by omega)).trans ((hq2.2 k (by omega)).trans (g k (by omega)))
      have hD3 := hD.fr eS
      obtain ⟨u0, u1, u2, u3, u4, u5⟩ := hU
      obtain ⟨v0, v1, v2, v3, v4, v5⟩ := hK
      have m29 : up (up (up τ2 113 3 0) 29 2 0) 71 2 0 29 1 = σ 29 1 := by rw [up_ne1 _ _ _ _ (by decide), up_ne2 _ (by decide), up_ne1 _ _ _ _ (by decide), hq2.2 29 (by omega), g 29 (by omega), hq1.2 29 (by omega) (by omega)]
      have m71 : up (up (up τ2 113 3 0) 29 2 0) 71 2 0 71 1 = σ 71 1 := by rw [up_ne2 _ (by decide), up_ne1 _ _ _ _ (by decide), up_ne1 _ _ _ _ (by decide), hq2.2 71 (by omega), g 71 (by omega), hq1.2 71 (by omega) (by omega)]
      obtain ⟨z0, z1, z2, z3⟩ := hq2.1
      rw [g sp (by omega)] at z1
      have z2 : ∀ i : Int, 0 ≤ i → i < 5 → τ2 (19 + 1) i = τ1 (sp + 1) i ∧ τ2 (19 + 2) i = 0 := fun i a b => by rw [← g (sp + 1) (by omega)]; exact z2 i a b
      have z3 : ∀ i : Int, 0 ≤ i → i < 8 → τ2 (19 + 3) i = τ1 (sp + 4) i ∧ τ2 (19 + 4) i = 0 := fun i a b => by rw [← g (sp + 4) (by omega)]; exact z3 i a b
      refine ⟨rfl, ⟨⟨?_, hD3.pl⟩, ?_, hpl, fun h => hne h.symm, (hD.st hs z0 z1 z2 z3).fr (fun k a b => e2 k (by omega) (by omega) (by omega)), ?_, ?_, ?_, hT.fr (e 1 (by omega) (by omega) (by omega) (by omega) (by omega) (by omega) (by omega)) (e 2 (by omega) (by omega) (by omega) (by omega) (by omega) (by omega) (by omega))⟩, fun k a => e k (by omega) (by omega) (by omega) (by omega) (by omega) (by omega) (by omega)⟩
      · rw [e0, up_ne2 _ (by decide), up_at]; exact Int.toNat_natCast sp
      · rw [e0, up_at]; exact Int.toNat_natCast pl
      · exact ⟨u0, by rw [m29]; exact u1, by rw [m29]; exact u2, by rw [up_ne1 _ _ _ _ (by decide), up_at]; rfl, by decide, fun k y h => by simp at h⟩
      · exact ⟨v0, by rw [m71]; exact v1, by rw [m71]; exact v2, by rw [up_at]; rfl, by decide, fun k y h => by simp at h⟩
      · exact ⟨by rw [up_ne1 _ _ _ _ (by decide), up_ne1 _ _ _ _ (by decide), up_at]; rfl, by decide, fun k y h => by simp at h⟩
    · skip
      exfalso; omega

set_option maxHeartbeats 1000000 in
set_option maxRecDepth 20000 in
theorem c_F_layText0 (l : Launch) (G : GE) (σ : Wd) (pl sp : Nat) (π : PL) (x : ST) (us ks : List ST) (lk : List (Int × (Int × Int))) (tx : List Int) (j : Int) (hC : CR σ pl sp π x us ks lk tx) (hV : VK π x us ks j) (hj : j ≤ 100) (hno : ¬ ((o_read tx).1 = -4 ∧ dM (o_read tx).2 ≠ [])) : Ct l G y_F_layText b_F_layText 2 (some (.boolean)) 4 96 [vR 0] σ (Rt (some (vI 0)) (fun σ' => CR σ' pl sp π x us ks lk tx ∧ Fc σ σ')) := by
  refine Ct.of cm_F_layText (Nat.le_of_ble_eq_true rfl) ?_
  intro X hXl hXG hXN hRm C E
  subst hXl; subst hXG
  show V X 0 [some (vR 0), none] [] σ
  refine V_R (fun hR => ?_)
  obtain ⟨hF, hsp0, hsp, hne, hx, hU, hK, hl, hT⟩ := id hC
  obtain ⟨ok, xk, usk, ksk, ks2⟩ := id hV
  have hF0 := hF
  obtain ⟨hm_pl, hπ⟩ := hF
  have hπ0 := hπ
  obtain ⟨hpl, e0, e2, e7, e10, eT, eX⟩ := hπ
  obtain ⟨hpl_1, hpl_2, hpl_3, hpl_4, hpl_5, hpl_6⟩ := kd_P hpl
  have ⟨k1, k2, k3, k4, k5, k6, kT, kX⟩ := ok
  have hx0 := hx
  obtain ⟨hs, f0, f1, fQ, fT⟩ := hx
  simp only [Nat.reduceAdd] at fQ fT
  have ⟨x1, x2, x3, x4, xQ, xT⟩ := xk
  have p512 := kd5 hpl
  have s512 := kd5 hsp
  obtain ⟨tx1, tx2, tx3⟩ := id hT
  refine V_aload_n (pc := 0) C (dk k_F_layText 0 rfl) rfl ?_
  refine V_getr (pc := 1) (o2 := 3) C (dk k_F_layText 1 rfl) fl_F_19 kq_0 (by decide) rfl (by decide) rfl ?_
  refine V_aload_n (pc := 4) C (dk k_F_layText 2 rfl) rfl ?_
  refine V_getm (pc := 5) (o2 := sp) C (dk k_F_layText 3 rfl) fl_F_30 kq_0 (by decide) rfl hsp0 ?_
  refine V_aload_n (pc := 8) C (dk k_F_layText 4 rfl) rfl ?_
  refine V_getr (pc := 9) (o2 := 1) C (dk k_F_layText 5 rfl) fl_F_10 kq_0 (by decide) rfl (by decide) rfl ?_
  refine V_callVr (pc := 12) C (dk k_F_layText 6 rfl) lk_F_102 cm_R_readInto vm_R_readInto (c_R_readInto _ _ _ sp tx hsp hT) kq_3 rfl rfl rfl (Nat.le_of_ble_eq_true rfl) (Rm.mono hRm (by decide) (by decide)) (fun τ1 hq1 => ?_)
  refine V_R (fun hR => ?_)
  have hm1 : (τ1 0 3).toNat = sp := by rw [hq1.2 0 (by omega) (by omega)]; exact hsp0
  have hm2 : (τ1 0 2).toNat = pl := by rw [hq1.2 0 (by omega) (by omega)]; exact hm_pl
  have hrr : inR (o_read tx).1 := o_read_R tx tx2
  refine V_bipush (pc := 15) (n' := (-4)) C (dk k_F_layText 7 rfl) rfl ?_
  refine V_icmpne (pc := 17) C (dk k_F_layText 8 rfl) 30 rfl hrr ⟨by decide, by decide⟩ (fun h1 => ?_) (fun h1 => ?_)
  · skip
    refine V_iconst (pc := 30) C (dk k_F_layText 13 rfl) rfl ?_
    refine V_zret (pc := 31) C (by first | exact Or.inl rfl | exact Or.inr rfl | (split <;> first | exact Or.inl rfl | exact Or.inr rfl) | omega) E (dk k_F_layText 14 rfl) ?_
    exact ⟨rfl, hC.fr (fun k a => hq1.2 k (by unfold scr at a; omega) (by unfold scr at a; omega)), fun k a => hq1.2 k (by omega) (by omega)⟩
  · skip
    have hD := hq1.1 (by assumption)
    have hD0 := hD.2.1.1
    refine V_aload_n (pc := 20) C (dk k_F_layText 9 rfl) rfl ?_
    refine V_getm (pc := 21) (o2 := sp) C (dk k_F_layText 10 rfl) fl_F_30 kq_0 (by decide) rfl hm1 ?_
    refine V_geti (pc := 24) (ji := 0) C (dk k_F_layText 11 rfl) fl_F_106 hsp (by decide) rfl rfl ?_
    refine V_ifne (pc := 27) C (dk k_F_layText 12 rfl) 32 rfl (by first | exact hR _ _ | with_reducible assumption | exact ⟨by omega, by omega⟩) (fun h2 => ?_) (fun h2 => ?_)
    · skip
      exfalso
      apply hno
      refine ⟨by assumption, fun hz => ?_⟩
      rw [hz] at hD0
      have hD0 : τ1 sp 0 = 0 := hD0
      omega
    · skip
      refine V_iconst (pc := 30) C (dk k_F_layText 13 rfl) rfl ?_
      refine V_zret (pc := 31) C (by first | exact Or.inl rfl | exact Or.inr rfl | (split <;> first | exact Or.inl rfl | exact Or.inr rfl) | omega) E (dk k_F_layText 14 rfl) ?_
      exact ⟨rfl, hC.fr (fun k a => hq1.2 k (by unfold scr at a; omega) (by unfold scr at a; omega)), fun k a => hq1.2 k (by omega) (by omega)⟩

def i_F_lay : List (Nat × (Instr × Nat)) := [(0, (.aload_n 0, 1)), (1, (.invokevirtual 90, 3)), (4, (.ifCond .eq 13, 3)), (7, (.aload_n 0, 1)), (8, (.getfield 26, 3)), (11, (.getfield 106, 3)), (14, (.goto 5, 3)), (17, (.bipush (-2), 2)), (19, (.ireturn, 1))]
theorem k_F_lay : i_F_lay.all (fun q => decide (decode b_F_lay q.1 = .ok q.2)) = true := by decide +kernel

set_option maxHeartbeats 1000000 in
set_option maxRecDepth 20000 in
theorem c_F_lay (l : Launch) (G : GE) (σ : Wd) (pl sp : Nat) (π : PL) (x : ST) (us ks : List ST) (lk : List (Int × (Int × Int))) (tx : List Int) (j : Int) (hC : CR σ pl sp π x us ks lk tx) (hV : VK π x us ks j) (hj : j ≤ 100) (hok : (o_read tx).1 = -4 ∧ dM (o_read tx).2 ≠ []) : Ct l G y_F_lay b_F_lay 1 (some (.int)) 5 117 [vR 0] σ (Rt (some (vI (dM (o_read tx).2).length)) (fun σ' => CR σ' sp pl (piO (o_read tx).2) (stO (o_read tx).2) [] [] [] tx ∧ Fc σ σ')) := by
  refine Ct.of cm_F_lay (Nat.le_of_ble_eq_true rfl) ?_
  intro X hXl hXG hXN hRm C E
  subst hXl; subst hXG
  show V X 0 [some (vR 0)] [] σ
  refine V_R (fun hR => ?_)
  obtain ⟨hF, hsp0, hsp, hne, hx, hU, hK, hl, hT⟩ := id hC
  obtain ⟨ok, xk, usk, ksk, ks2⟩ := id hV
  have hF0 := hF
  obtain ⟨hm_pl, hπ⟩ := hF
  have hπ0 := hπ
  obtain ⟨hpl, e0, e2, e7, e10, eT, eX⟩ := hπ
  obtain ⟨hpl_1, hpl_2, hpl_3, hpl_4, hpl_5, hpl_6⟩ := kd_P hpl
  have ⟨k1, k2, k3, k4, k5, k6, kT, kX⟩ := ok
  have hx0 := hx
  obtain ⟨hs, f0, f1, fQ, fT⟩ := hx
  simp only [Nat.reduceAdd] at fQ fT
  have ⟨x1, x2, x3, x4, xQ, xT⟩ := xk
  have p512 := kd5 hpl
  have s512 := kd5 hsp
  obtain ⟨tx1, tx2, tx3⟩ := id hT
  refine V_aload_n (pc := 0) C (dk k_F_lay 0 rfl) rfl ?_
  refine V_callVr (pc := 1) C (dk k_F_lay 1 rfl) lk_F_90 cm_F_layText vm_F_layText (c_F_layText _ _ _ pl sp π x us ks lk tx j hC hV hj hok) kq_0 rfl rfl rfl (Nat.le_of_ble_eq_true rfl) (Rm.mono hRm (by decide) (by decide)) (fun τ1 hq1 => ?_)
  refine V_R (fun hR => ?_)
  have hF2 := hq1.1.1
  have hm4 := hF2.1
  refine V_ifeq (pc := 4) C (dk k_F_lay 2 rfl) 17 rfl (by first | exact hR _ _ | with_reducible assumption | exact ⟨by omega, by omega⟩) (fun h1 => ?_) (fun h1 => ?_)
  · skip
    exfalso; omega
  · skip
    refine V_aload_n (pc := 7) C (dk k_F_lay 3 rfl) rfl ?_
    refine V_getm (pc := 8) (o2 := sp) C (dk k_F_lay 4 rfl) fl_F_26 kq_0 (by decide) rfl hm4 ?_
    refine V_geti (pc := 11) (ji := 0) C (dk k_F_lay 5 rfl) fl_F_106 hsp (by decide) rfl rfl ?_
    refine V_goto (pc := 14) C (dk k_F_lay 6 rfl) 19 rfl ?_
    refine V_iret (pc := 19) C E (dk k_F_lay 8 rfl) ?_
    exact ⟨by rw [hF2.2.2.1]; rfl, hq1.1, hq1.2⟩

set_option maxHeartbeats 1000000 in
set_option maxRecDepth 20000 in
theorem c_F_lay0 (l : Launch) (G : GE) (σ : Wd) (pl sp : Nat) (π : PL) (x : ST) (us ks : List ST) (lk : List (Int × (Int × Int))) (tx : List Int) (j : Int) (hC : CR σ pl sp π x us ks lk tx) (hV : VK π x us ks j) (hj : j ≤ 100) (hno : ¬ ((o_read tx).1 = -4 ∧ dM (o_read tx).2 ≠ [])) : Ct l G y_F_lay b_F_lay 1 (some (.int)) 5 117 [vR 0] σ (Rt (some (vI (-2))) (fun σ' => CR σ' pl sp π x us ks lk tx ∧ Fc σ σ')) := by
  refine Ct.of cm_F_lay (Nat.le_of_ble_eq_true rfl) ?_
  intro X hXl hXG hXN hRm C E
  subst hXl; subst hXG
  show V X 0 [some (vR 0)] [] σ
  refine V_R (fun hR => ?_)
  obtain ⟨hF, hsp0, hsp, hne, hx, hU, hK, hl, hT⟩ := id hC
  obtain ⟨ok, xk, usk, ksk, ks2⟩ := id hV
  have hF0 := hF
  obtain ⟨hm_pl, hπ⟩ := hF
  have hπ0 := hπ
  obtain ⟨hpl, e0, e2, e7, e10, eT, eX⟩ := hπ
  obtain ⟨hpl_1, hpl_2, hpl_3, hpl_4, hpl_5, hpl_6⟩ := kd_P hpl
  have ⟨k1, k2, k3, k4, k5, k6, kT, kX⟩ := ok
  have hx0 := hx
  obtain ⟨hs, f0, f1, fQ, fT⟩ := hx
  simp only [Nat.reduceAdd] at fQ fT
  have ⟨x1, x2, x3, x4, xQ, xT⟩ := xk
  have p512 := kd5 hpl
  have s512 := kd5 hsp
  obtain ⟨tx1, tx2, tx3⟩ := id hT
  refine V_aload_n (pc := 0) C (dk k_F_lay 0 rfl) rfl ?_
  refine V_callVr (pc := 1) C (dk k_F_lay 1 rfl) lk_F_90 cm_F_layText vm_F_layText (c_F_layText0 _ _ _ pl sp π x us ks lk tx j hC hV hj hno) kq_0 rfl rfl rfl (Nat.le_of_ble_eq_true rfl) (Rm.mono hRm (by decide) (by decide)) (fun τ1 hq1 => ?_)
  refine V_R (fun hR => ?_)
  refine V_ifeq (pc := 4) C (dk k_F_lay 2 rfl) 17 rfl (by first | exact hR _ _ | with_reducible assumption | exact ⟨by omega, by omega⟩) (fun h1 => ?_) (fun h1 => ?_)
  · skip
    refine V_bipush (pc := 17) (n' := (-2)) C (dk k_F_lay 7 rfl) rfl ?_
    refine V_iret (pc := 19) C E (dk k_F_lay 8 rfl) ?_
    exact ⟨rfl, hq1.1, hq1.2⟩
  · skip
    exfalso; omega
end
