section
-- ===== PART A: goes FIRST, ahead of the names: the tables' words, and 'selects' of the private methods out of them =====
/-- a private method of a class that the tables say can be made, by its rows of tables_1 -/
def lw_okq (q : MethodName × Nat) : Prop := (q.1.cls ≠ "java/lang/invoke/MethodHandle" ∧ q.1.cls ≠ "java/lang/invoke/VarHandle") ∧ Cond.instantiable q.1.cls q.2 ∈ tables_1 ∧ Cond.privateMethod q.1 ∈ tables_1 ∧ Cond.instanceMethod q.1 ∈ tables_1
theorem lw_p0 : lw_okq (⟨"StruckColours$Rule", "reads", "([CI)I"⟩, 9) := ⟨⟨by decide +kernel, by decide +kernel⟩, List.mem_of_getElem? (i := 181) (by decide +kernel), List.mem_of_getElem? (i := 217) (by decide +kernel), List.mem_of_getElem? (i := 218) (by decide +kernel)⟩
theorem lw_p1 : lw_okq (⟨"StruckColours$Rule", "beginsThing", "(C)Z"⟩, 9) := ⟨⟨by decide +kernel, by decide +kernel⟩, List.mem_of_getElem? (i := 181) (by decide +kernel), List.mem_of_getElem? (i := 224) (by decide +kernel), List.mem_of_getElem? (i := 225) (by decide +kernel)⟩
theorem lw_p2 : lw_okq (⟨"StruckColours$Rule", "emits", "(I)V"⟩, 9) := ⟨⟨by decide +kernel, by decide +kernel⟩, List.mem_of_getElem? (i := 181) (by decide +kernel), List.mem_of_getElem? (i := 231) (by decide +kernel), List.mem_of_getElem? (i := 232) (by decide +kernel)⟩
theorem lw_p3 : lw_okq (⟨"StruckColours$Rule", "puts", "(C)V"⟩, 9) := ⟨⟨by decide +kernel, by decide +kernel⟩, List.mem_of_getElem? (i := 181) (by decide +kernel), List.mem_of_getElem? (i := 238) (by decide +kernel), List.mem_of_getElem? (i := 239) (by decide +kernel)⟩
theorem lw_p4 : lw_okq (⟨"StruckColours$Rule", "comesBehind", "(C)Z"⟩, 9) := ⟨⟨by decide +kernel, by decide +kernel⟩, List.mem_of_getElem? (i := 181) (by decide +kernel), List.mem_of_getElem? (i := 242) (by decide +kernel), List.mem_of_getElem? (i := 243) (by decide +kernel)⟩
theorem lw_p5 : lw_okq (⟨"StruckColours$Rule", "lengthens", "(I)Z"⟩, 9) := ⟨⟨by decide +kernel, by decide +kernel⟩, List.mem_of_getElem? (i := 181) (by decide +kernel), List.mem_of_getElem? (i := 246) (by decide +kernel), List.mem_of_getElem? (i := 247) (by decide +kernel)⟩
theorem lw_p6 : lw_okq (⟨"StruckColours$Rule", "closes", "()Z"⟩, 9) := ⟨⟨by decide +kernel, by decide +kernel⟩, List.mem_of_getElem? (i := 181) (by decide +kernel), List.mem_of_getElem? (i := 250) (by decide +kernel), List.mem_of_getElem? (i := 251) (by decide +kernel)⟩
theorem lw_p7 : lw_okq (⟨"StruckColours$Rule", "joins", "(I)V"⟩, 9) := ⟨⟨by decide +kernel, by decide +kernel⟩, List.mem_of_getElem? (i := 181) (by decide +kernel), List.mem_of_getElem? (i := 254) (by decide +kernel), List.mem_of_getElem? (i := 255) (by decide +kernel)⟩
theorem lw_p8 : lw_okq (⟨"StruckColours$Text", "add", "(C)V"⟩, 2) := ⟨⟨by decide +kernel, by decide +kernel⟩, List.mem_of_getElem? (i := 27) (by decide +kernel), List.mem_of_getElem? (i := 317) (by decide +kernel), List.mem_of_getElem? (i := 318) (by decide +kernel)⟩
theorem lw_p9 : lw_okq (⟨"StruckColours$Text", "empties", "()I"⟩, 2) := ⟨⟨by decide +kernel, by decide +kernel⟩, List.mem_of_getElem? (i := 27) (by decide +kernel), List.mem_of_getElem? (i := 329) (by decide +kernel), List.mem_of_getElem? (i := 330) (by decide +kernel)⟩
theorem lw_p10 : lw_okq (⟨"StruckColours", "faultOfShips", "(I)I"⟩, 17) := ⟨⟨by decide +kernel, by decide +kernel⟩, List.mem_of_getElem? (i := 19) (by decide +kernel), List.mem_of_getElem? (i := 333) (by decide +kernel), List.mem_of_getElem? (i := 334) (by decide +kernel)⟩
theorem lw_p11 : lw_okq (⟨"StruckColours", "standsInShips", "(I)Z"⟩, 17) := ⟨⟨by decide +kernel, by decide +kernel⟩, List.mem_of_getElem? (i := 19) (by decide +kernel), List.mem_of_getElem? (i := 338) (by decide +kernel), List.mem_of_getElem? (i := 339) (by decide +kernel)⟩
theorem lw_p12 : lw_okq (⟨"StruckColours$Text", "at", "(I)C"⟩, 2) := ⟨⟨by decide +kernel, by decide +kernel⟩, List.mem_of_getElem? (i := 27) (by decide +kernel), List.mem_of_getElem? (i := 342) (by decide +kernel), List.mem_of_getElem? (i := 343) (by decide +kernel)⟩
theorem lw_p13 : lw_okq (⟨"StruckColours$Sea", "joins", "(II)V"⟩, 9) := ⟨⟨by decide +kernel, by decide +kernel⟩, List.mem_of_getElem? (i := 58) (by decide +kernel), List.mem_of_getElem? (i := 350) (by decide +kernel), List.mem_of_getElem? (i := 351) (by decide +kernel)⟩
theorem lw_p14 : lw_okq (⟨"StruckColours$Sea", "hoists", "(II)V"⟩, 9) := ⟨⟨by decide +kernel, by decide +kernel⟩, List.mem_of_getElem? (i := 58) (by decide +kernel), List.mem_of_getElem? (i := 357) (by decide +kernel), List.mem_of_getElem? (i := 358) (by decide +kernel)⟩
theorem lw_p15 : lw_okq (⟨"StruckColours$Sea", "has", "(I)Z"⟩, 9) := ⟨⟨by decide +kernel, by decide +kernel⟩, List.mem_of_getElem? (i := 58) (by decide +kernel), List.mem_of_getElem? (i := 361) (by decide +kernel), List.mem_of_getElem? (i := 362) (by decide +kernel)⟩
def lw_privs_1 : List (MethodName × Nat) := [(⟨"StruckColours$Rule", "reads", "([CI)I"⟩, 9), (⟨"StruckColours$Rule", "beginsThing", "(C)Z"⟩, 9), (⟨"StruckColours$Rule", "emits", "(I)V"⟩, 9), (⟨"StruckColours$Rule", "puts", "(C)V"⟩, 9), (⟨"StruckColours$Rule", "comesBehind", "(C)Z"⟩, 9), (⟨"StruckColours$Rule", "lengthens", "(I)Z"⟩, 9), (⟨"StruckColours$Rule", "closes", "()Z"⟩, 9), (⟨"StruckColours$Rule", "joins", "(I)V"⟩, 9), (⟨"StruckColours$Text", "add", "(C)V"⟩, 2), (⟨"StruckColours$Text", "empties", "()I"⟩, 2), (⟨"StruckColours", "faultOfShips", "(I)I"⟩, 17), (⟨"StruckColours", "standsInShips", "(I)Z"⟩, 17), (⟨"StruckColours$Text", "at", "(I)C"⟩, 2), (⟨"StruckColours$Sea", "joins", "(II)V"⟩, 9), (⟨"StruckColours$Sea", "hoists", "(II)V"⟩, 9), (⟨"StruckColours$Sea", "has", "(I)Z"⟩, 9)]
theorem lw_r1 : ∀ q ∈ lw_privs_1, lw_okq q := List.forall_mem_cons.mpr ⟨lw_p0, List.forall_mem_cons.mpr ⟨lw_p1, List.forall_mem_cons.mpr ⟨lw_p2, List.forall_mem_cons.mpr ⟨lw_p3, List.forall_mem_cons.mpr ⟨lw_p4, List.forall_mem_cons.mpr ⟨lw_p5, List.forall_mem_cons.mpr ⟨lw_p6, List.forall_mem_cons.mpr ⟨lw_p7, List.forall_mem_cons.mpr ⟨lw_p8, List.forall_mem_cons.mpr ⟨lw_p9, List.forall_mem_cons.mpr ⟨lw_p10, List.forall_mem_cons.mpr ⟨lw_p11, List.forall_mem_cons.mpr ⟨lw_p12, List.forall_mem_cons.mpr ⟨lw_p13, List.forall_mem_cons.mpr ⟨lw_p14, List.forall_mem_cons.mpr ⟨lw_p15, fun _ h => absurd h List.not_mem_nil⟩⟩⟩⟩⟩⟩⟩⟩⟩⟩⟩⟩⟩⟩⟩⟩
theorem lw_p16 : lw_okq (⟨"StruckColours$Past", "clears", "()V"⟩, 3) := ⟨⟨by decide +kernel, by decide +kernel⟩, List.mem_of_getElem? (i := 98) (by decide +kernel), List.mem_of_getElem? (i := 365) (by decide +kernel), List.mem_of_getElem? (i := 366) (by decide +kernel)⟩
theorem lw_p17 : lw_okq (⟨"StruckColours", "readsOtherRule", "()I"⟩, 17) := ⟨⟨by decide +kernel, by decide +kernel⟩, List.mem_of_getElem? (i := 19) (by decide +kernel), List.mem_of_getElem? (i := 373) (by decide +kernel), List.mem_of_getElem? (i := 374) (by decide +kernel)⟩
theorem lw_p18 : lw_okq (⟨"StruckColours$Sea", "isPair", "(II)Z"⟩, 9) := ⟨⟨by decide +kernel, by decide +kernel⟩, List.mem_of_getElem? (i := 58) (by decide +kernel), List.mem_of_getElem? (i := 381) (by decide +kernel), List.mem_of_getElem? (i := 382) (by decide +kernel)⟩
theorem lw_p19 : lw_okq (⟨"StruckColours$Rule", "measures", "(LStruckColours$Sea;II)I"⟩, 9) := ⟨⟨by decide +kernel, by decide +kernel⟩, List.mem_of_getElem? (i := 181) (by decide +kernel), List.mem_of_getElem? (i := 385) (by decide +kernel), List.mem_of_getElem? (i := 386) (by decide +kernel)⟩
theorem lw_p20 : lw_okq (⟨"StruckColours$Rule", "stacks", "(II)I"⟩, 9) := ⟨⟨by decide +kernel, by decide +kernel⟩, List.mem_of_getElem? (i := 181) (by decide +kernel), List.mem_of_getElem? (i := 389) (by decide +kernel), List.mem_of_getElem? (i := 390) (by decide +kernel)⟩
theorem lw_p21 : lw_okq (⟨"StruckColours$Sea", "strengthOf", "(I)I"⟩, 9) := ⟨⟨by decide +kernel, by decide +kernel⟩, List.mem_of_getElem? (i := 58) (by decide +kernel), List.mem_of_getElem? (i := 396) (by decide +kernel), List.mem_of_getElem? (i := 397) (by decide +kernel)⟩
theorem lw_p22 : lw_okq (⟨"StruckColours$Sea", "sideOf", "(I)I"⟩, 9) := ⟨⟨by decide +kernel, by decide +kernel⟩, List.mem_of_getElem? (i := 58) (by decide +kernel), List.mem_of_getElem? (i := 400) (by decide +kernel), List.mem_of_getElem? (i := 401) (by decide +kernel)⟩
theorem lw_p23 : lw_okq (⟨"StruckColours$Sea", "parts", "(II)I"⟩, 9) := ⟨⟨by decide +kernel, by decide +kernel⟩, List.mem_of_getElem? (i := 58) (by decide +kernel), List.mem_of_getElem? (i := 404) (by decide +kernel), List.mem_of_getElem? (i := 405) (by decide +kernel)⟩
theorem lw_p24 : lw_okq (⟨"StruckColours$Sea", "wonOf", "(I)I"⟩, 9) := ⟨⟨by decide +kernel, by decide +kernel⟩, List.mem_of_getElem? (i := 58) (by decide +kernel), List.mem_of_getElem? (i := 408) (by decide +kernel), List.mem_of_getElem? (i := 409) (by decide +kernel)⟩
theorem lw_p25 : lw_okq (⟨"StruckColours$Sea", "lostOf", "(I)I"⟩, 9) := ⟨⟨by decide +kernel, by decide +kernel⟩, List.mem_of_getElem? (i := 58) (by decide +kernel), List.mem_of_getElem? (i := 412) (by decide +kernel), List.mem_of_getElem? (i := 413) (by decide +kernel)⟩
theorem lw_p26 : lw_okq (⟨"StruckColours$Rule", "reduces", "(II)I"⟩, 9) := ⟨⟨by decide +kernel, by decide +kernel⟩, List.mem_of_getElem? (i := 181) (by decide +kernel), List.mem_of_getElem? (i := 416) (by decide +kernel), List.mem_of_getElem? (i := 417) (by decide +kernel)⟩
theorem lw_p27 : lw_okq (⟨"StruckColours$Sea", "strengthens", "(II)V"⟩, 9) := ⟨⟨by decide +kernel, by decide +kernel⟩, List.mem_of_getElem? (i := 58) (by decide +kernel), List.mem_of_getElem? (i := 437) (by decide +kernel), List.mem_of_getElem? (i := 438) (by decide +kernel)⟩
theorem lw_p28 : lw_okq (⟨"StruckColours$Sea", "strengthOfAll", "()I"⟩, 9) := ⟨⟨by decide +kernel, by decide +kernel⟩, List.mem_of_getElem? (i := 58) (by decide +kernel), List.mem_of_getElem? (i := 443) (by decide +kernel), List.mem_of_getElem? (i := 444) (by decide +kernel)⟩
theorem lw_p29 : lw_okq (⟨"StruckColours$Sea", "strengthOfSome", "(I)I"⟩, 9) := ⟨⟨by decide +kernel, by decide +kernel⟩, List.mem_of_getElem? (i := 58) (by decide +kernel), List.mem_of_getElem? (i := 447) (by decide +kernel), List.mem_of_getElem? (i := 448) (by decide +kernel)⟩
theorem lw_p30 : lw_okq (⟨"StruckColours$Sea", "becomes", "(LStruckColours$Sea;)V"⟩, 9) := ⟨⟨by decide +kernel, by decide +kernel⟩, List.mem_of_getElem? (i := 58) (by decide +kernel), List.mem_of_getElem? (i := 456) (by decide +kernel), List.mem_of_getElem? (i := 457) (by decide +kernel)⟩
theorem lw_p31 : lw_okq (⟨"StruckColours$Sea", "battle", "(LStruckColours$Rule;III)I"⟩, 9) := ⟨⟨by decide +kernel, by decide +kernel⟩, List.mem_of_getElem? (i := 58) (by decide +kernel), List.mem_of_getElem? (i := 463) (by decide +kernel), List.mem_of_getElem? (i := 464) (by decide +kernel)⟩
def lw_privs_2 : List (MethodName × Nat) := [(⟨"StruckColours$Past", "clears", "()V"⟩, 3), (⟨"StruckColours", "readsOtherRule", "()I"⟩, 17), (⟨"StruckColours$Sea", "isPair", "(II)Z"⟩, 9), (⟨"StruckColours$Rule", "measures", "(LStruckColours$Sea;II)I"⟩, 9), (⟨"StruckColours$Rule", "stacks", "(II)I"⟩, 9), (⟨"StruckColours$Sea", "strengthOf", "(I)I"⟩, 9), (⟨"StruckColours$Sea", "sideOf", "(I)I"⟩, 9), (⟨"StruckColours$Sea", "parts", "(II)I"⟩, 9), (⟨"StruckColours$Sea", "wonOf", "(I)I"⟩, 9), (⟨"StruckColours$Sea", "lostOf", "(I)I"⟩, 9), (⟨"StruckColours$Rule", "reduces", "(II)I"⟩, 9), (⟨"StruckColours$Sea", "strengthens", "(II)V"⟩, 9), (⟨"StruckColours$Sea", "strengthOfAll", "()I"⟩, 9), (⟨"StruckColours$Sea", "strengthOfSome", "(I)I"⟩, 9), (⟨"StruckColours$Sea", "becomes", "(LStruckColours$Sea;)V"⟩, 9), (⟨"StruckColours$Sea", "battle", "(LStruckColours$Rule;III)I"⟩, 9)]
theorem lw_r2 : ∀ q ∈ lw_privs_2, lw_okq q := List.forall_mem_cons.mpr ⟨lw_p16, List.forall_mem_cons.mpr ⟨lw_p17, List.forall_mem_cons.mpr ⟨lw_p18, List.forall_mem_cons.mpr ⟨lw_p19, List.forall_mem_cons.mpr ⟨lw_p20, List.forall_mem_cons.mpr ⟨lw_p21, List.forall_mem_cons.mpr ⟨lw_p22, List.forall_mem_cons.mpr ⟨lw_p23, List.forall_mem_cons.mpr ⟨lw_p24, List.forall_mem_cons.mpr ⟨lw_p25, List.forall_mem_cons.mpr ⟨lw_p26, List.forall_mem_cons.mpr ⟨lw_p27, List.forall_mem_cons.mpr ⟨lw_p28, List.forall_mem_cons.mpr ⟨lw_p29, List.forall_mem_cons.mpr ⟨lw_p30, List.forall_mem_cons.mpr ⟨lw_p31, fun _ h => absurd h List.not_mem_nil⟩⟩⟩⟩⟩⟩⟩⟩⟩⟩⟩⟩⟩⟩⟩⟩
theorem lw_p32 : lw_okq (⟨"StruckColours$Sea", "winner", "(LStruckColours$Rule;II)I"⟩, 9) := ⟨⟨by decide +kernel, by decide +kernel⟩, List.mem_of_getElem? (i := 58) (by decide +kernel), List.mem_of_getElem? (i := 467) (by decide +kernel), List.mem_of_getElem? (i := 468) (by decide +kernel)⟩
theorem lw_p33 : lw_okq (⟨"StruckColours$Sea", "strikesTo", "(III)V"⟩, 9) := ⟨⟨by decide +kernel, by decide +kernel⟩, List.mem_of_getElem? (i := 58) (by decide +kernel), List.mem_of_getElem? (i := 474) (by decide +kernel), List.mem_of_getElem? (i := 475) (by decide +kernel)⟩
theorem lw_p34 : lw_okq (⟨"StruckColours$Sea", "resews", "(IIII)V"⟩, 9) := ⟨⟨by decide +kernel, by decide +kernel⟩, List.mem_of_getElem? (i := 58) (by decide +kernel), List.mem_of_getElem? (i := 479) (by decide +kernel), List.mem_of_getElem? (i := 480) (by decide +kernel)⟩
theorem lw_p35 : lw_okq (⟨"StruckColours$Sea", "mayGoOver", "(I)V"⟩, 9) := ⟨⟨by decide +kernel, by decide +kernel⟩, List.mem_of_getElem? (i := 58) (by decide +kernel), List.mem_of_getElem? (i := 483) (by decide +kernel), List.mem_of_getElem? (i := 484) (by decide +kernel)⟩
theorem lw_p36 : lw_okq (⟨"StruckColours$Past", "adds", "(LStruckColours$Sea;)V"⟩, 3) := ⟨⟨by decide +kernel, by decide +kernel⟩, List.mem_of_getElem? (i := 98) (by decide +kernel), List.mem_of_getElem? (i := 487) (by decide +kernel), List.mem_of_getElem? (i := 488) (by decide +kernel)⟩
theorem lw_p37 : lw_okq (⟨"StruckColours$Past", "at", "(I)LStruckColours$Sea;"⟩, 3) := ⟨⟨by decide +kernel, by decide +kernel⟩, List.mem_of_getElem? (i := 98) (by decide +kernel), List.mem_of_getElem? (i := 491) (by decide +kernel), List.mem_of_getElem? (i := 492) (by decide +kernel)⟩
theorem lw_p38 : lw_okq (⟨"StruckColours$Sea", "dawns", "(I)V"⟩, 9) := ⟨⟨by decide +kernel, by decide +kernel⟩, List.mem_of_getElem? (i := 58) (by decide +kernel), List.mem_of_getElem? (i := 503) (by decide +kernel), List.mem_of_getElem? (i := 504) (by decide +kernel)⟩
theorem lw_p39 : lw_okq (⟨"StruckColours$Sea", "mendsFlag", "(I)V"⟩, 9) := ⟨⟨by decide +kernel, by decide +kernel⟩, List.mem_of_getElem? (i := 58) (by decide +kernel), List.mem_of_getElem? (i := 508) (by decide +kernel), List.mem_of_getElem? (i := 509) (by decide +kernel)⟩
theorem lw_p40 : lw_okq (⟨"StruckColours$Row", "clears", "()V"⟩, 2) := ⟨⟨by decide +kernel, by decide +kernel⟩, List.mem_of_getElem? (i := 43) (by decide +kernel), List.mem_of_getElem? (i := 512) (by decide +kernel), List.mem_of_getElem? (i := 513) (by decide +kernel)⟩
theorem lw_p41 : lw_okq (⟨"StruckColours$Sea", "partsOfAll", "(I)I"⟩, 9) := ⟨⟨by decide +kernel, by decide +kernel⟩, List.mem_of_getElem? (i := 58) (by decide +kernel), List.mem_of_getElem? (i := 516) (by decide +kernel), List.mem_of_getElem? (i := 517) (by decide +kernel)⟩
theorem lw_p42 : lw_okq (⟨"StruckColours$Sea", "partsOfSome", "(II)I"⟩, 9) := ⟨⟨by decide +kernel, by decide +kernel⟩, List.mem_of_getElem? (i := 58) (by decide +kernel), List.mem_of_getElem? (i := 520) (by decide +kernel), List.mem_of_getElem? (i := 521) (by decide +kernel)⟩
theorem lw_p43 : lw_okq (⟨"StruckColours$Row", "adds", "(J)V"⟩, 2) := ⟨⟨by decide +kernel, by decide +kernel⟩, List.mem_of_getElem? (i := 43) (by decide +kernel), List.mem_of_getElem? (i := 524) (by decide +kernel), List.mem_of_getElem? (i := 525) (by decide +kernel)⟩
theorem lw_p44 : lw_okq (⟨"StruckColours$Sea", "sewsIn", "(III)I"⟩, 9) := ⟨⟨by decide +kernel, by decide +kernel⟩, List.mem_of_getElem? (i := 58) (by decide +kernel), List.mem_of_getElem? (i := 532) (by decide +kernel), List.mem_of_getElem? (i := 533) (by decide +kernel)⟩
theorem lw_p45 : lw_okq (⟨"StruckColours$Sea", "strikesAll", "(II)I"⟩, 9) := ⟨⟨by decide +kernel, by decide +kernel⟩, List.mem_of_getElem? (i := 58) (by decide +kernel), List.mem_of_getElem? (i := 540) (by decide +kernel), List.mem_of_getElem? (i := 541) (by decide +kernel)⟩
theorem lw_p46 : lw_okq (⟨"StruckColours", "faultOfWar", "(I)I"⟩, 17) := ⟨⟨by decide +kernel, by decide +kernel⟩, List.mem_of_getElem? (i := 19) (by decide +kernel), List.mem_of_getElem? (i := 548) (by decide +kernel), List.mem_of_getElem? (i := 549) (by decide +kernel)⟩
theorem lw_p47 : lw_okq (⟨"StruckColours", "acts", "(I)Z"⟩, 17) := ⟨⟨by decide +kernel, by decide +kernel⟩, List.mem_of_getElem? (i := 19) (by decide +kernel), List.mem_of_getElem? (i := 558) (by decide +kernel), List.mem_of_getElem? (i := 559) (by decide +kernel)⟩
def lw_privs_3 : List (MethodName × Nat) := [(⟨"StruckColours$Sea", "winner", "(LStruckColours$Rule;II)I"⟩, 9), (⟨"StruckColours$Sea", "strikesTo", "(III)V"⟩, 9), (⟨"StruckColours$Sea", "resews", "(IIII)V"⟩, 9), (⟨"StruckColours$Sea", "mayGoOver", "(I)V"⟩, 9), (⟨"StruckColours$Past", "adds", "(LStruckColours$Sea;)V"⟩, 3), (⟨"StruckColours$Past", "at", "(I)LStruckColours$Sea;"⟩, 3), (⟨"StruckColours$Sea", "dawns", "(I)V"⟩, 9), (⟨"StruckColours$Sea", "mendsFlag", "(I)V"⟩, 9), (⟨"StruckColours$Row", "clears", "()V"⟩, 2), (⟨"StruckColours$Sea", "partsOfAll", "(I)I"⟩, 9), (⟨"StruckColours$Sea", "partsOfSome", "(II)I"⟩, 9), (⟨"StruckColours$Row", "adds", "(J)V"⟩, 2), (⟨"StruckColours$Sea", "sewsIn", "(III)I"⟩, 9), (⟨"StruckColours$Sea", "strikesAll", "(II)I"⟩, 9), (⟨"StruckColours", "faultOfWar", "(I)I"⟩, 17), (⟨"StruckColours", "acts", "(I)Z"⟩, 17)]
theorem lw_r3 : ∀ q ∈ lw_privs_3, lw_okq q := List.forall_mem_cons.mpr ⟨lw_p32, List.forall_mem_cons.mpr ⟨lw_p33, List.forall_mem_cons.mpr ⟨lw_p34, List.forall_mem_cons.mpr ⟨lw_p35, List.forall_mem_cons.mpr ⟨lw_p36, List.forall_mem_cons.mpr ⟨lw_p37, List.forall_mem_cons.mpr ⟨lw_p38, List.forall_mem_cons.mpr ⟨lw_p39, List.forall_mem_cons.mpr ⟨lw_p40, List.forall_mem_cons.mpr ⟨lw_p41, List.forall_mem_cons.mpr ⟨lw_p42, List.forall_mem_cons.mpr ⟨lw_p43, List.forall_mem_cons.mpr ⟨lw_p44, List.forall_mem_cons.mpr ⟨lw_p45, List.forall_mem_cons.mpr ⟨lw_p46, List.forall_mem_cons.mpr ⟨lw_p47, fun _ h => absurd h List.not_mem_nil⟩⟩⟩⟩⟩⟩⟩⟩⟩⟩⟩⟩⟩⟩⟩⟩
theorem lw_p48 : lw_okq (⟨"StruckColours$Past", "returns", "(LStruckColours$Sea;)Z"⟩, 3) := ⟨⟨by decide +kernel, by decide +kernel⟩, List.mem_of_getElem? (i := 98) (by decide +kernel), List.mem_of_getElem? (i := 566) (by decide +kernel), List.mem_of_getElem? (i := 567) (by decide +kernel)⟩
theorem lw_p49 : lw_okq (⟨"StruckColours$Row", "addsFraction", "(JJ)V"⟩, 2) := ⟨⟨by decide +kernel, by decide +kernel⟩, List.mem_of_getElem? (i := 43) (by decide +kernel), List.mem_of_getElem? (i := 581) (by decide +kernel), List.mem_of_getElem? (i := 582) (by decide +kernel)⟩
theorem lw_p50 : lw_okq (⟨"StruckColours$Sea", "strangeParts", "(I)I"⟩, 9) := ⟨⟨by decide +kernel, by decide +kernel⟩, List.mem_of_getElem? (i := 58) (by decide +kernel), List.mem_of_getElem? (i := 599) (by decide +kernel), List.mem_of_getElem? (i := 600) (by decide +kernel)⟩
theorem lw_p51 : lw_okq (⟨"StruckColours$Sea", "difference", "(II)I"⟩, 9) := ⟨⟨by decide +kernel, by decide +kernel⟩, List.mem_of_getElem? (i := 58) (by decide +kernel), List.mem_of_getElem? (i := 607) (by decide +kernel), List.mem_of_getElem? (i := 608) (by decide +kernel)⟩
theorem lw_p52 : lw_okq (⟨"StruckColours", "isTempted", "(III)Z"⟩, 17) := ⟨⟨by decide +kernel, by decide +kernel⟩, List.mem_of_getElem? (i := 19) (by decide +kernel), List.mem_of_getElem? (i := 635) (by decide +kernel), List.mem_of_getElem? (i := 636) (by decide +kernel)⟩
theorem lw_p53 : lw_okq (⟨"StruckColours$Search", "aims", "(LStruckColours$Rule;III)V"⟩, 6) := ⟨⟨by decide +kernel, by decide +kernel⟩, List.mem_of_getElem? (i := 118) (by decide +kernel), List.mem_of_getElem? (i := 651) (by decide +kernel), List.mem_of_getElem? (i := 652) (by decide +kernel)⟩
theorem lw_p54 : lw_okq (⟨"StruckColours$Search", "fewest", "(LStruckColours$Sea;)I"⟩, 6) := ⟨⟨by decide +kernel, by decide +kernel⟩, List.mem_of_getElem? (i := 118) (by decide +kernel), List.mem_of_getElem? (i := 655) (by decide +kernel), List.mem_of_getElem? (i := 656) (by decide +kernel)⟩
theorem lw_p55 : lw_okq (⟨"StruckColours$Search", "level", "(I)LStruckColours$Sea;"⟩, 6) := ⟨⟨by decide +kernel, by decide +kernel⟩, List.mem_of_getElem? (i := 118) (by decide +kernel), List.mem_of_getElem? (i := 659) (by decide +kernel), List.mem_of_getElem? (i := 660) (by decide +kernel)⟩
theorem lw_p56 : lw_okq (⟨"StruckColours$Search", "reaches", "(II)Z"⟩, 6) := ⟨⟨by decide +kernel, by decide +kernel⟩, List.mem_of_getElem? (i := 118) (by decide +kernel), List.mem_of_getElem? (i := 664) (by decide +kernel), List.mem_of_getElem? (i := 665) (by decide +kernel)⟩
theorem lw_p57 : lw_okq (⟨"StruckColours$Search", "isReached", "(LStruckColours$Sea;)Z"⟩, 6) := ⟨⟨by decide +kernel, by decide +kernel⟩, List.mem_of_getElem? (i := 118) (by decide +kernel), List.mem_of_getElem? (i := 668) (by decide +kernel), List.mem_of_getElem? (i := 669) (by decide +kernel)⟩
theorem lw_p58 : lw_okq (⟨"StruckColours$Search", "isTooFar", "(LStruckColours$Sea;I)Z"⟩, 6) := ⟨⟨by decide +kernel, by decide +kernel⟩, List.mem_of_getElem? (i := 118) (by decide +kernel), List.mem_of_getElem? (i := 677) (by decide +kernel), List.mem_of_getElem? (i := 678) (by decide +kernel)⟩
theorem lw_p59 : lw_okq (⟨"StruckColours$Search", "isOfUse", "(III)Z"⟩, 6) := ⟨⟨by decide +kernel, by decide +kernel⟩, List.mem_of_getElem? (i := 118) (by decide +kernel), List.mem_of_getElem? (i := 682) (by decide +kernel), List.mem_of_getElem? (i := 683) (by decide +kernel)⟩
theorem lw_p60 : lw_okq (⟨"StruckColours$Search", "goes", "(III)Z"⟩, 6) := ⟨⟨by decide +kernel, by decide +kernel⟩, List.mem_of_getElem? (i := 118) (by decide +kernel), List.mem_of_getElem? (i := 687) (by decide +kernel), List.mem_of_getElem? (i := 688) (by decide +kernel)⟩
theorem lw_p61 : lw_okq (⟨"StruckColours", "tellsFights", "(I)I"⟩, 17) := ⟨⟨by decide +kernel, by decide +kernel⟩, List.mem_of_getElem? (i := 19) (by decide +kernel), List.mem_of_getElem? (i := 693) (by decide +kernel), List.mem_of_getElem? (i := 694) (by decide +kernel)⟩
theorem lw_p62 : lw_okq (⟨"StruckColours$Search", "step", "(I)I"⟩, 6) := ⟨⟨by decide +kernel, by decide +kernel⟩, List.mem_of_getElem? (i := 118) (by decide +kernel), List.mem_of_getElem? (i := 697) (by decide +kernel), List.mem_of_getElem? (i := 698) (by decide +kernel)⟩
theorem lw_p63 : lw_okq (⟨"StruckColours", "firstPairFights", "()V"⟩, 17) := ⟨⟨by decide +kernel, by decide +kernel⟩, List.mem_of_getElem? (i := 19) (by decide +kernel), List.mem_of_getElem? (i := 709) (by decide +kernel), List.mem_of_getElem? (i := 710) (by decide +kernel)⟩
def lw_privs_4 : List (MethodName × Nat) := [(⟨"StruckColours$Past", "returns", "(LStruckColours$Sea;)Z"⟩, 3), (⟨"StruckColours$Row", "addsFraction", "(JJ)V"⟩, 2), (⟨"StruckColours$Sea", "strangeParts", "(I)I"⟩, 9), (⟨"StruckColours$Sea", "difference", "(II)I"⟩, 9), (⟨"StruckColours", "isTempted", "(III)Z"⟩, 17), (⟨"StruckColours$Search", "aims", "(LStruckColours$Rule;III)V"⟩, 6), (⟨"StruckColours$Search", "fewest", "(LStruckColours$Sea;)I"⟩, 6), (⟨"StruckColours$Search", "level", "(I)LStruckColours$Sea;"⟩, 6), (⟨"StruckColours$Search", "reaches", "(II)Z"⟩, 6), (⟨"StruckColours$Search", "isReached", "(LStruckColours$Sea;)Z"⟩, 6), (⟨"StruckColours$Search", "isTooFar", "(LStruckColours$Sea;I)Z"⟩, 6), (⟨"StruckColours$Search", "isOfUse", "(III)Z"⟩, 6), (⟨"StruckColours$Search", "goes", "(III)Z"⟩, 6), (⟨"StruckColours", "tellsFights", "(I)I"⟩, 17), (⟨"StruckColours$Search", "step", "(I)I"⟩, 6), (⟨"StruckColours", "firstPairFights", "()V"⟩, 17)]
theorem lw_r4 : ∀ q ∈ lw_privs_4, lw_okq q := List.forall_mem_cons.mpr ⟨lw_p48, List.forall_mem_cons.mpr ⟨lw_p49, List.forall_mem_cons.mpr ⟨lw_p50, List.forall_mem_cons.mpr ⟨lw_p51, List.forall_mem_cons.mpr ⟨lw_p52, List.forall_mem_cons.mpr ⟨lw_p53, List.forall_mem_cons.mpr ⟨lw_p54, List.forall_mem_cons.mpr ⟨lw_p55, List.forall_mem_cons.mpr ⟨lw_p56, List.forall_mem_cons.mpr ⟨lw_p57, List.forall_mem_cons.mpr ⟨lw_p58, List.forall_mem_cons.mpr ⟨lw_p59, List.forall_mem_cons.mpr ⟨lw_p60, List.forall_mem_cons.mpr ⟨lw_p61, List.forall_mem_cons.mpr ⟨lw_p62, List.forall_mem_cons.mpr ⟨lw_p63, fun _ h => absurd h List.not_mem_nil⟩⟩⟩⟩⟩⟩⟩⟩⟩⟩⟩⟩⟩⟩⟩⟩
theorem lw_p64 : lw_okq (⟨"StruckColours$Notes", "adds", "(III)Z"⟩, 4) := ⟨⟨by decide +kernel, by decide +kernel⟩, List.mem_of_getElem? (i := 145) (by decide +kernel), List.mem_of_getElem? (i := 750) (by decide +kernel), List.mem_of_getElem? (i := 751) (by decide +kernel)⟩
theorem lw_p65 : lw_okq (⟨"StruckColours$Notes", "empties", "()I"⟩, 4) := ⟨⟨by decide +kernel, by decide +kernel⟩, List.mem_of_getElem? (i := 145) (by decide +kernel), List.mem_of_getElem? (i := 758) (by decide +kernel), List.mem_of_getElem? (i := 759) (by decide +kernel)⟩
theorem lw_p66 : lw_okq (⟨"StruckColours", "fittingShips", "()I"⟩, 17) := ⟨⟨by decide +kernel, by decide +kernel⟩, List.mem_of_getElem? (i := 19) (by decide +kernel), List.mem_of_getElem? (i := 766) (by decide +kernel), List.mem_of_getElem? (i := 767) (by decide +kernel)⟩
theorem lw_p67 : lw_okq (⟨"StruckColours", "fitsAll", "(I)Z"⟩, 17) := ⟨⟨by decide +kernel, by decide +kernel⟩, List.mem_of_getElem? (i := 19) (by decide +kernel), List.mem_of_getElem? (i := 770) (by decide +kernel), List.mem_of_getElem? (i := 771) (by decide +kernel)⟩
theorem lw_p68 : lw_okq (⟨"StruckColours$Notes", "firstOf", "(I)I"⟩, 4) := ⟨⟨by decide +kernel, by decide +kernel⟩, List.mem_of_getElem? (i := 145) (by decide +kernel), List.mem_of_getElem? (i := 774) (by decide +kernel), List.mem_of_getElem? (i := 775) (by decide +kernel)⟩
theorem lw_p69 : lw_okq (⟨"StruckColours$Notes", "secondOf", "(I)I"⟩, 4) := ⟨⟨by decide +kernel, by decide +kernel⟩, List.mem_of_getElem? (i := 145) (by decide +kernel), List.mem_of_getElem? (i := 778) (by decide +kernel), List.mem_of_getElem? (i := 779) (by decide +kernel)⟩
theorem lw_p70 : lw_okq (⟨"StruckColours", "fitsSight", "(III)Z"⟩, 17) := ⟨⟨by decide +kernel, by decide +kernel⟩, List.mem_of_getElem? (i := 19) (by decide +kernel), List.mem_of_getElem? (i := 782) (by decide +kernel), List.mem_of_getElem? (i := 783) (by decide +kernel)⟩
theorem lw_p71 : lw_okq (⟨"StruckColours", "shipsWith", "(I)I"⟩, 17) := ⟨⟨by decide +kernel, by decide +kernel⟩, List.mem_of_getElem? (i := 19) (by decide +kernel), List.mem_of_getElem? (i := 792) (by decide +kernel), List.mem_of_getElem? (i := 793) (by decide +kernel)⟩
theorem lw_p72 : lw_okq (⟨"StruckColours$Laws", "weighs", "(LStruckColours$Notes;)I"⟩, 2) := ⟨⟨by decide +kernel, by decide +kernel⟩, List.mem_of_getElem? (i := 166) (by decide +kernel), List.mem_of_getElem? (i := 808) (by decide +kernel), List.mem_of_getElem? (i := 809) (by decide +kernel)⟩
theorem lw_p73 : lw_okq (⟨"StruckColours$Notes", "thirdOf", "(I)I"⟩, 4) := ⟨⟨by decide +kernel, by decide +kernel⟩, List.mem_of_getElem? (i := 145) (by decide +kernel), List.mem_of_getElem? (i := 820) (by decide +kernel), List.mem_of_getElem? (i := 821) (by decide +kernel)⟩
theorem lw_p74 : lw_okq (⟨"StruckColours$Laws", "numberOver", "(II)I"⟩, 2) := ⟨⟨by decide +kernel, by decide +kernel⟩, List.mem_of_getElem? (i := 166) (by decide +kernel), List.mem_of_getElem? (i := 828) (by decide +kernel), List.mem_of_getElem? (i := 829) (by decide +kernel)⟩
theorem lw_p75 : lw_okq (⟨"StruckColours", "lesserWins", "(LStruckColours$Rule;)I"⟩, 17) := ⟨⟨by decide +kernel, by decide +kernel⟩, List.mem_of_getElem? (i := 19) (by decide +kernel), List.mem_of_getElem? (i := 862) (by decide +kernel), List.mem_of_getElem? (i := 863) (by decide +kernel)⟩
theorem lw_p76 : lw_okq (⟨"StruckColours", "yearGoesBy", "()V"⟩, 17) := ⟨⟨by decide +kernel, by decide +kernel⟩, List.mem_of_getElem? (i := 19) (by decide +kernel), List.mem_of_getElem? (i := 870) (by decide +kernel), List.mem_of_getElem? (i := 871) (by decide +kernel)⟩
theorem lw_p77 : lw_okq (⟨"StruckColours", "draws", "(I)I"⟩, 17) := ⟨⟨by decide +kernel, by decide +kernel⟩, List.mem_of_getElem? (i := 19) (by decide +kernel), List.mem_of_getElem? (i := 874) (by decide +kernel), List.mem_of_getElem? (i := 875) (by decide +kernel)⟩
theorem lw_p78 : lw_okq (⟨"StruckColours$Sea", "wonOfAll", "()I"⟩, 9) := ⟨⟨by decide +kernel, by decide +kernel⟩, List.mem_of_getElem? (i := 58) (by decide +kernel), List.mem_of_getElem? (i := 879) (by decide +kernel), List.mem_of_getElem? (i := 880) (by decide +kernel)⟩
theorem lw_p79 : lw_okq (⟨"StruckColours", "keptUnder", "(I)LStruckColours$Sea;"⟩, 17) := ⟨⟨by decide +kernel, by decide +kernel⟩, List.mem_of_getElem? (i := 19) (by decide +kernel), List.mem_of_getElem? (i := 888) (by decide +kernel), List.mem_of_getElem? (i := 889) (by decide +kernel)⟩
def lw_privs_5 : List (MethodName × Nat) := [(⟨"StruckColours$Notes", "adds", "(III)Z"⟩, 4), (⟨"StruckColours$Notes", "empties", "()I"⟩, 4), (⟨"StruckColours", "fittingShips", "()I"⟩, 17), (⟨"StruckColours", "fitsAll", "(I)Z"⟩, 17), (⟨"StruckColours$Notes", "firstOf", "(I)I"⟩, 4), (⟨"StruckColours$Notes", "secondOf", "(I)I"⟩, 4), (⟨"StruckColours", "fitsSight", "(III)Z"⟩, 17), (⟨"StruckColours", "shipsWith", "(I)I"⟩, 17), (⟨"StruckColours$Laws", "weighs", "(LStruckColours$Notes;)I"⟩, 2), (⟨"StruckColours$Notes", "thirdOf", "(I)I"⟩, 4), (⟨"StruckColours$Laws", "numberOver", "(II)I"⟩, 2), (⟨"StruckColours", "lesserWins", "(LStruckColours$Rule;)I"⟩, 17), (⟨"StruckColours", "yearGoesBy", "()V"⟩, 17), (⟨"StruckColours", "draws", "(I)I"⟩, 17), (⟨"StruckColours$Sea", "wonOfAll", "()I"⟩, 9), (⟨"StruckColours", "keptUnder", "(I)LStruckColours$Sea;"⟩, 17)]
theorem lw_r5 : ∀ q ∈ lw_privs_5, lw_okq q := List.forall_mem_cons.mpr ⟨lw_p64, List.forall_mem_cons.mpr ⟨lw_p65, List.forall_mem_cons.mpr ⟨lw_p66, List.forall_mem_cons.mpr ⟨lw_p67, List.forall_mem_cons.mpr ⟨lw_p68, List.forall_mem_cons.mpr ⟨lw_p69, List.forall_mem_cons.mpr ⟨lw_p70, List.forall_mem_cons.mpr ⟨lw_p71, List.forall_mem_cons.mpr ⟨lw_p72, List.forall_mem_cons.mpr ⟨lw_p73, List.forall_mem_cons.mpr ⟨lw_p74, List.forall_mem_cons.mpr ⟨lw_p75, List.forall_mem_cons.mpr ⟨lw_p76, List.forall_mem_cons.mpr ⟨lw_p77, List.forall_mem_cons.mpr ⟨lw_p78, List.forall_mem_cons.mpr ⟨lw_p79, fun _ h => absurd h List.not_mem_nil⟩⟩⟩⟩⟩⟩⟩⟩⟩⟩⟩⟩⟩⟩⟩⟩
theorem lw_p80 : lw_okq (⟨"StruckColours$Sea", "lostOfAll", "()I"⟩, 9) := ⟨⟨by decide +kernel, by decide +kernel⟩, List.mem_of_getElem? (i := 58) (by decide +kernel), List.mem_of_getElem? (i := 900) (by decide +kernel), List.mem_of_getElem? (i := 901) (by decide +kernel)⟩
theorem lw_p81 : lw_okq (⟨"StruckColours", "strangePartsOfAll", "()I"⟩, 17) := ⟨⟨by decide +kernel, by decide +kernel⟩, List.mem_of_getElem? (i := 19) (by decide +kernel), List.mem_of_getElem? (i := 905) (by decide +kernel), List.mem_of_getElem? (i := 906) (by decide +kernel)⟩
theorem lw_p82 : lw_okq (⟨"StruckColours", "wholeShips", "()I"⟩, 17) := ⟨⟨by decide +kernel, by decide +kernel⟩, List.mem_of_getElem? (i := 19) (by decide +kernel), List.mem_of_getElem? (i := 909) (by decide +kernel), List.mem_of_getElem? (i := 910) (by decide +kernel)⟩
theorem lw_p83 : lw_okq (⟨"java/lang/Throwable", "fillInStackTrace", "(I)Ljava/lang/Throwable;"⟩, 6) := ⟨⟨by decide +kernel, by decide +kernel⟩, List.mem_of_getElem? (i := 957) (by decide +kernel), List.mem_of_getElem? (i := 955) (by decide +kernel), List.mem_of_getElem? (i := 956) (by decide +kernel)⟩
theorem lw_p84 : lw_okq (⟨"StruckColours$Sea", "mightOf", "(I)I"⟩, 9) := ⟨⟨by decide +kernel, by decide +kernel⟩, List.mem_of_getElem? (i := 58) (by decide +kernel), List.mem_of_getElem? (i := 987) (by decide +kernel), List.mem_of_getElem? (i := 988) (by decide +kernel)⟩
theorem lw_p85 : lw_okq (⟨"StruckColours$Row", "has", "(I)Z"⟩, 2) := ⟨⟨by decide +kernel, by decide +kernel⟩, List.mem_of_getElem? (i := 43) (by decide +kernel), List.mem_of_getElem? (i := 998) (by decide +kernel), List.mem_of_getElem? (i := 999) (by decide +kernel)⟩
theorem lw_p86 : lw_okq (⟨"StruckColours$Row", "at", "(I)J"⟩, 2) := ⟨⟨by decide +kernel, by decide +kernel⟩, List.mem_of_getElem? (i := 43) (by decide +kernel), List.mem_of_getElem? (i := 1003) (by decide +kernel), List.mem_of_getElem? (i := 1004) (by decide +kernel)⟩
theorem lw_p87 : lw_okq (⟨"StruckColoursModel", "beginText", "(I)V"⟩, 41) := ⟨⟨by decide +kernel, by decide +kernel⟩, List.mem_of_getElem? (i := 1008) (by decide +kernel), List.mem_of_getElem? (i := 1157) (by decide +kernel), List.mem_of_getElem? (i := 1158) (by decide +kernel)⟩
theorem lw_p88 : lw_okq (⟨"StruckColoursModel", "begin", "([BII)V"⟩, 41) := ⟨⟨by decide +kernel, by decide +kernel⟩, List.mem_of_getElem? (i := 1008) (by decide +kernel), List.mem_of_getElem? (i := 1161) (by decide +kernel), List.mem_of_getElem? (i := 1162) (by decide +kernel)⟩
theorem lw_p89 : lw_okq (⟨"StruckColoursModel", "fine", "()Z"⟩, 41) := ⟨⟨by decide +kernel, by decide +kernel⟩, List.mem_of_getElem? (i := 1008) (by decide +kernel), List.mem_of_getElem? (i := 1165) (by decide +kernel), List.mem_of_getElem? (i := 1166) (by decide +kernel)⟩
theorem lw_p90 : lw_okq (⟨"StruckColoursModel", "fault", "(I)V"⟩, 41) := ⟨⟨by decide +kernel, by decide +kernel⟩, List.mem_of_getElem? (i := 1008) (by decide +kernel), List.mem_of_getElem? (i := 1169) (by decide +kernel), List.mem_of_getElem? (i := 1170) (by decide +kernel)⟩
theorem lw_p91 : lw_okq (⟨"StruckColoursModel", "oneOf", "(CI)I"⟩, 41) := ⟨⟨by decide +kernel, by decide +kernel⟩, List.mem_of_getElem? (i := 1008) (by decide +kernel), List.mem_of_getElem? (i := 1173) (by decide +kernel), List.mem_of_getElem? (i := 1174) (by decide +kernel)⟩
theorem lw_p92 : lw_okq (⟨"StruckColoursModel", "here", "()I"⟩, 41) := ⟨⟨by decide +kernel, by decide +kernel⟩, List.mem_of_getElem? (i := 1008) (by decide +kernel), List.mem_of_getElem? (i := 1177) (by decide +kernel), List.mem_of_getElem? (i := 1178) (by decide +kernel)⟩
theorem lw_p93 : lw_okq (⟨"StruckColoursModel", "passes", "(C)Z"⟩, 41) := ⟨⟨by decide +kernel, by decide +kernel⟩, List.mem_of_getElem? (i := 1008) (by decide +kernel), List.mem_of_getElem? (i := 1181) (by decide +kernel), List.mem_of_getElem? (i := 1182) (by decide +kernel)⟩
theorem lw_p94 : lw_okq (⟨"StruckColoursModel", "wasRight", "()Z"⟩, 41) := ⟨⟨by decide +kernel, by decide +kernel⟩, List.mem_of_getElem? (i := 1008) (by decide +kernel), List.mem_of_getElem? (i := 1185) (by decide +kernel), List.mem_of_getElem? (i := 1186) (by decide +kernel)⟩
theorem lw_p95 : lw_okq (⟨"StruckColoursModel", "readRule", "()Z"⟩, 41) := ⟨⟨by decide +kernel, by decide +kernel⟩, List.mem_of_getElem? (i := 1008) (by decide +kernel), List.mem_of_getElem? (i := 1193) (by decide +kernel), List.mem_of_getElem? (i := 1194) (by decide +kernel)⟩
def lw_privs_6 : List (MethodName × Nat) := [(⟨"StruckColours$Sea", "lostOfAll", "()I"⟩, 9), (⟨"StruckColours", "strangePartsOfAll", "()I"⟩, 17), (⟨"StruckColours", "wholeShips", "()I"⟩, 17), (⟨"java/lang/Throwable", "fillInStackTrace", "(I)Ljava/lang/Throwable;"⟩, 6), (⟨"StruckColours$Sea", "mightOf", "(I)I"⟩, 9), (⟨"StruckColours$Row", "has", "(I)Z"⟩, 2), (⟨"StruckColours$Row", "at", "(I)J"⟩, 2), (⟨"StruckColoursModel", "beginText", "(I)V"⟩, 41), (⟨"StruckColoursModel", "begin", "([BII)V"⟩, 41), (⟨"StruckColoursModel", "fine", "()Z"⟩, 41), (⟨"StruckColoursModel", "fault", "(I)V"⟩, 41), (⟨"StruckColoursModel", "oneOf", "(CI)I"⟩, 41), (⟨"StruckColoursModel", "here", "()I"⟩, 41), (⟨"StruckColoursModel", "passes", "(C)Z"⟩, 41), (⟨"StruckColoursModel", "wasRight", "()Z"⟩, 41), (⟨"StruckColoursModel", "readRule", "()Z"⟩, 41)]
theorem lw_r6 : ∀ q ∈ lw_privs_6, lw_okq q := List.forall_mem_cons.mpr ⟨lw_p80, List.forall_mem_cons.mpr ⟨lw_p81, List.forall_mem_cons.mpr ⟨lw_p82, List.forall_mem_cons.mpr ⟨lw_p83, List.forall_mem_cons.mpr ⟨lw_p84, List.forall_mem_cons.mpr ⟨lw_p85, List.forall_mem_cons.mpr ⟨lw_p86, List.forall_mem_cons.mpr ⟨lw_p87, List.forall_mem_cons.mpr ⟨lw_p88, List.forall_mem_cons.mpr ⟨lw_p89, List.forall_mem_cons.mpr ⟨lw_p90, List.forall_mem_cons.mpr ⟨lw_p91, List.forall_mem_cons.mpr ⟨lw_p92, List.forall_mem_cons.mpr ⟨lw_p93, List.forall_mem_cons.mpr ⟨lw_p94, List.forall_mem_cons.mpr ⟨lw_p95, fun _ h => absurd h List.not_mem_nil⟩⟩⟩⟩⟩⟩⟩⟩⟩⟩⟩⟩⟩⟩⟩⟩
theorem lw_p96 : lw_okq (⟨"StruckColoursModel", "held", "(I)I"⟩, 41) := ⟨⟨by decide +kernel, by decide +kernel⟩, List.mem_of_getElem? (i := 1008) (by decide +kernel), List.mem_of_getElem? (i := 1197) (by decide +kernel), List.mem_of_getElem? (i := 1198) (by decide +kernel)⟩
theorem lw_p97 : lw_okq (⟨"StruckColoursModel", "sum", "(I)I"⟩, 41) := ⟨⟨by decide +kernel, by decide +kernel⟩, List.mem_of_getElem? (i := 1008) (by decide +kernel), List.mem_of_getElem? (i := 1201) (by decide +kernel), List.mem_of_getElem? (i := 1202) (by decide +kernel)⟩
theorem lw_p98 : lw_okq (⟨"StruckColoursModel", "product", "(I)I"⟩, 41) := ⟨⟨by decide +kernel, by decide +kernel⟩, List.mem_of_getElem? (i := 1008) (by decide +kernel), List.mem_of_getElem? (i := 1205) (by decide +kernel), List.mem_of_getElem? (i := 1206) (by decide +kernel)⟩
theorem lw_p99 : lw_okq (⟨"StruckColoursModel", "thing", "(I)I"⟩, 41) := ⟨⟨by decide +kernel, by decide +kernel⟩, List.mem_of_getElem? (i := 1008) (by decide +kernel), List.mem_of_getElem? (i := 1209) (by decide +kernel), List.mem_of_getElem? (i := 1210) (by decide +kernel)⟩
theorem lw_p100 : lw_okq (⟨"StruckColoursModel", "need", "(C)V"⟩, 41) := ⟨⟨by decide +kernel, by decide +kernel⟩, List.mem_of_getElem? (i := 1008) (by decide +kernel), List.mem_of_getElem? (i := 1213) (by decide +kernel), List.mem_of_getElem? (i := 1214) (by decide +kernel)⟩
theorem lw_p101 : lw_okq (⟨"StruckColoursModel", "number", "(I)I"⟩, 41) := ⟨⟨by decide +kernel, by decide +kernel⟩, List.mem_of_getElem? (i := 1008) (by decide +kernel), List.mem_of_getElem? (i := 1217) (by decide +kernel), List.mem_of_getElem? (i := 1218) (by decide +kernel)⟩
theorem lw_p102 : lw_okq (⟨"StruckColoursModel", "isShip", "(I)Z"⟩, 41) := ⟨⟨by decide +kernel, by decide +kernel⟩, List.mem_of_getElem? (i := 1008) (by decide +kernel), List.mem_of_getElem? (i := 1228) (by decide +kernel), List.mem_of_getElem? (i := 1229) (by decide +kernel)⟩
theorem lw_p103 : lw_okq (⟨"StruckColoursModel", "lost", "()I"⟩, 41) := ⟨⟨by decide +kernel, by decide +kernel⟩, List.mem_of_getElem? (i := 1008) (by decide +kernel), List.mem_of_getElem? (i := 1232) (by decide +kernel), List.mem_of_getElem? (i := 1233) (by decide +kernel)⟩
theorem lw_p104 : lw_okq (⟨"StruckColoursModel", "areTwo", "(II)Z"⟩, 41) := ⟨⟨by decide +kernel, by decide +kernel⟩, List.mem_of_getElem? (i := 1008) (by decide +kernel), List.mem_of_getElem? (i := 1243) (by decide +kernel), List.mem_of_getElem? (i := 1244) (by decide +kernel)⟩
theorem lw_p105 : lw_okq (⟨"StruckColoursModel", "forceOf", "([III)I"⟩, 41) := ⟨⟨by decide +kernel, by decide +kernel⟩, List.mem_of_getElem? (i := 1008) (by decide +kernel), List.mem_of_getElem? (i := 1247) (by decide +kernel), List.mem_of_getElem? (i := 1248) (by decide +kernel)⟩
theorem lw_p106 : lw_okq (⟨"StruckColoursModel", "sumOf", "([II)I"⟩, 41) := ⟨⟨by decide +kernel, by decide +kernel⟩, List.mem_of_getElem? (i := 1008) (by decide +kernel), List.mem_of_getElem? (i := 1264) (by decide +kernel), List.mem_of_getElem? (i := 1265) (by decide +kernel)⟩
theorem lw_p107 : lw_okq (⟨"StruckColoursModel", "winnerOf", "([III)I"⟩, 41) := ⟨⟨by decide +kernel, by decide +kernel⟩, List.mem_of_getElem? (i := 1008) (by decide +kernel), List.mem_of_getElem? (i := 1272) (by decide +kernel), List.mem_of_getElem? (i := 1273) (by decide +kernel)⟩
theorem lw_p108 : lw_okq (⟨"StruckColoursModel", "remember", "([I)V"⟩, 41) := ⟨⟨by decide +kernel, by decide +kernel⟩, List.mem_of_getElem? (i := 1008) (by decide +kernel), List.mem_of_getElem? (i := 1279) (by decide +kernel), List.mem_of_getElem? (i := 1280) (by decide +kernel)⟩
theorem lw_p109 : lw_okq (⟨"StruckColoursModel", "goFight", "([III)I"⟩, 41) := ⟨⟨by decide +kernel, by decide +kernel⟩, List.mem_of_getElem? (i := 1008) (by decide +kernel), List.mem_of_getElem? (i := 1286) (by decide +kernel), List.mem_of_getElem? (i := 1287) (by decide +kernel)⟩
theorem lw_p110 : lw_okq (⟨"StruckColoursModel", "goDays", "([II)V"⟩, 41) := ⟨⟨by decide +kernel, by decide +kernel⟩, List.mem_of_getElem? (i := 1008) (by decide +kernel), List.mem_of_getElem? (i := 1297) (by decide +kernel), List.mem_of_getElem? (i := 1298) (by decide +kernel)⟩
theorem lw_p111 : lw_okq (⟨"StruckColoursModel", "goDay", "([I)V"⟩, 41) := ⟨⟨by decide +kernel, by decide +kernel⟩, List.mem_of_getElem? (i := 1008) (by decide +kernel), List.mem_of_getElem? (i := 1301) (by decide +kernel), List.mem_of_getElem? (i := 1302) (by decide +kernel)⟩
def lw_privs_7 : List (MethodName × Nat) := [(⟨"StruckColoursModel", "held", "(I)I"⟩, 41), (⟨"StruckColoursModel", "sum", "(I)I"⟩, 41), (⟨"StruckColoursModel", "product", "(I)I"⟩, 41), (⟨"StruckColoursModel", "thing", "(I)I"⟩, 41), (⟨"StruckColoursModel", "need", "(C)V"⟩, 41), (⟨"StruckColoursModel", "number", "(I)I"⟩, 41), (⟨"StruckColoursModel", "isShip", "(I)Z"⟩, 41), (⟨"StruckColoursModel", "lost", "()I"⟩, 41), (⟨"StruckColoursModel", "areTwo", "(II)Z"⟩, 41), (⟨"StruckColoursModel", "forceOf", "([III)I"⟩, 41), (⟨"StruckColoursModel", "sumOf", "([II)I"⟩, 41), (⟨"StruckColoursModel", "winnerOf", "([III)I"⟩, 41), (⟨"StruckColoursModel", "remember", "([I)V"⟩, 41), (⟨"StruckColoursModel", "goFight", "([III)I"⟩, 41), (⟨"StruckColoursModel", "goDays", "([II)V"⟩, 41), (⟨"StruckColoursModel", "goDay", "([I)V"⟩, 41)]
theorem lw_r7 : ∀ q ∈ lw_privs_7, lw_okq q := List.forall_mem_cons.mpr ⟨lw_p96, List.forall_mem_cons.mpr ⟨lw_p97, List.forall_mem_cons.mpr ⟨lw_p98, List.forall_mem_cons.mpr ⟨lw_p99, List.forall_mem_cons.mpr ⟨lw_p100, List.forall_mem_cons.mpr ⟨lw_p101, List.forall_mem_cons.mpr ⟨lw_p102, List.forall_mem_cons.mpr ⟨lw_p103, List.forall_mem_cons.mpr ⟨lw_p104, List.forall_mem_cons.mpr ⟨lw_p105, List.forall_mem_cons.mpr ⟨lw_p106, List.forall_mem_cons.mpr ⟨lw_p107, List.forall_mem_cons.mpr ⟨lw_p108, List.forall_mem_cons.mpr ⟨lw_p109, List.forall_mem_cons.mpr ⟨lw_p110, List.forall_mem_cons.mpr ⟨lw_p111, fun _ h => absurd h List.not_mem_nil⟩⟩⟩⟩⟩⟩⟩⟩⟩⟩⟩⟩⟩⟩⟩⟩
theorem lw_p112 : lw_okq (⟨"StruckColoursModel", "mend", "([II)V"⟩, 41) := ⟨⟨by decide +kernel, by decide +kernel⟩, List.mem_of_getElem? (i := 1008) (by decide +kernel), List.mem_of_getElem? (i := 1305) (by decide +kernel), List.mem_of_getElem? (i := 1306) (by decide +kernel)⟩
theorem lw_p113 : lw_okq (⟨"StruckColoursModel", "partsOfAll", "([II)I"⟩, 41) := ⟨⟨by decide +kernel, by decide +kernel⟩, List.mem_of_getElem? (i := 1008) (by decide +kernel), List.mem_of_getElem? (i := 1309) (by decide +kernel), List.mem_of_getElem? (i := 1310) (by decide +kernel)⟩
theorem lw_p114 : lw_okq (⟨"StruckColoursModel", "tell", "(J)V"⟩, 41) := ⟨⟨by decide +kernel, by decide +kernel⟩, List.mem_of_getElem? (i := 1008) (by decide +kernel), List.mem_of_getElem? (i := 1313) (by decide +kernel), List.mem_of_getElem? (i := 1314) (by decide +kernel)⟩
theorem lw_p115 : lw_okq (⟨"StruckColoursModel", "refusesSewing", "([IIII)I"⟩, 41) := ⟨⟨by decide +kernel, by decide +kernel⟩, List.mem_of_getElem? (i := 1008) (by decide +kernel), List.mem_of_getElem? (i := 1321) (by decide +kernel), List.mem_of_getElem? (i := 1322) (by decide +kernel)⟩
theorem lw_p116 : lw_okq (⟨"StruckColoursModel", "refusesYielding", "(II)I"⟩, 41) := ⟨⟨by decide +kernel, by decide +kernel⟩, List.mem_of_getElem? (i := 1008) (by decide +kernel), List.mem_of_getElem? (i := 1335) (by decide +kernel), List.mem_of_getElem? (i := 1336) (by decide +kernel)⟩
theorem lw_p117 : lw_okq (⟨"StruckColoursModel", "goYielding", "(II)V"⟩, 41) := ⟨⟨by decide +kernel, by decide +kernel⟩, List.mem_of_getElem? (i := 1008) (by decide +kernel), List.mem_of_getElem? (i := 1339) (by decide +kernel), List.mem_of_getElem? (i := 1340) (by decide +kernel)⟩
theorem lw_p118 : lw_okq (⟨"StruckColoursModel", "readAct", "(I)V"⟩, 41) := ⟨⟨by decide +kernel, by decide +kernel⟩, List.mem_of_getElem? (i := 1008) (by decide +kernel), List.mem_of_getElem? (i := 1347) (by decide +kernel), List.mem_of_getElem? (i := 1348) (by decide +kernel)⟩
theorem lw_p119 : lw_okq (⟨"StruckColoursModel", "act", "(I)Z"⟩, 41) := ⟨⟨by decide +kernel, by decide +kernel⟩, List.mem_of_getElem? (i := 1008) (by decide +kernel), List.mem_of_getElem? (i := 1351) (by decide +kernel), List.mem_of_getElem? (i := 1352) (by decide +kernel)⟩
theorem lw_p120 : lw_okq (⟨"StruckColoursModel", "tellPart", "(JJ)V"⟩, 41) := ⟨⟨by decide +kernel, by decide +kernel⟩, List.mem_of_getElem? (i := 1008) (by decide +kernel), List.mem_of_getElem? (i := 1367) (by decide +kernel), List.mem_of_getElem? (i := 1368) (by decide +kernel)⟩
theorem lw_p121 : lw_okq (⟨"StruckColoursModel", "fewest", "(II)I"⟩, 41) := ⟨⟨by decide +kernel, by decide +kernel⟩, List.mem_of_getElem? (i := 1008) (by decide +kernel), List.mem_of_getElem? (i := 1423) (by decide +kernel), List.mem_of_getElem? (i := 1424) (by decide +kernel)⟩
theorem lw_p122 : lw_okq (⟨"StruckColoursModel", "canBe", "(IIII)Z"⟩, 41) := ⟨⟨by decide +kernel, by decide +kernel⟩, List.mem_of_getElem? (i := 1008) (by decide +kernel), List.mem_of_getElem? (i := 1427) (by decide +kernel), List.mem_of_getElem? (i := 1428) (by decide +kernel)⟩
theorem lw_p123 : lw_okq (⟨"StruckColoursModel", "layDeep", "(I)V"⟩, 41) := ⟨⟨by decide +kernel, by decide +kernel⟩, List.mem_of_getElem? (i := 1008) (by decide +kernel), List.mem_of_getElem? (i := 1431) (by decide +kernel), List.mem_of_getElem? (i := 1432) (by decide +kernel)⟩
theorem lw_p124 : lw_okq (⟨"StruckColoursModel", "isSo", "(II)Z"⟩, 41) := ⟨⟨by decide +kernel, by decide +kernel⟩, List.mem_of_getElem? (i := 1008) (by decide +kernel), List.mem_of_getElem? (i := 1435) (by decide +kernel), List.mem_of_getElem? (i := 1436) (by decide +kernel)⟩
theorem lw_p125 : lw_okq (⟨"StruckColoursModel", "goRound", "([I)V"⟩, 41) := ⟨⟨by decide +kernel, by decide +kernel⟩, List.mem_of_getElem? (i := 1008) (by decide +kernel), List.mem_of_getElem? (i := 1447) (by decide +kernel), List.mem_of_getElem? (i := 1448) (by decide +kernel)⟩
theorem lw_p126 : lw_okq (⟨"StruckColoursModel", "all", "()I"⟩, 41) := ⟨⟨by decide +kernel, by decide +kernel⟩, List.mem_of_getElem? (i := 1008) (by decide +kernel), List.mem_of_getElem? (i := 1455) (by decide +kernel), List.mem_of_getElem? (i := 1456) (by decide +kernel)⟩
theorem lw_p127 : lw_okq (⟨"StruckColoursModel", "strengthOf", "(I)I"⟩, 41) := ⟨⟨by decide +kernel, by decide +kernel⟩, List.mem_of_getElem? (i := 1008) (by decide +kernel), List.mem_of_getElem? (i := 1467) (by decide +kernel), List.mem_of_getElem? (i := 1468) (by decide +kernel)⟩
def lw_privs_8 : List (MethodName × Nat) := [(⟨"StruckColoursModel", "mend", "([II)V"⟩, 41), (⟨"StruckColoursModel", "partsOfAll", "([II)I"⟩, 41), (⟨"StruckColoursModel", "tell", "(J)V"⟩, 41), (⟨"StruckColoursModel", "refusesSewing", "([IIII)I"⟩, 41), (⟨"StruckColoursModel", "refusesYielding", "(II)I"⟩, 41), (⟨"StruckColoursModel", "goYielding", "(II)V"⟩, 41), (⟨"StruckColoursModel", "readAct", "(I)V"⟩, 41), (⟨"StruckColoursModel", "act", "(I)Z"⟩, 41), (⟨"StruckColoursModel", "tellPart", "(JJ)V"⟩, 41), (⟨"StruckColoursModel", "fewest", "(II)I"⟩, 41), (⟨"StruckColoursModel", "canBe", "(IIII)Z"⟩, 41), (⟨"StruckColoursModel", "layDeep", "(I)V"⟩, 41), (⟨"StruckColoursModel", "isSo", "(II)Z"⟩, 41), (⟨"StruckColoursModel", "goRound", "([I)V"⟩, 41), (⟨"StruckColoursModel", "all", "()I"⟩, 41), (⟨"StruckColoursModel", "strengthOf", "(I)I"⟩, 41)]
theorem lw_r8 : ∀ q ∈ lw_privs_8, lw_okq q := List.forall_mem_cons.mpr ⟨lw_p112, List.forall_mem_cons.mpr ⟨lw_p113, List.forall_mem_cons.mpr ⟨lw_p114, List.forall_mem_cons.mpr ⟨lw_p115, List.forall_mem_cons.mpr ⟨lw_p116, List.forall_mem_cons.mpr ⟨lw_p117, List.forall_mem_cons.mpr ⟨lw_p118, List.forall_mem_cons.mpr ⟨lw_p119, List.forall_mem_cons.mpr ⟨lw_p120, List.forall_mem_cons.mpr ⟨lw_p121, List.forall_mem_cons.mpr ⟨lw_p122, List.forall_mem_cons.mpr ⟨lw_p123, List.forall_mem_cons.mpr ⟨lw_p124, List.forall_mem_cons.mpr ⟨lw_p125, List.forall_mem_cons.mpr ⟨lw_p126, List.forall_mem_cons.mpr ⟨lw_p127, fun _ h => absurd h List.not_mem_nil⟩⟩⟩⟩⟩⟩⟩⟩⟩⟩⟩⟩⟩⟩⟩⟩
theorem lw_p128 : lw_okq (⟨"StruckColoursModel", "fitting", "()I"⟩, 41) := ⟨⟨by decide +kernel, by decide +kernel⟩, List.mem_of_getElem? (i := 1008) (by decide +kernel), List.mem_of_getElem? (i := 1494) (by decide +kernel), List.mem_of_getElem? (i := 1495) (by decide +kernel)⟩
theorem lw_p129 : lw_okq (⟨"StruckColoursModel", "fits", "(III)Z"⟩, 41) := ⟨⟨by decide +kernel, by decide +kernel⟩, List.mem_of_getElem? (i := 1008) (by decide +kernel), List.mem_of_getElem? (i := 1498) (by decide +kernel), List.mem_of_getElem? (i := 1499) (by decide +kernel)⟩
theorem lw_p130 : lw_okq (⟨"StruckColoursModel", "isLaw", "(II)Z"⟩, 41) := ⟨⟨by decide +kernel, by decide +kernel⟩, List.mem_of_getElem? (i := 1008) (by decide +kernel), List.mem_of_getElem? (i := 1518) (by decide +kernel), List.mem_of_getElem? (i := 1519) (by decide +kernel)⟩
theorem lw_p131 : lw_okq (⟨"StruckColoursModel", "leftBy", "(II)I"⟩, 41) := ⟨⟨by decide +kernel, by decide +kernel⟩, List.mem_of_getElem? (i := 1008) (by decide +kernel), List.mem_of_getElem? (i := 1529) (by decide +kernel), List.mem_of_getElem? (i := 1530) (by decide +kernel)⟩
theorem lw_p132 : lw_okq (⟨"StruckColoursModel", "bestMove", "(II)I"⟩, 41) := ⟨⟨by decide +kernel, by decide +kernel⟩, List.mem_of_getElem? (i := 1008) (by decide +kernel), List.mem_of_getElem? (i := 1537) (by decide +kernel), List.mem_of_getElem? (i := 1538) (by decide +kernel)⟩
theorem lw_p133 : lw_okq (⟨"StruckColoursModel", "isLost", "(II)Z"⟩, 41) := ⟨⟨by decide +kernel, by decide +kernel⟩, List.mem_of_getElem? (i := 1008) (by decide +kernel), List.mem_of_getElem? (i := 1541) (by decide +kernel), List.mem_of_getElem? (i := 1542) (by decide +kernel)⟩
theorem lw_p134 : lw_okq (⟨"StruckColoursModel", "lesserWins", "()I"⟩, 41) := ⟨⟨by decide +kernel, by decide +kernel⟩, List.mem_of_getElem? (i := 1008) (by decide +kernel), List.mem_of_getElem? (i := 1567) (by decide +kernel), List.mem_of_getElem? (i := 1568) (by decide +kernel)⟩
theorem lw_p135 : lw_okq (⟨"StruckColoursModel", "draw", "(I)I"⟩, 41) := ⟨⟨by decide +kernel, by decide +kernel⟩, List.mem_of_getElem? (i := 1008) (by decide +kernel), List.mem_of_getElem? (i := 1575) (by decide +kernel), List.mem_of_getElem? (i := 1576) (by decide +kernel)⟩
theorem lw_p136 : lw_okq (⟨"StruckColoursModel", "foreign", "()I"⟩, 41) := ⟨⟨by decide +kernel, by decide +kernel⟩, List.mem_of_getElem? (i := 1008) (by decide +kernel), List.mem_of_getElem? (i := 1592) (by decide +kernel), List.mem_of_getElem? (i := 1593) (by decide +kernel)⟩
theorem lw_p137 : lw_okq (⟨"StruckColoursModel", "wholes", "()I"⟩, 41) := ⟨⟨by decide +kernel, by decide +kernel⟩, List.mem_of_getElem? (i := 1008) (by decide +kernel), List.mem_of_getElem? (i := 1596) (by decide +kernel), List.mem_of_getElem? (i := 1597) (by decide +kernel)⟩
def lw_privs_9 : List (MethodName × Nat) := [(⟨"StruckColoursModel", "fitting", "()I"⟩, 41), (⟨"StruckColoursModel", "fits", "(III)Z"⟩, 41), (⟨"StruckColoursModel", "isLaw", "(II)Z"⟩, 41), (⟨"StruckColoursModel", "leftBy", "(II)I"⟩, 41), (⟨"StruckColoursModel", "bestMove", "(II)I"⟩, 41), (⟨"StruckColoursModel", "isLost", "(II)Z"⟩, 41), (⟨"StruckColoursModel", "lesserWins", "()I"⟩, 41), (⟨"StruckColoursModel", "draw", "(I)I"⟩, 41), (⟨"StruckColoursModel", "foreign", "()I"⟩, 41), (⟨"StruckColoursModel", "wholes", "()I"⟩, 41)]
theorem lw_r9 : ∀ q ∈ lw_privs_9, lw_okq q := List.forall_mem_cons.mpr ⟨lw_p128, List.forall_mem_cons.mpr ⟨lw_p129, List.forall_mem_cons.mpr ⟨lw_p130, List.forall_mem_cons.mpr ⟨lw_p131, List.forall_mem_cons.mpr ⟨lw_p132, List.forall_mem_cons.mpr ⟨lw_p133, List.forall_mem_cons.mpr ⟨lw_p134, List.forall_mem_cons.mpr ⟨lw_p135, List.forall_mem_cons.mpr ⟨lw_p136, List.forall_mem_cons.mpr ⟨lw_p137, fun _ h => absurd h List.not_mem_nil⟩⟩⟩⟩⟩⟩⟩⟩⟩⟩
def lw_privs : List (MethodName × Nat) := lw_privs_1 ++ (lw_privs_2 ++ (lw_privs_3 ++ (lw_privs_4 ++ (lw_privs_5 ++ (lw_privs_6 ++ (lw_privs_7 ++ (lw_privs_8 ++ (lw_privs_9))))))))
def lw_tbl : List Cond := k2_sels lw_privs ++ tables_1
theorem lw_privs_ok : ∀ q ∈ lw_privs, lw_okq q := by
  show ∀ q ∈ lw_privs_1 ++ (lw_privs_2 ++ (lw_privs_3 ++ (lw_privs_4 ++ (lw_privs_5 ++ (lw_privs_6 ++ (lw_privs_7 ++ (lw_privs_8 ++ (lw_privs_9)))))))), lw_okq q
  exact List.forall_mem_append.mpr ⟨lw_r1, List.forall_mem_append.mpr ⟨lw_r2, List.forall_mem_append.mpr ⟨lw_r3, List.forall_mem_append.mpr ⟨lw_r4, List.forall_mem_append.mpr ⟨lw_r5, List.forall_mem_append.mpr ⟨lw_r6, List.forall_mem_append.mpr ⟨lw_r7, List.forall_mem_append.mpr ⟨lw_r8, lw_r9⟩⟩⟩⟩⟩⟩⟩⟩
theorem goodIn_r {big : List Cond} (ws : List Cond) (ps : List Nat) (hp : ws = ps.filterMap (fun i => big[i]?)) (h : ws.all goodWord = true) : GoodIn big ws := by
  intro w hw
  have h1 := List.all_eq_true.mp h w hw
  rw [hp] at hw
  obtain ⟨i, -, hi⟩ := List.mem_filterMap.mp hw
  have hm : w ∈ big := by first | exact List.mem_of_getElem? hi | exact List.getElem?_mem hi
  exact ⟨hm, good_of_word h1⟩
theorem goodIn_app {big a b : List Cond} (ha : GoodIn big a) (hb : GoodIn big b) : GoodIn big (a ++ b) := fun w h => (List.mem_append.mp h).elim (ha w) (hb w)
theorem goodIn_ca {big a b : List Cond} {c : Cond} (ha : GoodIn big (c :: a)) (hb : GoodIn big b) : GoodIn big (c :: (a ++ b)) := fun w h => (List.mem_cons.mp h).elim (fun e => ha w (List.mem_cons.mpr (Or.inl e))) (fun h => (List.mem_append.mp h).elim (fun h => ha w (List.mem_cons.mpr (Or.inr h))) (hb w))
theorem goodIn_sub {big ws : List Cond} (hm : ∀ w ∈ ws, w ∈ big) (h : ws.all goodWord = true) : GoodIn big ws := fun w hw => ⟨hm w hw, good_of_word (List.all_eq_true.mp h w hw)⟩
def RX0 : String := "StruckColours$Laws"
def TX0 : u_T := fun k => match k with
  | 0 => ("StruckColours$Laws", "fitting", "[Z", true)
  | _ => ("StruckColours$Laws", "least", "I", false)
def tyX0 : Nat → FieldType := fun k => match k with
  | 0 => .array .boolean
  | _ => .int
theorem nmX0 : ∀ a, a < 2 → ∀ b, b < 2 → a ≠ b → (TX0 a).2.1 ≠ (TX0 b).2.1 := by decide +kernel
theorem tyX0_ok : ∀ k, k < 2 → parseFieldDescriptor (TX0 k).2.2.1 = some (tyX0 k) := by decide +kernel
def RX1 : String := "StruckColours$Notes"
def TX1 : u_T := fun k => match k with
  | 0 => ("StruckColours$Notes", "first", "[I", true)
  | 1 => ("StruckColours$Notes", "second", "[I", true)
  | 2 => ("StruckColours$Notes", "third", "[I", true)
  | _ => ("StruckColours$Notes", "size", "I", false)
def tyX1 : Nat → FieldType := fun k => match k with
  | 0 => .array .int
  | 1 => .array .int
  | 2 => .array .int
  | _ => .int
theorem nmX1 : ∀ a, a < 4 → ∀ b, b < 4 → a ≠ b → (TX1 a).2.1 ≠ (TX1 b).2.1 := by decide +kernel
theorem tyX1_ok : ∀ k, k < 4 → parseFieldDescriptor (TX1 k).2.2.1 = some (tyX1 k) := by decide +kernel
def RX2 : String := "StruckColours$Past"
def TX2 : u_T := fun k => match k with
  | 0 => ("StruckColours$Past", "seas", "[LStruckColours$Sea;", true)
  | 1 => ("StruckColours$Past", "first", "I", false)
  | _ => ("StruckColours$Past", "size", "I", false)
def tyX2 : Nat → FieldType := fun k => match k with
  | 0 => .array (.object "StruckColours$Sea")
  | 1 => .int
  | _ => .int
theorem nmX2 : ∀ a, a < 3 → ∀ b, b < 3 → a ≠ b → (TX2 a).2.1 ≠ (TX2 b).2.1 := by decide +kernel
theorem tyX2_ok : ∀ k, k < 3 → parseFieldDescriptor (TX2 k).2.2.1 = some (tyX2 k) := by decide +kernel
def RX3 : String := "StruckColours$Row"
def TX3 : u_T := fun k => match k with
  | 0 => ("StruckColours$Row", "told", "[J", true)
  | _ => ("StruckColours$Row", "size", "I", false)
def tyX3 : Nat → FieldType := fun k => match k with
  | 0 => .array .long
  | _ => .int
theorem nmX3 : ∀ a, a < 2 → ∀ b, b < 2 → a ≠ b → (TX3 a).2.1 ≠ (TX3 b).2.1 := by decide +kernel
theorem tyX3_ok : ∀ k, k < 2 → parseFieldDescriptor (TX3 k).2.2.1 = some (tyX3 k) := by decide +kernel
def RX4 : String := "StruckColours$Rule"
def TX4 : u_T := fun k => match k with
  | 0 => ("StruckColours$Rule", "code", "[I", true)
  | 1 => ("StruckColours$Rule", "waiting", "[C", true)
  | 2 => ("StruckColours$Rule", "values", "[I", true)
  | 3 => ("StruckColours$Rule", "size", "I", false)
  | 4 => ("StruckColours$Rule", "waits", "I", false)
  | 5 => ("StruckColours$Rule", "depth", "I", false)
  | 6 => ("StruckColours$Rule", "compared", "I", false)
  | 7 => ("StruckColours$Rule", "digits", "I", false)
  | _ => ("StruckColours$Rule", "open", "Z", false)
def tyX4 : Nat → FieldType := fun k => match k with
  | 0 => .array .int
  | 1 => .array .char
  | 2 => .array .int
  | 3 => .int
  | 4 => .int
  | 5 => .int
  | 6 => .int
  | 7 => .int
  | _ => .boolean
theorem nmX4 : ∀ a, a < 9 → ∀ b, b < 9 → a ≠ b → (TX4 a).2.1 ≠ (TX4 b).2.1 := by decide +kernel
theorem tyX4_ok : ∀ k, k < 9 → parseFieldDescriptor (TX4 k).2.2.1 = some (tyX4 k) := by decide +kernel
def RX5 : String := "StruckColours$Sea"
def TX5 : u_T := fun k => match k with
  | 0 => ("StruckColours$Sea", "size", "I", false)
  | 1 => ("StruckColours$Sea", "day", "I", false)
  | 2 => ("StruckColours$Sea", "overs", "I", false)
  | 3 => ("StruckColours$Sea", "might", "[I", true)
  | 4 => ("StruckColours$Sea", "strength", "[I", true)
  | 5 => ("StruckColours$Sea", "side", "[I", true)
  | 6 => ("StruckColours$Sea", "won", "[I", true)
  | 7 => ("StruckColours$Sea", "lost", "[I", true)
  | _ => ("StruckColours$Sea", "flags", "[I", true)
def tyX5 : Nat → FieldType := fun k => match k with
  | 0 => .int
  | 1 => .int
  | 2 => .int
  | 3 => .array .int
  | 4 => .array .int
  | 5 => .array .int
  | 6 => .array .int
  | 7 => .array .int
  | _ => .array .int
theorem nmX5 : ∀ a, a < 9 → ∀ b, b < 9 → a ≠ b → (TX5 a).2.1 ≠ (TX5 b).2.1 := by decide +kernel
theorem tyX5_ok : ∀ k, k < 9 → parseFieldDescriptor (TX5 k).2.2.1 = some (tyX5 k) := by decide +kernel
def RX6 : String := "StruckColours$Search"
def TX6 : u_T := fun k => match k with
  | 0 => ("StruckColours$Search", "levels", "[LStruckColours$Sea;", true)
  | 1 => ("StruckColours$Search", "steps", "[I", true)
  | 2 => ("StruckColours$Search", "rule", "LStruckColours$Rule;", false)
  | 3 => ("StruckColours$Search", "take", "I", false)
  | 4 => ("StruckColours$Search", "ship", "I", false)
  | _ => ("StruckColours$Search", "side", "I", false)
def tyX6 : Nat → FieldType := fun k => match k with
  | 0 => .array (.object "StruckColours$Sea")
  | 1 => .array .int
  | 2 => .object "StruckColours$Rule"
  | 3 => .int
  | 4 => .int
  | _ => .int
theorem nmX6 : ∀ a, a < 6 → ∀ b, b < 6 → a ≠ b → (TX6 a).2.1 ≠ (TX6 b).2.1 := by decide +kernel
theorem tyX6_ok : ∀ k, k < 6 → parseFieldDescriptor (TX6 k).2.2.1 = some (tyX6 k) := by decide +kernel
def RX7 : String := "StruckColours$Text"
def TX7 : u_T := fun k => match k with
  | 0 => ("StruckColours$Text", "signs", "[C", true)
  | _ => ("StruckColours$Text", "length", "I", false)
def tyX7 : Nat → FieldType := fun k => match k with
  | 0 => .array .char
  | _ => .int
theorem nmX7 : ∀ a, a < 2 → ∀ b, b < 2 → a ≠ b → (TX7 a).2.1 ≠ (TX7 b).2.1 := by decide +kernel
theorem tyX7_ok : ∀ k, k < 2 → parseFieldDescriptor (TX7 k).2.2.1 = some (tyX7 k) := by decide +kernel
def RX8 : String := "StruckColours"
def TX8 : u_T := fun k => match k with
  | 0 => ("StruckColours", "text", "LStruckColours$Text;", true)
  | 1 => ("StruckColours", "numbers", "LStruckColours$Row;", true)
  | 2 => ("StruckColours", "sea", "LStruckColours$Sea;", true)
  | 3 => ("StruckColours", "ahead", "LStruckColours$Sea;", true)
  | 4 => ("StruckColours", "trial", "LStruckColours$Sea;", true)
  | 5 => ("StruckColours", "past", "LStruckColours$Past;", true)
  | 6 => ("StruckColours", "keptFirst", "LStruckColours$Sea;", true)
  | 7 => ("StruckColours", "keptSecond", "LStruckColours$Sea;", true)
  | 8 => ("StruckColours", "search", "LStruckColours$Search;", true)
  | 9 => ("StruckColours", "sights", "LStruckColours$Notes;", true)
  | 10 => ("StruckColours", "tales", "LStruckColours$Notes;", true)
  | 11 => ("StruckColours", "lawful", "LStruckColours$Laws;", true)
  | 12 => ("StruckColours", "rule", "LStruckColours$Rule;", false)
  | 13 => ("StruckColours", "otherRule", "LStruckColours$Rule;", false)
  | 14 => ("StruckColours", "taken", "I", false)
  | 15 => ("StruckColours", "keptBits", "I", false)
  | _ => ("StruckColours", "drawn", "I", false)
def tyX8 : Nat → FieldType := fun k => match k with
  | 0 => .object "StruckColours$Text"
  | 1 => .object "StruckColours$Row"
  | 2 => .object "StruckColours$Sea"
  | 3 => .object "StruckColours$Sea"
  | 4 => .object "StruckColours$Sea"
  | 5 => .object "StruckColours$Past"
  | 6 => .object "StruckColours$Sea"
  | 7 => .object "StruckColours$Sea"
  | 8 => .object "StruckColours$Search"
  | 9 => .object "StruckColours$Notes"
  | 10 => .object "StruckColours$Notes"
  | 11 => .object "StruckColours$Laws"
  | 12 => .object "StruckColours$Rule"
  | 13 => .object "StruckColours$Rule"
  | 14 => .int
  | 15 => .int
  | _ => .int
theorem nmX8 : ∀ a, a < 17 → ∀ b, b < 17 → a ≠ b → (TX8 a).2.1 ≠ (TX8 b).2.1 := by decide +kernel
theorem tyX8_ok : ∀ k, k < 17 → parseFieldDescriptor (TX8 k).2.2.1 = some (tyX8 k) := by decide +kernel
def RX9 : String := "StruckColoursModel"
def TX9 : u_T := fun k => match k with
  | 0 => ("StruckColoursModel", "now", "[I", true)
  | 1 => ("StruckColoursModel", "ships", "I", false)
  | 2 => ("StruckColoursModel", "take", "I", false)
  | 3 => ("StruckColoursModel", "might", "[I", true)
  | 4 => ("StruckColoursModel", "text", "[B", true)
  | 5 => ("StruckColoursModel", "typed", "I", false)
  | 6 => ("StruckColoursModel", "row", "[J", true)
  | 7 => ("StruckColoursModel", "rowMany", "I", false)
  | 8 => ("StruckColoursModel", "thrown", "I", false)
  | 9 => ("StruckColoursModel", "read", "[B", false)
  | 10 => ("StruckColoursModel", "length", "I", false)
  | 11 => ("StruckColoursModel", "top", "I", false)
  | 12 => ("StruckColoursModel", "at", "I", false)
  | 13 => ("StruckColoursModel", "wrong", "I", false)
  | 14 => ("StruckColoursModel", "comes", "[I", true)
  | 15 => ("StruckColoursModel", "rule", "[B", false)
  | 16 => ("StruckColoursModel", "otherRule", "[B", false)
  | 17 => ("StruckColoursModel", "ruleSize", "I", false)
  | 18 => ("StruckColoursModel", "isAsked", "Z", false)
  | 19 => ("StruckColoursModel", "asked", "[I", true)
  | 20 => ("StruckColoursModel", "undos", "[I", true)
  | 21 => ("StruckColoursModel", "undoMany", "I", false)
  | 22 => ("StruckColoursModel", "aside", "[I", true)
  | 23 => ("StruckColoursModel", "then", "[I", true)
  | 24 => ("StruckColoursModel", "acts", "[I", true)
  | 25 => ("StruckColoursModel", "deep", "[I", true)
  | 26 => ("StruckColoursModel", "line", "[I", true)
  | 27 => ("StruckColoursModel", "spot", "[I", true)
  | 28 => ("StruckColoursModel", "seenOf", "[I", true)
  | 29 => ("StruckColoursModel", "seenBy", "[I", true)
  | 30 => ("StruckColoursModel", "seenMany", "I", false)
  | 31 => ("StruckColoursModel", "toldOwn", "[I", true)
  | 32 => ("StruckColoursModel", "toldOther", "[I", true)
  | 33 => ("StruckColoursModel", "toldBits", "I", false)
  | 34 => ("StruckColoursModel", "toldMany", "I", false)
  | 35 => ("StruckColoursModel", "loses", "[Z", true)
  | 36 => ("StruckColoursModel", "drawn", "I", false)
  | 37 => ("StruckColoursModel", "came", "I", false)
  | 38 => ("StruckColoursModel", "kept", "[I", true)
  | 39 => ("StruckColoursModel", "isKept", "[Z", true)
  | _ => ("StruckColoursModel", "keptCame", "[I", true)
def tyX9 : Nat → FieldType := fun k => match k with
  | 0 => .array .int
  | 1 => .int
  | 2 => .int
  | 3 => .array .int
  | 4 => .array .byte
  | 5 => .int
  | 6 => .array .long
  | 7 => .int
  | 8 => .int
  | 9 => .array .byte
  | 10 => .int
  | 11 => .int
  | 12 => .int
  | 13 => .int
  | 14 => .array .int
  | 15 => .array .byte
  | 16 => .array .byte
  | 17 => .int
  | 18 => .boolean
  | 19 => .array .int
  | 20 => .array .int
  | 21 => .int
  | 22 => .array .int
  | 23 => .array .int
  | 24 => .array .int
  | 25 => .array .int
  | 26 => .array .int
  | 27 => .array .int
  | 28 => .array .int
  | 29 => .array .int
  | 30 => .int
  | 31 => .array .int
  | 32 => .array .int
  | 33 => .int
  | 34 => .int
  | 35 => .array .boolean
  | 36 => .int
  | 37 => .int
  | 38 => .array .int
  | 39 => .array .boolean
  | _ => .array .int
theorem nmX9 : ∀ a, a < 41 → ∀ b, b < 41 → a ≠ b → (TX9 a).2.1 ≠ (TX9 b).2.1 := by decide +kernel
theorem tyX9_ok : ∀ k, k < 41 → parseFieldDescriptor (TX9 k).2.2.1 = some (tyX9 k) := by decide +kernel
abbrev vwCl : List vw_C := [(RX0, TX0, 2), (RX1, TX1, 4), (RX2, TX2, 3), (RX3, TX3, 2), (RX4, TX4, 9), (RX5, TX5, 9), (RX6, TX6, 6), (RX7, TX7, 2), (RX8, TX8, 17), (RX9, TX9, 41)]
end
section
/-! numbers: a Java int is an Int within its bounds -/
theorem w32_ex : ∃ f : Int → Int, ∀ x, f x = (x + 2147483648) % 4294967296 - 2147483648 := ⟨_, fun _ => rfl⟩
/-- kept opaque: the kernel is never to unfold it over a number that it doesn't know -/
noncomputable def w32 : Int → Int := Classical.choose w32_ex
theorem w32_eq (x : Int) : w32 x = (x + 2147483648) % 4294967296 - 2147483648 := Classical.choose_spec w32_ex x
theorem w64_ex : ∃ f : Int → Int, ∀ x, f x = (x + 9223372036854775808) % 18446744073709551616 - 9223372036854775808 := ⟨_, fun _ => rfl⟩
noncomputable def w64 : Int → Int := Classical.choose w64_ex
theorem w64_eq (x : Int) : w64 x = (x + 9223372036854775808) % 18446744073709551616 - 9223372036854775808 := Classical.choose_spec w64_ex x
def b32 (x : Int) : Prop := -2147483648 ≤ x ∧ x < 2147483648
def b64 (x : Int) : Prop := -9223372036854775808 ≤ x ∧ x < 9223372036854775808
theorem w32_b (x : Int) : b32 (w32 x) := by unfold b32; rw [w32_eq]; omega
theorem w64_b (x : Int) : b64 (w64 x) := by unfold b64; rw [w64_eq]; omega
theorem w32_id {x : Int} (h1 : -2147483648 ≤ x) (h2 : x < 2147483648) : w32 x = x := by rw [w32_eq]; omega
theorem w64_id {x : Int} (h1 : -9223372036854775808 ≤ x) (h2 : x < 9223372036854775808) : w64 x = x := by rw [w64_eq]; omega
theorem w32_bmod (x : Int) : w32 x = x.bmod 4294967296 := by
  rw [w32_eq, Int.bmod_def]
  split <;> omega
theorem w64_bmod (x : Int) : w64 x = x.bmod 18446744073709551616 := by
  rw [w64_eq, Int.bmod_def]
  split <;> omega
theorem to_of {x : Int} (h : b32 x) : (Int32.ofInt x).toInt = x := Int32.toInt_ofInt_of_le h.1 h.2
theorem to_of64 {x : Int} (h : b64 x) : (Int64.ofInt x).toInt = x := Int64.toInt_ofInt_of_le h.1 h.2
theorem toI_b (x : Int32) : b32 x.toInt := ⟨x.le_toInt, x.toInt_lt⟩
theorem toI_b64 (x : Int64) : b64 x.toInt := ⟨x.le_toInt, x.toInt_lt⟩
theorem of_w32 (x : Int) : Int32.ofInt (w32 x) = Int32.ofInt x := by
  apply Int32.toInt_inj.mp
  rw [to_of (w32_b x), Int32.toInt_ofInt, w32_bmod]
theorem of_w64 (x : Int) : Int64.ofInt (w64 x) = Int64.ofInt x := by
  apply Int64.toInt_inj.mp
  rw [to_of64 (w64_b x), Int64.toInt_ofInt, w64_bmod]
theorem of_eq {x : Int} {v : Int32} (h : v.toInt = x) : v = Int32.ofInt x := by rw [← h, Int32.ofInt_toInt]
theorem of_eq64 {x : Int} {v : Int64} (h : v.toInt = x) : v = Int64.ofInt x := by rw [← h, Int64.ofInt_toInt]
theorem eq_of {x y : Int} (hx : b32 x) (hy : b32 y) : Int32.ofInt x = Int32.ofInt y ↔ x = y := by rw [← Int32.toInt_inj, to_of hx, to_of hy]
theorem lt_of {x y : Int} (hx : b32 x) (hy : b32 y) : Int32.ofInt x < Int32.ofInt y ↔ x < y := by rw [Int32.lt_iff_toInt_lt, to_of hx, to_of hy]
theorem le_of {x y : Int} (hx : b32 x) (hy : b32 y) : Int32.ofInt x ≤ Int32.ofInt y ↔ x ≤ y := by rw [Int32.le_iff_toInt_le, to_of hx, to_of hy]
theorem b32_0 : b32 0 := by unfold b32; omega
theorem of_0 : Int32.ofInt 0 = 0 := rfl
theorem of_add (x y : Int) : Int32.ofInt x + Int32.ofInt y = Int32.ofInt (w32 (x + y)) := by rw [of_w32, Int32.ofInt_add]
theorem of_sub (x y : Int) : Int32.ofInt x - Int32.ofInt y = Int32.ofInt (w32 (x - y)) := by rw [of_w32, Int32.ofInt_sub]
theorem of_mul (x y : Int) : Int32.ofInt x * Int32.ofInt y = Int32.ofInt (w32 (x * y)) := by rw [of_w32, Int32.ofInt_mul]
theorem of_neg (x : Int) : -Int32.ofInt x = Int32.ofInt (w32 (-x)) := by rw [of_w32, Int32.ofInt_neg]
theorem of_add64 (x y : Int) : Int64.ofInt x + Int64.ofInt y = Int64.ofInt (w64 (x + y)) := by rw [of_w64, Int64.ofInt_add]
theorem of_sub64 (x y : Int) : Int64.ofInt x - Int64.ofInt y = Int64.ofInt (w64 (x - y)) := by rw [of_w64, Int64.ofInt_sub]
theorem of_mul64 (x y : Int) : Int64.ofInt x * Int64.ofInt y = Int64.ofInt (w64 (x * y)) := by rw [of_w64, Int64.ofInt_mul]
theorem of_div {x y : Int} (hx : b32 x) (hy : b32 y) : Int32.ofInt x / Int32.ofInt y = Int32.ofInt (w32 (x.tdiv y)) := by
  rw [of_w32]
  apply Int32.toInt_inj.mp
  rw [Int32.toInt_div, to_of hx, to_of hy, Int32.toInt_ofInt]
theorem of_div64 {x y : Int} (hx : b64 x) (hy : b64 y) : Int64.ofInt x / Int64.ofInt y = Int64.ofInt (w64 (x.tdiv y)) := by
  rw [of_w64]
  apply Int64.toInt_inj.mp
  rw [Int64.toInt_div, to_of64 hx, to_of64 hy, Int64.toInt_ofInt]
theorem tmod_lt (x y : Int) : x.tmod y = x - x.tdiv y * y := by
  rw [Int.tmod_def, Int.mul_comm]
theorem of_rem {x y : Int} (hx : b32 x) (hy : b32 y) : Int32.ofInt x - Int32.ofInt x / Int32.ofInt y * Int32.ofInt y = Int32.ofInt (w32 (x.tmod y)) := by
  rw [of_div hx hy, of_w32, of_w32, tmod_lt, Int32.ofInt_sub, Int32.ofInt_mul]
theorem of_rem64 {x y : Int} (hx : b64 x) (hy : b64 y) : Int64.ofInt x - Int64.ofInt x / Int64.ofInt y * Int64.ofInt y = Int64.ofInt (w64 (x.tmod y)) := by
  rw [of_div64 hx hy, of_w64, of_w64, tmod_lt, Int64.ofInt_sub, Int64.ofInt_mul]
/-! bits -/
theorem iand_ex : ∃ f : Int → Int → Int, ∀ x y, f x y = (Int32.ofInt x &&& Int32.ofInt y).toInt := ⟨_, fun _ _ => rfl⟩
noncomputable def iand : Int → Int → Int := Classical.choose iand_ex
theorem iand_eq (x y : Int) : iand x y = (Int32.ofInt x &&& Int32.ofInt y).toInt := Classical.choose_spec iand_ex x y
theorem iand_b (x y : Int) : b32 (iand x y) := by rw [iand_eq]; exact toI_b _
theorem of_iand (x y : Int) : (Int32.ofInt x &&& Int32.ofInt y) = Int32.ofInt (iand x y) := of_eq (iand_eq x y).symm
theorem ior_ex : ∃ f : Int → Int → Int, ∀ x y, f x y = (Int32.ofInt x ||| Int32.ofInt y).toInt := ⟨_, fun _ _ => rfl⟩
noncomputable def ior : Int → Int → Int := Classical.choose ior_ex
theorem ior_eq (x y : Int) : ior x y = (Int32.ofInt x ||| Int32.ofInt y).toInt := Classical.choose_spec ior_ex x y
theorem ior_b (x y : Int) : b32 (ior x y) := by rw [ior_eq]; exact toI_b _
theorem of_ior (x y : Int) : (Int32.ofInt x ||| Int32.ofInt y) = Int32.ofInt (ior x y) := of_eq (ior_eq x y).symm
theorem ixor_ex : ∃ f : Int → Int → Int, ∀ x y, f x y = (Int32.ofInt x ^^^ Int32.ofInt y).toInt := ⟨_, fun _ _ => rfl⟩
noncomputable def ixor : Int → Int → Int := Classical.choose ixor_ex
theorem ixor_eq (x y : Int) : ixor x y = (Int32.ofInt x ^^^ Int32.ofInt y).toInt := Classical.choose_spec ixor_ex x y
theorem ixor_b (x y : Int) : b32 (ixor x y) := by rw [ixor_eq]; exact toI_b _
theorem of_ixor (x y : Int) : (Int32.ofInt x ^^^ Int32.ofInt y) = Int32.ofInt (ixor x y) := of_eq (ixor_eq x y).symm
theorem ishl_ex : ∃ f : Int → Int → Int, ∀ x y, f x y = (Int32.ofInt x <<< (Int32.ofInt y &&& 31)).toInt := ⟨_, fun _ _ => rfl⟩
noncomputable def ishl : Int → Int → Int := Classical.choose ishl_ex
theorem ishl_eq (x y : Int) : ishl x y = (Int32.ofInt x <<< (Int32.ofInt y &&& 31)).toInt := Classical.choose_spec ishl_ex x y
theorem ishl_b (x y : Int) : b32 (ishl x y) := by rw [ishl_eq]; exact toI_b _
theorem of_ishl (x y : Int) : (Int32.ofInt x <<< (Int32.ofInt y &&& 31)) = Int32.ofInt (ishl x y) := of_eq (ishl_eq x y).symm
theorem ishr_ex : ∃ f : Int → Int → Int, ∀ x y, f x y = (Int32.ofInt x >>> (Int32.ofInt y &&& 31)).toInt := ⟨_, fun _ _ => rfl⟩
noncomputable def ishr : Int → Int → Int := Classical.choose ishr_ex
theorem ishr_eq (x y : Int) : ishr x y = (Int32.ofInt x >>> (Int32.ofInt y &&& 31)).toInt := Classical.choose_spec ishr_ex x y
theorem ishr_b (x y : Int) : b32 (ishr x y) := by rw [ishr_eq]; exact toI_b _
theorem of_ishr (x y : Int) : (Int32.ofInt x >>> (Int32.ofInt y &&& 31)) = Int32.ofInt (ishr x y) := of_eq (ishr_eq x y).symm
theorem iushr_ex : ∃ f : Int → Int → Int, ∀ x y, f x y = ((Int32.ofInt x).toUInt32 >>> ((Int32.ofInt y).toUInt32 &&& Int32.toUInt32 31)).toInt32.toInt := ⟨_, fun _ _ => rfl⟩
noncomputable def iushr : Int → Int → Int := Classical.choose iushr_ex
theorem iushr_eq (x y : Int) : iushr x y = ((Int32.ofInt x).toUInt32 >>> ((Int32.ofInt y).toUInt32 &&& Int32.toUInt32 31)).toInt32.toInt := Classical.choose_spec iushr_ex x y
theorem iushr_b (x y : Int) : b32 (iushr x y) := by rw [iushr_eq]; exact toI_b _
theorem of_iushr (x y : Int) : ((Int32.ofInt x).toUInt32 >>> ((Int32.ofInt y).toUInt32 &&& Int32.toUInt32 31)).toInt32 = Int32.ofInt (iushr x y) := of_eq (iushr_eq x y).symm
theorem i8_ex : ∃ f : Int → Int, ∀ x, f x = (Int32.ofInt x).toInt8.toInt32.toInt := ⟨_, fun _ => rfl⟩
noncomputable def i8 : Int → Int := Classical.choose i8_ex
theorem i8_eq (x : Int) : i8 x = (Int32.ofInt x).toInt8.toInt32.toInt := Classical.choose_spec i8_ex x
theorem i8_b (x : Int) : b32 (i8 x) := by rw [i8_eq]; exact toI_b _
theorem of_i8 (x : Int) : (Int32.ofInt x).toInt8.toInt32 = Int32.ofInt (i8 x) := of_eq (i8_eq x).symm
theorem i16_ex : ∃ f : Int → Int, ∀ x, f x = (Int32.ofInt x).toInt16.toInt32.toInt := ⟨_, fun _ => rfl⟩
noncomputable def i16 : Int → Int := Classical.choose i16_ex
theorem i16_eq (x : Int) : i16 x = (Int32.ofInt x).toInt16.toInt32.toInt := Classical.choose_spec i16_ex x
theorem i16_b (x : Int) : b32 (i16 x) := by rw [i16_eq]; exact toI_b _
theorem of_i16 (x : Int) : (Int32.ofInt x).toInt16.toInt32 = Int32.ofInt (i16 x) := of_eq (i16_eq x).symm
theorem iu16_ex : ∃ f : Int → Int, ∀ x, f x = ((Int32.ofInt x).toUInt32 % 65536).toInt32.toInt := ⟨_, fun _ => rfl⟩
noncomputable def iu16 : Int → Int := Classical.choose iu16_ex
theorem iu16_eq (x : Int) : iu16 x = ((Int32.ofInt x).toUInt32 % 65536).toInt32.toInt := Classical.choose_spec iu16_ex x
theorem iu16_b (x : Int) : b32 (iu16 x) := by rw [iu16_eq]; exact toI_b _
theorem of_iu16 (x : Int) : ((Int32.ofInt x).toUInt32 % 65536).toInt32 = Int32.ofInt (iu16 x) := of_eq (iu16_eq x).symm
theorem ich_ex : ∃ f : Int → Int, ∀ x, f x = (Int32.ofInt x).toUInt32.toUInt16.toUInt32.toInt32.toInt := ⟨_, fun _ => rfl⟩
noncomputable def ich : Int → Int := Classical.choose ich_ex
theorem ich_eq (x : Int) : ich x = (Int32.ofInt x).toUInt32.toUInt16.toUInt32.toInt32.toInt := Classical.choose_spec ich_ex x
theorem ich_b (x : Int) : b32 (ich x) := by rw [ich_eq]; exact toI_b _
theorem of_ich (x : Int) : (Int32.ofInt x).toUInt32.toUInt16.toUInt32.toInt32 = Int32.ofInt (ich x) := of_eq (ich_eq x).symm
theorem i1_ex : ∃ f : Int → Int, ∀ x, f x = (Int32.ofInt x &&& 1).toInt := ⟨_, fun _ => rfl⟩
noncomputable def i1 : Int → Int := Classical.choose i1_ex
theorem i1_eq (x : Int) : i1 x = (Int32.ofInt x &&& 1).toInt := Classical.choose_spec i1_ex x
theorem i1_b (x : Int) : b32 (i1 x) := by rw [i1_eq]; exact toI_b _
theorem of_i1 (x : Int) : (Int32.ofInt x &&& 1) = Int32.ofInt (i1 x) := of_eq (i1_eq x).symm
def icmp (x y : Int) : Int := if y < x then 1 else if x = y then 0 else -1
theorem of_cmp {x y : Int} (hx : b64 x) (hy : b64 y) : lg_cmp (Int64.ofInt x) (Int64.ofInt y) = Int32.ofInt (icmp x y) := by
  have h1 : (Int64.ofInt x > Int64.ofInt y) ↔ y < x := by
    show Int64.ofInt y < Int64.ofInt x ↔ _
    rw [Int64.lt_iff_toInt_lt, to_of64 hx, to_of64 hy]
  have h2 : (Int64.ofInt x = Int64.ofInt y) ↔ x = y := by rw [← Int64.toInt_inj, to_of64 hx, to_of64 hy]
  unfold lg_cmp icmp
  by_cases q1 : y < x
  · rw [if_pos (h1.mpr q1), if_pos q1]; rfl
  · rw [if_neg (fun z => q1 (h1.mp z)), if_neg q1]
    by_cases q2 : x = y
    · rw [if_pos (h2.mpr q2), if_pos q2]; rfl
    · rw [if_neg (fun z => q2 (h2.mp z)), if_neg q2]; rfl
theorem icmp_b (x y : Int) : b32 (icmp x y) := by
  unfold icmp b32
  split
  · omega
  · split <;> omega
theorem of_i2l {x : Int} (hx : b32 x) : (Int32.ofInt x).toInt64 = Int64.ofInt x := of_eq64 (by rw [Int32.toInt_toInt64, to_of hx])
theorem b64_of {x : Int} (hx : b32 x) : b64 x := by unfold b32 at hx; unfold b64; omega
/-! an index within an array -/
theorem in_of {i : Int} {n : Nat} (h0 : 0 ≤ i) (h1 : i < n) (hb : b32 i) : vp_in (Int32.ofInt i) n := vp_in_iff.mpr (by rw [to_of hb]; exact ⟨h0, h1⟩)
theorem clamp_of' {i : Int} (hb : b32 i) : (Int32.ofInt i).toNatClampNeg = i.toNat := Int32.toNatClampNeg_ofInt_of_le hb.1 hb.2
end
section
/-! the world: numbered objects (their shapes: tau), what they hold (a number for an object and a place) -/
abbrev TV : Type := Int ⊕ Int ⊕ Int
abbrev vI (x : Int) : TV := .inl x
abbrev vL (x : Int) : TV := .inr (.inl x)
abbrev vR (x : Int) : TV := .inr (.inr x)
abbrev Mem : Type := Int → Int → Int
abbrev Shp : Type := (Nat × (Nat → Int)) ⊕ (Nat × Nat)
abbrev Tau : Type := List Shp
/-- exactly full; the first address; the classes; the array classes; the static arrays' addresses; the script -/
abbrev GE : Type := Bool × Nat × va_G × (Nat → ClassId) × (Nat → Nat) × Nat × (Nat → Int)
abbrev gB (g : GE) : Bool := g.1
abbrev gO (g : GE) : Nat := g.2.1
abbrev gD (g : GE) : va_G := g.2.2.1
abbrev gC (g : GE) : Nat → ClassId := g.2.2.2.1
abbrev gS (g : GE) : Nat → Nat := g.2.2.2.2.1
abbrev gL (g : GE) : Nat := g.2.2.2.2.2.1
abbrev gX (g : GE) : Nat → Int := g.2.2.2.2.2.2
def rf (g : GE) (x : Int) : Value := if 0 ≤ x then .ref (gO g + x.toNat) else if x = -1 then .null else .ref (gS g (-x).toNat)
def rfo (g : GE) (x : Int) : Option Nat := if 0 ≤ x then some (gO g + x.toNat) else none
def cv (g : GE) (v : TV) : Value := match v with
  | .inl x => .int (Int32.ofInt x)
  | .inr (.inl x) => .long (Int64.ofInt x)
  | .inr (.inr x) => rf g x
def okT (v : TV) : Prop := match v with
  | .inl x => b32 x
  | .inr (.inl x) => b64 x
  | .inr (.inr _) => True
def catT (v : TV) : Nat := match v with
  | .inr (.inl _) => 2
  | _ => 1
/-- kinds of fields: 0 int, 1 boolean, 2 a reference, 3 a final reference -/
def fkL : List (List Nat) := [[3, 0], [3, 3, 3, 0], [3, 0, 0], [3, 0], [3, 3, 3, 0, 0, 0, 0, 0, 1], [0, 0, 0, 3, 3, 3, 3, 3, 3], [3, 3, 2, 0, 0, 0], [3, 0], [3, 3, 3, 3, 3, 3, 3, 3, 3, 3, 3, 3, 2, 2, 0, 0, 0], [3, 0, 0, 3, 3, 0, 3, 0, 0, 2, 0, 0, 0, 0, 3, 2, 2, 0, 1, 3, 3, 0, 3, 3, 3, 3, 3, 3, 3, 3, 0, 3, 3, 0, 0, 3, 0, 0, 3, 3, 3]]
def fldE (g : GE) (ci : Nat) (fin : Nat → Int) (s : Int → Int) : List Value := (fkL.getD ci []).mapIdx fun j kd => if kd ≤ 1 then .int (Int32.ofInt (s j)) else if kd = 2 then rf g (s j) else rf g (fin j)
def arrE (g : GE) (ty : Nat) (s : Int → Int) : (Nat → Int32) ⊕ (Nat → Int64) ⊕ (Nat → UInt32) ⊕ (Nat → UInt64) ⊕ (Nat → Option Nat) :=
  if ty = 1 then .inr (.inl fun j => Int64.ofInt (s j)) else if ty = 5 then .inr (.inr (.inr (.inr fun j => rfo g (s j)))) else .inl fun j => Int32.ofInt (s j)
def cellE (g : GE) (sh : Shp) (s : Int → Int) : va_E := match sh with
  | .inl (ci, fin) => .inr (ci, fldE g ci fin s)
  | .inr (ty, n) => .inl (gC g ty, n, arrE g ty s)
def world (g : GE) (t : Tau) (s : Mem) : va_W := t.mapIdx fun k sh => (gO g + k, cellE g sh (s k))
def okS (sh : Shp) (j : Nat) (x : Int) : Prop := match sh with
  | .inl (ci, _) => (∀ kd, (fkL.getD ci [])[j]? = some kd → kd ≤ 1 → b32 x)
  | .inr (ty, _) => if ty = 1 then b64 x else if ty = 5 then -1 ≤ x else b32 x
def MemOk (t : Tau) (s : Mem) : Prop := ∀ (k : Nat) (sh : Shp), t[k]? = some sh → ∀ j : Nat, okS sh j (s k j)
def tyF (ty : Nat) : FieldType := match ty with
  | 0 => .int
  | 1 => .long
  | 2 => .byte
  | 3 => .boolean
  | 4 => .char
  | _ => .object "StruckColours$Sea"
def tyL (g : GE) : List (ClassId × FieldType) := [(gC g 0, .int), (gC g 1, .long), (gC g 2, .byte), (gC g 3, .boolean), (gC g 4, .char), (gC g 5, .object "StruckColours$Sea")]
theorem tyL_at (g : GE) {ty : Nat} (h : ty ≤ 5) : (tyL g)[ty]? = some (gC g ty, tyF ty) := by
  match ty, h with
  | 0, _ => rfl
  | 1, _ => rfl
  | 2, _ => rfl
  | 3, _ => rfl
  | 4, _ => rfl
  | 5, _ => rfl
abbrev Ag (g : GE) : Nat → Prop := fun q => gO g ≤ q
def Hld (g : GE) (t : Tau) (s : Mem) (H : Heap) : Prop := va_P (gD g) vwCl (world g t s) H ∧ MemOk t s ∧ gO g + t.length ≤ H.size
theorem world_at {g : GE} {t : Tau} {s : Mem} {k : Nat} {sh : Shp} (h : t[k]? = some sh) : (world g t s)[k]? = some (gO g + k, cellE g sh (s k)) := by
  unfold world
  rw [List.getElem?_mapIdx, h]
  rfl
theorem world_atI {g : GE} {t : Tau} {s : Mem} {x : Int} {sh : Shp} (hx : 0 ≤ x) (h : t[x.toNat]? = some sh) : (world g t s)[x.toNat]? = some (gO g + x.toNat, cellE g sh (s x)) := by
  rw [world_at h, Int.toNat_of_nonneg hx]
theorem world_D (g : GE) (t : Tau) (s : Mem) : va_D (Ag g) (world g t s) := by
  unfold world
  refine ⟨fun i j p q hp hq he => ?_, fun k q hk => ?_⟩
  · rw [List.getElem?_mapIdx] at hp hq
    obtain ⟨a, -, rfl⟩ := Option.map_eq_some_iff.mp hp
    obtain ⟨b, -, rfl⟩ := Option.map_eq_some_iff.mp hq
    exact Nat.add_left_cancel he
  · rw [List.getElem?_mapIdx] at hk
    obtain ⟨a, -, rfl⟩ := Option.map_eq_some_iff.mp hk
    exact Nat.le_add_right _ _
def up (s : Mem) (x j v : Int) : Mem := fun o i => if o = x ∧ i = j then v else s o i
theorem up_ne {s : Mem} {x j v : Int} {o : Int} (h : o ≠ x) : up s x j v o = s o := by
  funext i
  simp [up, h]
theorem world_set {g : GE} {t : Tau} {s s' : Mem} {x : Int} {sh : Shp} (hx : 0 ≤ x) (h : t[x.toNat]? = some sh) (hs : ∀ o, o ≠ x → s' o = s o) {e' : va_E} (he : cellE g sh (s' x) = e') : (world g t s).set x.toNat (gO g + x.toNat, e') = world g t s' := by
  apply List.ext_getElem?
  intro i
  rw [List.getElem?_set]
  by_cases hi : x.toNat = i
  · subst hi
    have hl : x.toNat < (world g t s).length := by
      have := world_at (g := g) (s := s) h
      exact (List.getElem?_eq_some_iff.mp this).1
    rw [if_pos rfl, if_pos hl, world_atI hx h, he]
  · rw [if_neg hi]
    unfold world
    rw [List.getElem?_mapIdx, List.getElem?_mapIdx, hs i (fun z => hi (by rw [← z]; exact Int.toNat_natCast i))]
theorem MemOk_up {t : Tau} {s : Mem} {x j v : Int} (h : MemOk t s) (hx : 0 ≤ x) (hj : 0 ≤ j) {sh : Shp} (hs : t[x.toNat]? = some sh) (hv : okS sh j.toNat v) : MemOk t (up s x j v) := by
  intro k sh' hk i
  by_cases hkx : (k : Int) = x ∧ (i : Int) = j
  · obtain ⟨h1, h2⟩ := hkx
    subst h1; subst h2
    simp only [Int.toNat_natCast] at hs hv
    cases hs.symm.trans hk
    simp only [up, and_self, if_true]
    exact hv
  · simp only [up, hkx, if_false]
    exact h k sh' hk i
/-- x is an object of class ci -/
def isO (t : Tau) (x : Int) (ci : Nat) : Prop := 0 ≤ x ∧ ∃ fin, t[x.toNat]? = some (.inl (ci, fin))
def finOf (t : Tau) (x : Int) (k : Nat) : Int := match t[x.toNat]? with
  | some (.inl (_, f)) => f k
  | _ => 0
def lenOf (t : Tau) (x : Int) : Nat := match t[x.toNat]? with
  | some (.inr (_, n)) => n
  | _ => 0
/-- x is an array of type ty -/
def isT (t : Tau) (x : Int) (ty : Nat) : Prop := 0 ≤ x ∧ t[x.toNat]? = some (.inr (ty, lenOf t x))
theorem rf_ref {g : GE} {x : Int} (h : 0 ≤ x) : rf g x = .ref (gO g + x.toNat) := by simp [rf, h]
theorem rf_null (g : GE) : rf g (-1) = .null := by simp [rf]
theorem rf_rfo {g : GE} {x : Int} (h : -1 ≤ x) : va_rf (rfo g x) = rf g x := by
  unfold rf rfo
  by_cases hx : 0 ≤ x
  · simp [hx, va_rf]
  · have : x = -1 := by omega
    simp [hx, this, va_rf]
theorem cv_cat (g : GE) (v : TV) : (cv g v).category = catT v := by
  match v with
  | .inl x => rfl
  | .inr (.inl x) => rfl
  | .inr (.inr x) =>
    show (rf g x).category = 1
    unfold rf
    split
    · rfl
    · split <;> rfl
theorem cat_map (g : GE) (st : List TV) : ((st.map (cv g)).map fun v => v.category) = st.map catT := by
  rw [List.map_map]
  exact List.map_congr_left fun v _ => cv_cat g v
end
section
/-! the methods, by their numbers -/
def MTL : List (MethodName × ByteArray × Nat × Option FieldType) := [
  (⟨"StruckColours$Laws", "<init>", "()V"⟩, prog_2_method_1_code, 1, none),
  (⟨"StruckColours$Laws", "weighs", "(LStruckColours$Notes;)I"⟩, prog_2_method_2_code, 4, (some .int)),
  (⟨"StruckColours$Laws", "fitsTales", "(ILStruckColours$Notes;)Z"⟩, prog_2_method_3_code, 3, (some .boolean)),
  (⟨"StruckColours$Laws", "numberOver", "(II)I"⟩, prog_2_method_4_code, 5, (some .int)),
  (⟨"StruckColours$Laws", "isOver", "(III)Z"⟩, prog_2_method_5_code, 3, (some .boolean)),
  (⟨"StruckColours$Notes", "<init>", "()V"⟩, prog_3_method_1_code, 1, none),
  (⟨"StruckColours$Notes", "adds", "(III)Z"⟩, prog_3_method_2_code, 4, (some .boolean)),
  (⟨"StruckColours$Notes", "empties", "()I"⟩, prog_3_method_3_code, 2, (some .int)),
  (⟨"StruckColours$Notes", "firstOf", "(I)I"⟩, prog_3_method_4_code, 2, (some .int)),
  (⟨"StruckColours$Notes", "secondOf", "(I)I"⟩, prog_3_method_5_code, 2, (some .int)),
  (⟨"StruckColours$Notes", "thirdOf", "(I)I"⟩, prog_3_method_6_code, 2, (some .int)),
  (⟨"StruckColours$Past", "<init>", "()V"⟩, prog_4_method_1_code, 2, none),
  (⟨"StruckColours$Past", "clears", "()V"⟩, prog_4_method_2_code, 1, none),
  (⟨"StruckColours$Past", "at", "(I)LStruckColours$Sea;"⟩, prog_4_method_3_code, 3, (some (.object "StruckColours$Sea"))),
  (⟨"StruckColours$Past", "adds", "(LStruckColours$Sea;)V"⟩, prog_4_method_4_code, 3, none),
  (⟨"StruckColours$Past", "returns", "(LStruckColours$Sea;)Z"⟩, prog_4_method_5_code, 3, (some .boolean)),
  (⟨"StruckColours$Row", "<init>", "()V"⟩, prog_5_method_1_code, 1, none),
  (⟨"StruckColours$Row", "clears", "()V"⟩, prog_5_method_2_code, 1, none),
  (⟨"StruckColours$Row", "adds", "(J)V"⟩, prog_5_method_3_code, 3, none),
  (⟨"StruckColours$Row", "addsFraction", "(JJ)V"⟩, prog_5_method_4_code, 7, none),
  (⟨"StruckColours$Row", "commonDivisor", "(JJ)J"⟩, prog_5_method_5_code, 11, (some .long)),
  (⟨"StruckColours$Row", "has", "(I)Z"⟩, prog_5_method_6_code, 2, (some .boolean)),
  (⟨"StruckColours$Row", "at", "(I)J"⟩, prog_5_method_7_code, 2, (some .long)),
  (⟨"StruckColours$Rule", "<init>", "()V"⟩, prog_6_method_1_code, 1, none),
  (⟨"StruckColours$Rule", "reads", "([CI)I"⟩, prog_6_method_2_code, 5, (some .int)),
  (⟨"StruckColours$Rule", "beginsThing", "(C)Z"⟩, prog_6_method_3_code, 2, (some .boolean)),
  (⟨"StruckColours$Rule", "comesBehind", "(C)Z"⟩, prog_6_method_4_code, 3, (some .boolean)),
  (⟨"StruckColours$Rule", "lengthens", "(I)Z"⟩, prog_6_method_5_code, 2, (some .boolean)),
  (⟨"StruckColours$Rule", "closes", "()Z"⟩, prog_6_method_6_code, 1, (some .boolean)),
  (⟨"StruckColours$Rule", "isLetter", "(C)Z"⟩, prog_6_method_7_code, 1, (some .boolean)),
  (⟨"StruckColours$Rule", "binding", "(C)I"⟩, prog_6_method_8_code, 1, (some .int)),
  (⟨"StruckColours$Rule", "emits", "(I)V"⟩, prog_6_method_9_code, 2, none),
  (⟨"StruckColours$Rule", "puts", "(C)V"⟩, prog_6_method_10_code, 2, none),
  (⟨"StruckColours$Rule", "joins", "(I)V"⟩, prog_6_method_11_code, 3, none),
  (⟨"StruckColours$Rule", "measures", "(LStruckColours$Sea;II)I"⟩, prog_6_method_12_code, 7, (some .int)),
  (⟨"StruckColours$Rule", "stacks", "(II)I"⟩, prog_6_method_13_code, 3, (some .int)),
  (⟨"StruckColours$Rule", "reduces", "(II)I"⟩, prog_6_method_14_code, 3, (some .int)),
  (⟨"StruckColours$Rule", "joined", "(III)I"⟩, prog_6_method_15_code, 3, (some .int)),
  (⟨"StruckColours$Rule", "thing", "(ILStruckColours$Sea;II)I"⟩, prog_6_method_16_code, 4, (some .int)),
  (⟨"StruckColours$Sea", "<init>", "()V"⟩, prog_7_method_1_code, 1, none),
  (⟨"StruckColours$Sea", "becomes", "(LStruckColours$Sea;)V"⟩, prog_7_method_2_code, 2, none),
  (⟨"StruckColours$Sea", "has", "(I)Z"⟩, prog_7_method_3_code, 2, (some .boolean)),
  (⟨"StruckColours$Sea", "isPair", "(II)Z"⟩, prog_7_method_4_code, 3, (some .boolean)),
  (⟨"StruckColours$Sea", "mightOf", "(I)I"⟩, prog_7_method_5_code, 2, (some .int)),
  (⟨"StruckColours$Sea", "strengthOf", "(I)I"⟩, prog_7_method_6_code, 2, (some .int)),
  (⟨"StruckColours$Sea", "sideOf", "(I)I"⟩, prog_7_method_7_code, 2, (some .int)),
  (⟨"StruckColours$Sea", "wonOf", "(I)I"⟩, prog_7_method_8_code, 2, (some .int)),
  (⟨"StruckColours$Sea", "lostOf", "(I)I"⟩, prog_7_method_9_code, 2, (some .int)),
  (⟨"StruckColours$Sea", "parts", "(II)I"⟩, prog_7_method_10_code, 3, (some .int)),
  (⟨"StruckColours$Sea", "strangeParts", "(I)I"⟩, prog_7_method_11_code, 2, (some .int)),
  (⟨"StruckColours$Sea", "strengthOfAll", "()I"⟩, prog_7_method_12_code, 1, (some .int)),
  (⟨"StruckColours$Sea", "strengthOfSome", "(I)I"⟩, prog_7_method_13_code, 4, (some .int)),
  (⟨"StruckColours$Sea", "partsOfAll", "(I)I"⟩, prog_7_method_14_code, 2, (some .int)),
  (⟨"StruckColours$Sea", "partsOfSome", "(II)I"⟩, prog_7_method_15_code, 5, (some .int)),
  (⟨"StruckColours$Sea", "wonOfAll", "()I"⟩, prog_7_method_16_code, 3, (some .int)),
  (⟨"StruckColours$Sea", "lostOfAll", "()I"⟩, prog_7_method_17_code, 3, (some .int)),
  (⟨"StruckColours$Sea", "difference", "(II)I"⟩, prog_7_method_18_code, 5, (some .int)),
  (⟨"StruckColours$Sea", "joins", "(II)V"⟩, prog_7_method_19_code, 4, none),
  (⟨"StruckColours$Sea", "hoists", "(II)V"⟩, prog_7_method_20_code, 4, none),
  (⟨"StruckColours$Sea", "strengthens", "(II)V"⟩, prog_7_method_21_code, 3, none),
  (⟨"StruckColours$Sea", "resews", "(IIII)V"⟩, prog_7_method_22_code, 5, none),
  (⟨"StruckColours$Sea", "mayGoOver", "(I)V"⟩, prog_7_method_23_code, 4, none),
  (⟨"StruckColours$Sea", "winner", "(LStruckColours$Rule;II)I"⟩, prog_7_method_24_code, 6, (some .int)),
  (⟨"StruckColours$Sea", "battle", "(LStruckColours$Rule;III)I"⟩, prog_7_method_25_code, 6, (some .int)),
  (⟨"StruckColours$Sea", "strikesTo", "(III)V"⟩, prog_7_method_26_code, 5, none),
  (⟨"StruckColours$Sea", "dawns", "(I)V"⟩, prog_7_method_27_code, 4, none),
  (⟨"StruckColours$Sea", "mendsFlag", "(I)V"⟩, prog_7_method_28_code, 5, none),
  (⟨"StruckColours$Sea", "sewsIn", "(III)I"⟩, prog_7_method_29_code, 4, (some .int)),
  (⟨"StruckColours$Sea", "strikesAll", "(II)I"⟩, prog_7_method_30_code, 4, (some .int)),
  (⟨"StruckColours$Search", "<init>", "()V"⟩, prog_8_method_1_code, 2, none),
  (⟨"StruckColours$Search", "aims", "(LStruckColours$Rule;III)V"⟩, prog_8_method_2_code, 5, none),
  (⟨"StruckColours$Search", "step", "(I)I"⟩, prog_8_method_3_code, 2, (some .int)),
  (⟨"StruckColours$Search", "level", "(I)LStruckColours$Sea;"⟩, prog_8_method_4_code, 2, (some (.object "StruckColours$Sea"))),
  (⟨"StruckColours$Search", "fewest", "(LStruckColours$Sea;)I"⟩, prog_8_method_5_code, 4, (some .int)),
  (⟨"StruckColours$Search", "reaches", "(II)Z"⟩, prog_8_method_6_code, 7, (some .boolean)),
  (⟨"StruckColours$Search", "isReached", "(LStruckColours$Sea;)Z"⟩, prog_8_method_7_code, 2, (some .boolean)),
  (⟨"StruckColours$Search", "isTooFar", "(LStruckColours$Sea;I)Z"⟩, prog_8_method_8_code, 3, (some .boolean)),
  (⟨"StruckColours$Search", "isOfUse", "(III)Z"⟩, prog_8_method_9_code, 4, (some .boolean)),
  (⟨"StruckColours$Search", "goes", "(III)Z"⟩, prog_8_method_10_code, 6, (some .boolean)),
  (⟨"StruckColours$Search", "mostOfOneSide", "(LStruckColours$Sea;)I"⟩, prog_8_method_11_code, 5, (some .int)),
  (⟨"StruckColours$Text", "<init>", "()V"⟩, prog_9_method_1_code, 1, none),
  (⟨"StruckColours$Text", "add", "(C)V"⟩, prog_9_method_2_code, 2, none),
  (⟨"StruckColours$Text", "at", "(I)C"⟩, prog_9_method_3_code, 2, (some .char)),
  (⟨"StruckColours$Text", "empties", "()I"⟩, prog_9_method_4_code, 2, (some .int)),
  (⟨"StruckColours", "<init>", "()V"⟩, prog_1_method_1_code, 1, none),
  (⟨"StruckColours", "sign", "(I)I"⟩, prog_1_method_2_code, 3, (some .int)),
  (⟨"StruckColours", "end", "(I)Z"⟩, prog_1_method_3_code, 2, (some .boolean)),
  (⟨"StruckColours", "ships", "()I"⟩, prog_1_method_4_code, 5, (some .int)),
  (⟨"StruckColours", "rule", "()I"⟩, prog_1_method_5_code, 3, (some .int)),
  (⟨"StruckColours", "ship", "(II)I"⟩, prog_1_method_6_code, 3, (some .int)),
  (⟨"StruckColours", "force", "(II)I"⟩, prog_1_method_7_code, 3, (some .int)),
  (⟨"StruckColours", "take", "(I)I"⟩, prog_1_method_8_code, 3, (some .int)),
  (⟨"StruckColours", "sheet", "(IIII)I"⟩, prog_1_method_9_code, 7, (some .int)),
  (⟨"StruckColours", "fight", "(II)I"⟩, prog_1_method_10_code, 4, (some .int)),
  (⟨"StruckColours", "days", "(I)I"⟩, prog_1_method_11_code, 3, (some .int)),
  (⟨"StruckColours", "sews", "(III)I"⟩, prog_1_method_12_code, 5, (some .int)),
  (⟨"StruckColours", "yields", "(II)I"⟩, prog_1_method_13_code, 4, (some .int)),
  (⟨"StruckColours", "war", "()I"⟩, prog_1_method_14_code, 6, (some .int)),
  (⟨"StruckColours", "undo", "()I"⟩, prog_1_method_15_code, 1, (some .int)),
  (⟨"StruckColours", "fleet", "(I)I"⟩, prog_1_method_16_code, 5, (some .int)),
  (⟨"StruckColours", "share", "(I)I"⟩, prog_1_method_17_code, 2, (some .int)),
  (⟨"StruckColours", "later", "(II)I"⟩, prog_1_method_18_code, 4, (some .int)),
  (⟨"StruckColours", "whole", "(I)I"⟩, prog_1_method_19_code, 2, (some .int)),
  (⟨"StruckColours", "sisters", "()I"⟩, prog_1_method_20_code, 5, (some .int)),
  (⟨"StruckColours", "motley", "()I"⟩, prog_1_method_21_code, 4, (some .int)),
  (⟨"StruckColours", "order", "(I)I"⟩, prog_1_method_22_code, 5, (some .int)),
  (⟨"StruckColours", "rivals", "(I)I"⟩, prog_1_method_23_code, 7, (some .int)),
  (⟨"StruckColours", "duel", "(III)I"⟩, prog_1_method_24_code, 8, (some .int)),
  (⟨"StruckColours", "tempts", "(I)I"⟩, prog_1_method_25_code, 4, (some .int)),
  (⟨"StruckColours", "wins", "(II)I"⟩, prog_1_method_26_code, 4, (some .int)),
  (⟨"StruckColours", "suits", "(II)I"⟩, prog_1_method_27_code, 6, (some .int)),
  (⟨"StruckColours", "goesOver", "(II)I"⟩, prog_1_method_28_code, 3, (some .int)),
  (⟨"StruckColours", "peace", "()I"⟩, prog_1_method_29_code, 1, (some .int)),
  (⟨"StruckColours", "campaign", "(I)I"⟩, prog_1_method_30_code, 3, (some .int)),
  (⟨"StruckColours", "halves", "(I)I"⟩, prog_1_method_31_code, 6, (some .int)),
  (⟨"StruckColours", "evens", "()I"⟩, prog_1_method_32_code, 6, (some .int)),
  (⟨"StruckColours", "worth", "(I)I"⟩, prog_1_method_33_code, 7, (some .int)),
  (⟨"StruckColours", "patched", "(II)I"⟩, prog_1_method_34_code, 7, (some .int)),
  (⟨"StruckColours", "seen", "(II)I"⟩, prog_1_method_35_code, 3, (some .int)),
  (⟨"StruckColours", "forget", "()I"⟩, prog_1_method_36_code, 1, (some .int)),
  (⟨"StruckColours", "fits", "()I"⟩, prog_1_method_37_code, 2, (some .int)),
  (⟨"StruckColours", "looks", "()I"⟩, prog_1_method_38_code, 8, (some .int)),
  (⟨"StruckColours", "told", "(III)I"⟩, prog_1_method_39_code, 4, (some .int)),
  (⟨"StruckColours", "deny", "()I"⟩, prog_1_method_40_code, 1, (some .int)),
  (⟨"StruckColours", "laws", "()I"⟩, prog_1_method_41_code, 2, (some .int)),
  (⟨"StruckColours", "asks", "()I"⟩, prog_1_method_42_code, 8, (some .int)),
  (⟨"StruckColours", "treaty", "(II)I"⟩, prog_1_method_43_code, 6, (some .int)),
  (⟨"StruckColours", "series", "(III)I"⟩, prog_1_method_44_code, 9, (some .int)),
  (⟨"StruckColours", "rests", "(I)I"⟩, prog_1_method_45_code, 5, (some .int)),
  (⟨"StruckColours", "law", "()I"⟩, prog_1_method_46_code, 4, (some .int)),
  (⟨"StruckColours", "years", "(II)I"⟩, prog_1_method_47_code, 4, (some .int)),
  (⟨"StruckColours", "keep", "(I)Z"⟩, prog_1_method_48_code, 2, (some .boolean)),
  (⟨"StruckColours", "again", "(I)Z"⟩, prog_1_method_49_code, 2, (some .boolean)),
  (⟨"StruckColours", "count", "(I)I"⟩, prog_1_method_50_code, 2, (some .int)),
  (⟨"StruckColours", "row", "(I)J"⟩, prog_1_method_51_code, 2, (some .long)),
  (⟨"StruckColours", "faultOfShips", "(I)I"⟩, prog_1_method_52_code, 4, (some .int)),
  (⟨"StruckColours", "standsInShips", "(I)Z"⟩, prog_1_method_53_code, 3, (some .boolean)),
  (⟨"StruckColours", "readsOtherRule", "()I"⟩, prog_1_method_54_code, 2, (some .int)),
  (⟨"StruckColours", "faultOfWar", "(I)I"⟩, prog_1_method_55_code, 5, (some .int)),
  (⟨"StruckColours", "standsInAct", "(CIC)Z"⟩, prog_1_method_56_code, 3, (some .boolean)),
  (⟨"StruckColours", "lengthOfAct", "(C)I"⟩, prog_1_method_57_code, 1, (some .int)),
  (⟨"StruckColours", "acts", "(I)Z"⟩, prog_1_method_58_code, 4, (some .boolean)),
  (⟨"StruckColours", "isDigit", "(C)Z"⟩, prog_1_method_59_code, 1, (some .boolean)),
  (⟨"StruckColours", "isSideSign", "(C)Z"⟩, prog_1_method_60_code, 1, (some .boolean)),
  (⟨"StruckColours", "isSide", "(I)Z"⟩, prog_1_method_61_code, 1, (some .boolean)),
  (⟨"StruckColours", "entry", "(II)I"⟩, prog_1_method_62_code, 2, (some .int)),
  (⟨"StruckColours", "keptUnder", "(I)LStruckColours$Sea;"⟩, prog_1_method_63_code, 2, (some (.object "StruckColours$Sea"))),
  (⟨"StruckColours", "isTempted", "(III)Z"⟩, prog_1_method_64_code, 4, (some .boolean)),
  (⟨"StruckColours", "tellsFights", "(I)I"⟩, prog_1_method_65_code, 3, (some .int)),
  (⟨"StruckColours", "firstPairFights", "()V"⟩, prog_1_method_66_code, 3, none),
  (⟨"StruckColours", "lesserWins", "(LStruckColours$Rule;)I"⟩, prog_1_method_67_code, 5, (some .int)),
  (⟨"StruckColours", "yearGoesBy", "()V"⟩, prog_1_method_68_code, 3, none),
  (⟨"StruckColours", "draws", "(I)I"⟩, prog_1_method_69_code, 2, (some .int)),
  (⟨"StruckColours", "strangePartsOfAll", "()I"⟩, prog_1_method_70_code, 3, (some .int)),
  (⟨"StruckColours", "wholeShips", "()I"⟩, prog_1_method_71_code, 3, (some .int)),
  (⟨"StruckColours", "shipsWith", "(I)I"⟩, prog_1_method_72_code, 4, (some .int)),
  (⟨"StruckColours", "mostSeen", "(I)I"⟩, prog_1_method_73_code, 1, (some .int)),
  (⟨"StruckColours", "fittingShips", "()I"⟩, prog_1_method_74_code, 3, (some .int)),
  (⟨"StruckColours", "fitsAll", "(I)Z"⟩, prog_1_method_75_code, 3, (some .boolean)),
  (⟨"StruckColours", "fitsSight", "(III)Z"⟩, prog_1_method_76_code, 4, (some .boolean)),
  (⟨"StruckColours", "isCold", "(II)Z"⟩, prog_1_method_77_code, 2, (some .boolean)),
  (⟨"StruckColours", "isContent", "(III)Z"⟩, prog_1_method_78_code, 5, (some .boolean)),
  (⟨"StruckColours", "gain", "(III)I"⟩, prog_1_method_79_code, 4, (some .int)),
  (⟨"StruckColours", "factorial", "(I)I"⟩, prog_1_method_80_code, 1, (some .int)),
  (⟨"StruckColours", "power", "(II)J"⟩, prog_1_method_81_code, 5, (some .long)),
  (⟨"StruckColoursModel", "<init>", "()V"⟩, prog_11_method_1_code, 1, none),
  (⟨"StruckColoursModel", "thrown", "()I"⟩, prog_11_method_2_code, 1, (some .int)),
  (⟨"StruckColoursModel", "in", "(III)Z"⟩, prog_11_method_3_code, 3, (some .boolean)),
  (⟨"StruckColoursModel", "has", "(II)Z"⟩, prog_11_method_4_code, 2, (some .boolean)),
  (⟨"StruckColoursModel", "lost", "()I"⟩, prog_11_method_5_code, 1, (some .int)),
  (⟨"StruckColoursModel", "tell", "(J)V"⟩, prog_11_method_6_code, 3, none),
  (⟨"StruckColoursModel", "isShip", "(I)Z"⟩, prog_11_method_7_code, 2, (some .boolean)),
  (⟨"StruckColoursModel", "areTwo", "(II)Z"⟩, prog_11_method_8_code, 3, (some .boolean)),
  (⟨"StruckColoursModel", "isSide", "(I)Z"⟩, prog_11_method_9_code, 1, (some .boolean)),
  (⟨"StruckColoursModel", "all", "()I"⟩, prog_11_method_10_code, 1, (some .int)),
  (⟨"StruckColoursModel", "part", "([III)I"⟩, prog_11_method_11_code, 3, (some .int)),
  (⟨"StruckColoursModel", "own", "([II)I"⟩, prog_11_method_12_code, 2, (some .int)),
  (⟨"StruckColoursModel", "sign", "(I)I"⟩, prog_11_method_13_code, 3, (some .int)),
  (⟨"StruckColoursModel", "end", "(I)Z"⟩, prog_11_method_14_code, 2, (some .boolean)),
  (⟨"StruckColoursModel", "begin", "([BII)V"⟩, prog_11_method_15_code, 4, none),
  (⟨"StruckColoursModel", "beginText", "(I)V"⟩, prog_11_method_16_code, 2, none),
  (⟨"StruckColoursModel", "here", "()I"⟩, prog_11_method_17_code, 1, (some .int)),
  (⟨"StruckColoursModel", "fine", "()Z"⟩, prog_11_method_18_code, 1, (some .boolean)),
  (⟨"StruckColoursModel", "fault", "(I)V"⟩, prog_11_method_19_code, 2, none),
  (⟨"StruckColoursModel", "passes", "(C)Z"⟩, prog_11_method_20_code, 2, (some .boolean)),
  (⟨"StruckColoursModel", "need", "(C)V"⟩, prog_11_method_21_code, 2, none),
  (⟨"StruckColoursModel", "oneOf", "(CI)I"⟩, prog_11_method_22_code, 3, (some .int)),
  (⟨"StruckColoursModel", "number", "(I)I"⟩, prog_11_method_23_code, 4, (some .int)),
  (⟨"StruckColoursModel", "wasRight", "()Z"⟩, prog_11_method_24_code, 1, (some .boolean)),
  (⟨"StruckColoursModel", "ships", "()I"⟩, prog_11_method_25_code, 5, (some .int)),
  (⟨"StruckColoursModel", "held", "(I)I"⟩, prog_11_method_26_code, 3, (some .int)),
  (⟨"StruckColoursModel", "sum", "(I)I"⟩, prog_11_method_27_code, 5, (some .int)),
  (⟨"StruckColoursModel", "product", "(I)I"⟩, prog_11_method_28_code, 5, (some .int)),
  (⟨"StruckColoursModel", "letterOf", "(I)I"⟩, prog_11_method_29_code, 1, (some .int)),
  (⟨"StruckColoursModel", "thing", "(I)I"⟩, prog_11_method_30_code, 4, (some .int)),
  (⟨"StruckColoursModel", "readRule", "()Z"⟩, prog_11_method_31_code, 1, (some .boolean)),
  (⟨"StruckColoursModel", "rule", "()I"⟩, prog_11_method_32_code, 3, (some .int)),
  (⟨"StruckColoursModel", "forceOf", "([III)I"⟩, prog_11_method_33_code, 6, (some .int)),
  (⟨"StruckColoursModel", "ship", "(II)I"⟩, prog_11_method_34_code, 3, (some .int)),
  (⟨"StruckColoursModel", "force", "(II)I"⟩, prog_11_method_35_code, 3, (some .int)),
  (⟨"StruckColoursModel", "take", "(I)I"⟩, prog_11_method_36_code, 3, (some .int)),
  (⟨"StruckColoursModel", "sumOf", "([II)I"⟩, prog_11_method_37_code, 5, (some .int)),
  (⟨"StruckColoursModel", "sheet", "(IIII)I"⟩, prog_11_method_38_code, 8, (some .int)),
  (⟨"StruckColoursModel", "lay", "([I[II)V"⟩, prog_11_method_39_code, 4, none),
  (⟨"StruckColoursModel", "remember", "([I)V"⟩, prog_11_method_40_code, 3, none),
  (⟨"StruckColoursModel", "goOver", "([II)V"⟩, prog_11_method_41_code, 4, none),
  (⟨"StruckColoursModel", "winnerOf", "([III)I"⟩, prog_11_method_42_code, 5, (some .int)),
  (⟨"StruckColoursModel", "goFight", "([III)I"⟩, prog_11_method_43_code, 8, (some .int)),
  (⟨"StruckColoursModel", "fight", "(II)I"⟩, prog_11_method_44_code, 4, (some .int)),
  (⟨"StruckColoursModel", "mend", "([II)V"⟩, prog_11_method_45_code, 5, none),
  (⟨"StruckColoursModel", "goDay", "([I)V"⟩, prog_11_method_46_code, 3, none),
  (⟨"StruckColoursModel", "goDays", "([II)V"⟩, prog_11_method_47_code, 4, none),
  (⟨"StruckColoursModel", "partsOfAll", "([II)I"⟩, prog_11_method_48_code, 5, (some .int)),
  (⟨"StruckColoursModel", "days", "(I)I"⟩, prog_11_method_49_code, 3, (some .int)),
  (⟨"StruckColoursModel", "refusesSewing", "([IIII)I"⟩, prog_11_method_50_code, 5, (some .int)),
  (⟨"StruckColoursModel", "goSewing", "([IIII)V"⟩, prog_11_method_51_code, 4, none),
  (⟨"StruckColoursModel", "sews", "(III)I"⟩, prog_11_method_52_code, 5, (some .int)),
  (⟨"StruckColoursModel", "refusesYielding", "(II)I"⟩, prog_11_method_53_code, 3, (some .int)),
  (⟨"StruckColoursModel", "goYielding", "(II)V"⟩, prog_11_method_54_code, 4, none),
  (⟨"StruckColoursModel", "yields", "(II)I"⟩, prog_11_method_55_code, 5, (some .int)),
  (⟨"StruckColoursModel", "war", "()I"⟩, prog_11_method_56_code, 3, (some .int)),
  (⟨"StruckColoursModel", "readAct", "(I)V"⟩, prog_11_method_57_code, 3, none),
  (⟨"StruckColoursModel", "act", "(I)Z"⟩, prog_11_method_58_code, 4, (some .boolean)),
  (⟨"StruckColoursModel", "undo", "()I"⟩, prog_11_method_59_code, 2, (some .int)),
  (⟨"StruckColoursModel", "fleet", "(I)I"⟩, prog_11_method_60_code, 5, (some .int)),
  (⟨"StruckColoursModel", "common", "(JJ)J"⟩, prog_11_method_61_code, 4, (some .long)),
  (⟨"StruckColoursModel", "tellPart", "(JJ)V"⟩, prog_11_method_62_code, 7, none),
  (⟨"StruckColoursModel", "share", "(I)I"⟩, prog_11_method_63_code, 2, (some .int)),
  (⟨"StruckColoursModel", "later", "(II)I"⟩, prog_11_method_64_code, 4, (some .int)),
  (⟨"StruckColoursModel", "wholeOf", "([II)I"⟩, prog_11_method_65_code, 3, (some .int)),
  (⟨"StruckColoursModel", "whole", "(I)I"⟩, prog_11_method_66_code, 3, (some .int)),
  (⟨"StruckColoursModel", "sisters", "()I"⟩, prog_11_method_67_code, 8, (some .int)),
  (⟨"StruckColoursModel", "motley", "()I"⟩, prog_11_method_68_code, 4, (some .int)),
  (⟨"StruckColoursModel", "order", "(I)I"⟩, prog_11_method_69_code, 5, (some .int)),
  (⟨"StruckColoursModel", "rivals", "(I)I"⟩, prog_11_method_70_code, 7, (some .int)),
  (⟨"StruckColoursModel", "duel", "(III)I"⟩, prog_11_method_71_code, 8, (some .int)),
  (⟨"StruckColoursModel", "tempts", "(I)I"⟩, prog_11_method_72_code, 6, (some .int)),
  (⟨"StruckColoursModel", "wins", "(II)I"⟩, prog_11_method_73_code, 4, (some .int)),
  (⟨"StruckColoursModel", "suits", "(II)I"⟩, prog_11_method_74_code, 6, (some .int)),
  (⟨"StruckColoursModel", "layDeep", "(I)V"⟩, prog_11_method_75_code, 3, none),
  (⟨"StruckColoursModel", "isSo", "(II)Z"⟩, prog_11_method_76_code, 4, (some .boolean)),
  (⟨"StruckColoursModel", "canBe", "(IIII)Z"⟩, prog_11_method_77_code, 7, (some .boolean)),
  (⟨"StruckColoursModel", "fewest", "(II)I"⟩, prog_11_method_78_code, 5, (some .int)),
  (⟨"StruckColoursModel", "goesOver", "(II)I"⟩, prog_11_method_79_code, 3, (some .int)),
  (⟨"StruckColoursModel", "peace", "()I"⟩, prog_11_method_80_code, 1, (some .int)),
  (⟨"StruckColoursModel", "goRound", "([I)V"⟩, prog_11_method_81_code, 4, none),
  (⟨"StruckColoursModel", "campaign", "(I)I"⟩, prog_11_method_82_code, 3, (some .int)),
  (⟨"StruckColoursModel", "halves", "(I)I"⟩, prog_11_method_83_code, 6, (some .int)),
  (⟨"StruckColoursModel", "strengthOf", "(I)I"⟩, prog_11_method_84_code, 4, (some .int)),
  (⟨"StruckColoursModel", "evens", "()I"⟩, prog_11_method_85_code, 4, (some .int)),
  (⟨"StruckColoursModel", "orders", "(I)J"⟩, prog_11_method_86_code, 1, (some .long)),
  (⟨"StruckColoursModel", "worth", "(I)I"⟩, prog_11_method_87_code, 6, (some .int)),
  (⟨"StruckColoursModel", "patched", "(II)I"⟩, prog_11_method_88_code, 6, (some .int)),
  (⟨"StruckColoursModel", "seen", "(II)I"⟩, prog_11_method_89_code, 4, (some .int)),
  (⟨"StruckColoursModel", "forget", "()I"⟩, prog_11_method_90_code, 2, (some .int)),
  (⟨"StruckColoursModel", "fits", "(III)Z"⟩, prog_11_method_91_code, 4, (some .boolean)),
  (⟨"StruckColoursModel", "fitting", "()I"⟩, prog_11_method_92_code, 5, (some .int)),
  (⟨"StruckColoursModel", "fits", "()I"⟩, prog_11_method_93_code, 2, (some .int)),
  (⟨"StruckColoursModel", "looks", "()I"⟩, prog_11_method_94_code, 7, (some .int)),
  (⟨"StruckColoursModel", "told", "(III)I"⟩, prog_11_method_95_code, 4, (some .int)),
  (⟨"StruckColoursModel", "deny", "()I"⟩, prog_11_method_96_code, 2, (some .int)),
  (⟨"StruckColoursModel", "goesBy", "(IIII)Z"⟩, prog_11_method_97_code, 4, (some .boolean)),
  (⟨"StruckColoursModel", "isLaw", "(II)Z"⟩, prog_11_method_98_code, 4, (some .boolean)),
  (⟨"StruckColoursModel", "laws", "()I"⟩, prog_11_method_99_code, 4, (some .int)),
  (⟨"StruckColoursModel", "leftBy", "(II)I"⟩, prog_11_method_100_code, 7, (some .int)),
  (⟨"StruckColoursModel", "asks", "()I"⟩, prog_11_method_101_code, 6, (some .int)),
  (⟨"StruckColoursModel", "isLost", "(II)Z"⟩, prog_11_method_102_code, 3, (some .boolean)),
  (⟨"StruckColoursModel", "bestMove", "(II)I"⟩, prog_11_method_103_code, 5, (some .int)),
  (⟨"StruckColoursModel", "treaty", "(II)I"⟩, prog_11_method_104_code, 5, (some .int)),
  (⟨"StruckColoursModel", "power", "(JI)J"⟩, prog_11_method_105_code, 6, (some .long)),
  (⟨"StruckColoursModel", "series", "(III)I"⟩, prog_11_method_106_code, 10, (some .int)),
  (⟨"StruckColoursModel", "gets", "(III)I"⟩, prog_11_method_107_code, 3, (some .int)),
  (⟨"StruckColoursModel", "isBest", "(III)Z"⟩, prog_11_method_108_code, 4, (some .boolean)),
  (⟨"StruckColoursModel", "rests", "(I)I"⟩, prog_11_method_109_code, 5, (some .int)),
  (⟨"StruckColoursModel", "lesserWins", "()I"⟩, prog_11_method_110_code, 4, (some .int)),
  (⟨"StruckColoursModel", "law", "()I"⟩, prog_11_method_111_code, 6, (some .int)),
  (⟨"StruckColoursModel", "draw", "(I)I"⟩, prog_11_method_112_code, 2, (some .int)),
  (⟨"StruckColoursModel", "years", "(II)I"⟩, prog_11_method_113_code, 7, (some .int)),
  (⟨"StruckColoursModel", "keep", "(I)Z"⟩, prog_11_method_114_code, 2, (some .boolean)),
  (⟨"StruckColoursModel", "again", "(I)Z"⟩, prog_11_method_115_code, 3, (some .boolean)),
  (⟨"StruckColoursModel", "foreign", "()I"⟩, prog_11_method_116_code, 3, (some .int)),
  (⟨"StruckColoursModel", "wholes", "()I"⟩, prog_11_method_117_code, 3, (some .int)),
  (⟨"StruckColoursModel", "count", "(I)I"⟩, prog_11_method_118_code, 2, (some .int)),
  (⟨"StruckColoursModel", "row", "(I)J"⟩, prog_11_method_119_code, 2, (some .long)),
  (⟨"java/lang/Integer", "compare", "(II)I"⟩, prog_14_method_40_code, 2, (some .int)),
  (⟨"java/lang/Integer", "bitCount", "(I)I"⟩, prog_14_method_49_code, 1, (some .int)),
  (⟨"java/lang/Math", "floorMod", "(II)I"⟩, prog_15_method_50_code, 3, (some .int)),
  (⟨"java/lang/Math", "abs", "(I)I"⟩, prog_15_method_59_code, 1, (some .int)),
  (⟨"java/lang/Math", "max", "(II)I"⟩, prog_15_method_65_code, 2, (some .int)),
  (⟨"java/lang/Math", "min", "(II)I"⟩, prog_15_method_69_code, 2, (some .int)),
  (⟨"StruckColoursLaw", "ship", "(LStruckColours;II[J)I"⟩, method_3_code, 5, (some .int)),
  (⟨"StruckColoursLaw", "row", "(LStruckColours;I[J)I"⟩, method_4_code, 4, (some .int)),
  (⟨"StruckColoursLaw", "law", "([I)Z"⟩, code, 8, (some .boolean))]
def mDef : MethodName × ByteArray × Nat × Option FieldType := (⟨"", "", ""⟩, ⟨#[]⟩, 0, none)
def mN (e : Nat) : MethodName := (MTL.getD e mDef).1
def mC (e : Nat) : ByteArray := (MTL.getD e mDef).2.1
def mL (e : Nat) : Nat := (MTL.getD e mDef).2.2.1
def mR (e : Nat) : Option FieldType := (MTL.getD e mDef).2.2.2
end
section
/-! the judgements: a frame of method e (Wp), a call of it (WPc) -/
def ALL : List Cond := lw_tbl.filter goodWord
def isNest (w : Cond) : Bool := match w with
  | .fieldLinkNest .. => true
  | .methodLinkNest .. => true
  | _ => false
def nestW : List Cond := tables_1.filter isNest
def wsM (e : Nat) : List Cond := .code (mN e) (mC e) (mL e) (mR e) :: ALL
theorem nest_warm {w : Cond} (hw : isNest w = true) {s U : State} (hW : s.WarmedH U.vm) (h : va_Nw w s) : va_Nw w U := by
  cases w with
  | fieldLinkNest a i b n d h' => exact va_Nw.warmF hW h
  | methodLinkNest a i x h' => exact va_Nw.warmM hW h
  | _ => cases hw
theorem nest_tab {w : Cond} (hw : isNest w = true) : w.onTables = true := by
  cases w with
  | fieldLinkNest a i b n d h' => rfl
  | methodLinkNest a i x h' => rfl
  | _ => cases hw
/-! static arrays: 2 PLAIN_RULE, 3 FACTORIALS, 4 COLD, 5 the script -/
def sTy (i : Nat) : Nat := if i = 2 then 4 else 0
def sLen (g : GE) (i : Nat) : Nat := if i = 5 then gL g else if i = 4 then 31 else 7
def stL (i : Nat) : List Int := if i = 2 then [115, 42, 50, 43, 111, 45, 101] else if i = 3 then [1, 1, 2, 6, 24, 120, 720] else [0, 2, 1, 5, 7, 3, 10, 4, 13, 15, 6, 18, 20, 8, 23, 9, 26, 28, 11, 31, 12, 34, 36, 14, 39, 41, 16, 44, 17, 47, 49]
def sCt (g : GE) (i j : Nat) : Int := if i = 5 then gX g j else (stL i).getD j 0
def sNm (i : Nat) : String × String := if i = 2 then ("PLAIN_RULE", "[C") else if i = 3 then ("FACTORIALS", "[I") else ("COLD", "[I")
/-- what stays: the tables' words, classes, static arrays -/
def KF (g : GE) (s : State) : Prop :=
  va_K (gD g) vwCl (tyL g) s ∧ (∀ w ∈ nestW, va_Nw w s) ∧ va_AO "StruckColours$Sea" s ∧
  (∀ i, 2 ≤ i → i ≤ 5 → va_T (tyF (sTy i)) (gS g i) (sLen g i) (fun j => .int (Int32.ofInt (sCt g i j))) (Ag g) s s.heap) ∧
  (∀ i, 2 ≤ i → i ≤ 4 → va_Z "StruckColours" (sNm i).1 (sNm i).2 (.ref (gS g i)) (Ag g) s s.heap) ∧
  (∀ i j, b32 (sCt g i j)) ∧ gL g < 2147483648
theorem KF.go {g : GE} {s U : State} {locs : List Loc} (h : KF g s) (hW : s.WarmedH U.vm) (hS : va_S (Ag g) s.heap U.heap locs) : KF g U := by
  obtain ⟨h1, h2, h3, h4, h5, h6, h7⟩ := h
  refine ⟨va_K.moved hW.alike h1, fun w hw => nest_warm (List.mem_filter.mp hw).2 hW (h2 w hw), va_AO.moved hW.alike h3, fun i a b => ?_, fun i a b => ?_, h6, h7⟩
  · exact ((h4 i a b).moved hW.alike).kept fun q q1 q2 => hS.2.1 q q1 q2
  · exact ((h5 i a b).moved hW.alike).kept fun q q1 q2 => hS.2.1 q q1 q2
theorem KF.same {g : GE} {s U : State} (h : KF g s) (hv : s.vm = U.vm) (hh : U.heap = s.heap) : KF g U := by
  obtain ⟨h1, h2, h3, h4, h5, h6, h7⟩ := h
  have hA : s.vm.Alike U.vm := by rw [hv]; exact Vm.Alike.refl _
  refine ⟨va_K.moved hA h1, fun w hw => va_Nw.same (nest_tab (List.mem_filter.mp hw).2) hv (h2 w hw), va_AO.moved hA h3, fun i a b => ?_, fun i a b => ?_, h6, h7⟩
  · rw [hh]; exact (h4 i a b).moved hA
  · rw [hh]; exact (h5 i a b).moved hA
def CxF (g : GE) (e : Nat) (p : Program) (s : State) (m : MethodId) (args : Array Value) (meth : Method) (c : Code) : Prop :=
  p.tables.exec = Jvm.exec ∧ c.code = mC e ∧ meth.sig.returnType = mR e ∧ c.maxLocals = mL e ∧ s.vm.findClass (mN e).cls = some m.cls ∧ (∀ w ∈ ALL, w.before args s = true) ∧ meth.locks = false ∧ meth.name = (mN e).name ∧ KF g s
def okTs (st : List TV) : Prop := ∀ v ∈ st, okT v
def okLs (ls : List (Nat × TV)) : Prop := ∀ q ∈ ls, okT q.2
def cvL (g : GE) (ls : List (Nat × TV)) : List (Nat × Value) := ls.map fun q => (q.1, cv g q.2)
/-- which instruction returns which value -/
def rOK (e : Nat) (i : Instr) (v : Option TV) : Prop := match mR e, v with
  | none, none => i = .return_
  | some .int, some (.inl _) => i = .ireturn
  | some .boolean, some (.inl x) => i = .ireturn ∧ (x = 0 ∨ x = 1)
  | some .char, some (.inl x) => i = .ireturn ∧ 0 ≤ x ∧ x < 65536
  | some .long, some (.inr (.inl _)) => i = .lreturn
  | some (.object _), some (.inr (.inr _)) => i = .areturn
  | _, _ => False
abbrev Post : Type := Option TV → Tau → Mem → Prop
def okO (v : Option TV) : Prop := ∀ x, v = some x → okT x
def RetK (l : Launch) (g : GE) (e : Nat) (Q : Post) (tc ts : Nat) (p : Program) (en : Env) (R : Room) (s : State) (m : MethodId) (args : Array Value) (below : List Frame) (meth : Method) (c : Code) (QM : State → Prop) : Prop :=
  ∀ (v : Option TV) (t : Tau) (σ : Mem) (H : Heap) (locs : List Loc) (cells slots : Nat) (lsA : Array Slot) (pc : Nat) (i : Instr),
    Q v t σ → okO v → Hld g t σ H → va_S (Ag g) s.heap H locs → cells ≤ tc → slots ≤ ts → (gB g = true → s.heap.size + tc ≤ gO g + t.length) → decode (mC e) pc = .ok (i, 1) → rOK e i v →
    W p l en R s m args below meth c H locs cells slots QM (F0 m pc lsA (v.toList.map (cv g)))
def Wp (l : Launch) (g : GE) (e d kc ks pc : Nat) (ls : List (Nat × TV)) (st : List TV) (t : Tau) (σ : Mem) (Q : Post) : Prop :=
  ∀ (p : Program) (en : Env) (R : Room) (s : State) (m : MethodId) (args : Array Value) (below : List Frame) (meth : Method) (c : Code) (H : Heap) (locs : List Loc) (cells slots : Nat) (QM : State → Prop) (lsA : Array Slot),
    CxF g e p s m args meth c → d ≤ R.frames → 64 * d ≤ R.locals → cells + kc ≤ R.cells → slots + ks ≤ R.slots →
    Hld g t σ H → va_S (Ag g) s.heap H locs → (gO g ≤ s.heap.size ∧ (gB g = true → s.heap.size + cells ≤ gO g + t.length)) → lv_has lsA (mL e) (cvL g ls) → okLs ls → okTs st →
    RetK l g e Q (cells + kc) (slots + ks) p en R s m args below meth c QM →
    W p l en R s m args below meth c H locs cells slots QM (F0 m pc lsA (st.map (cv g)))
def PcM (g : GE) (as : List TV) (t : Tau) (σ : Mem) : Array Value → State → Prop := fun a U => a = (as.map (cv g)).toArray ∧ okTs as ∧ KF g U ∧ Hld g t σ U.heap ∧ gO g ≤ U.heap.size ∧ (gB g = true → U.heap.size ≤ gO g + t.length)
def QcM (g : GE) (kc : Nat) (Q : Post) : Array Value → State → Outcome → State → Prop := fun _ st oc u =>
  ∃ (v : Option TV) (t : Tau) (σ : Mem), oc = .returned (v.map (cv g)) ∧ Q v t σ ∧ okO v ∧ Hld g t σ u.heap ∧ va_F (Ag g) st u ∧ (gB g = true → st.heap.size + kc ≤ gO g + t.length)
def rmD (d kc ks : Nat) : Room := { frames := d, cells := kc, slots := ks, locals := 64 * d }
def WPc (l : Launch) (g : GE) (e d kc ks : Nat) (as : List TV) (t : Tau) (σ : Mem) (Q : Post) : Prop :=
  Met l (mN e) (wsM e) (rmD d kc ks) (PcM g as t σ) (QcM g kc Q) kc ks (Ag g)
theorem PcM_blind (g : GE) (as : List TV) (t : Tau) (σ : Mem) : FrameBlind (PcM g as t σ) := by
  intro a U g' mk ⟨h1, h2, h3, h4, h5⟩
  exact ⟨h1, h2, h3.same rfl rfl, h4, h5⟩
/-! locals -/
def lget (i : Nat) : List (Nat × TV) → Option TV
  | [] => none
  | (j, v) :: r => if i = j then some v else lget i r
def lins (i : Nat) (v : TV) : List (Nat × TV) → List (Nat × TV)
  | [] => [(i, v)]
  | (j, w) :: r => if i < j then (i, v) :: (j, w) :: r else (j, w) :: lins i v r
def ldel (i : Nat) : List (Nat × TV) → List (Nat × TV)
  | [] => []
  | (j, w) :: r => if i = j ∨ (j + 1 = i ∧ catT w = 2) then ldel i r else (j, w) :: ldel i r
def ldel2 (i : Nat) : List (Nat × TV) → List (Nat × TV)
  | [] => []
  | (j, w) :: r => if i = j ∨ j = i + 1 ∨ (j + 1 = i ∧ catT w = 2) then ldel2 i r else (j, w) :: ldel2 i r
def lset (i : Nat) (v : TV) (ls : List (Nat × TV)) : List (Nat × TV) := lins i v (if catT v = 2 then ldel2 i ls else ldel i ls)
def lkeep (ks : List Nat) : List (Nat × TV) → List (Nat × TV)
  | [] => []
  | (j, w) :: r => if j ∈ ks then (j, w) :: lkeep ks r else lkeep ks r
theorem lget_mem {i : Nat} {v : TV} : ∀ {ls : List (Nat × TV)}, lget i ls = some v → (i, v) ∈ ls
  | [], h => by cases h
  | (j, w) :: r, h => by
    unfold lget at h
    split at h
    · rename_i hij
      cases h
      rw [hij]
      exact List.mem_cons_self
    · exact List.mem_cons_of_mem _ (lget_mem h)
theorem lins_mem {i : Nat} {v : TV} {q : Nat × TV} : ∀ {ls : List (Nat × TV)}, q ∈ lins i v ls → q = (i, v) ∨ q ∈ ls
  | [], h => by
    simp only [lins, List.mem_singleton] at h
    exact Or.inl h
  | (j, w) :: r, h => by
    unfold lins at h
    split at h
    · rcases List.mem_cons.mp h with h | h
      · exact Or.inl h
      · exact Or.inr h
    · rcases List.mem_cons.mp h with h | h
      · exact Or.inr (h ▸ List.mem_cons_self)
      · rcases lins_mem h with h | h
        · exact Or.inl h
        · exact Or.inr (List.mem_cons_of_mem _ h)
theorem ldel_mem {i : Nat} {q : Nat × TV} : ∀ {ls : List (Nat × TV)}, q ∈ ldel i ls → q ∈ ls ∧ q.1 ≠ i ∧ ¬ (q.1 + 1 = i ∧ catT q.2 = 2)
  | [], h => by cases h
  | (j, w) :: r, h => by
    unfold ldel at h
    split at h
    · exact ⟨List.mem_cons_of_mem _ (ldel_mem h).1, (ldel_mem h).2⟩
    · rename_i hc
      rcases List.mem_cons.mp h with h | h
      · subst h
        exact ⟨List.mem_cons_self, fun z => hc (Or.inl z.symm), fun z => hc (Or.inr z)⟩
      · exact ⟨List.mem_cons_of_mem _ (ldel_mem h).1, (ldel_mem h).2⟩
theorem ldel2_mem {i : Nat} {q : Nat × TV} : ∀ {ls : List (Nat × TV)}, q ∈ ldel2 i ls → q ∈ ls ∧ q.1 ≠ i ∧ q.1 ≠ i + 1 ∧ ¬ (q.1 + 1 = i ∧ catT q.2 = 2)
  | [], h => by cases h
  | (j, w) :: r, h => by
    unfold ldel2 at h
    split at h
    · exact ⟨List.mem_cons_of_mem _ (ldel2_mem h).1, (ldel2_mem h).2⟩
    · rename_i hc
      rcases List.mem_cons.mp h with h | h
      · subst h
        exact ⟨List.mem_cons_self, fun z => hc (Or.inl z.symm), fun z => hc (Or.inr (Or.inl z)), fun z => hc (Or.inr (Or.inr z))⟩
      · exact ⟨List.mem_cons_of_mem _ (ldel2_mem h).1, (ldel2_mem h).2⟩
theorem lkeep_mem {ks : List Nat} {q : Nat × TV} : ∀ {ls : List (Nat × TV)}, q ∈ lkeep ks ls → q ∈ ls
  | [], h => by cases h
  | (j, w) :: r, h => by
    unfold lkeep at h
    split at h
    · rcases List.mem_cons.mp h with h | h
      · exact h ▸ List.mem_cons_self
      · exact List.mem_cons_of_mem _ (lkeep_mem h)
    · exact List.mem_cons_of_mem _ (lkeep_mem h)
theorem lv_has_sub {ls : Array Slot} {n : Nat} {l l' : List (Nat × Value)} (h : lv_has ls n l) (hs : ∀ q ∈ l', q ∈ l) : lv_has ls n l' := ⟨h.1, h.2.1, fun q hq => h.2.2 q (hs q hq)⟩
theorem cvL_mem {g : GE} {ls : List (Nat × TV)} {i : Nat} {v : TV} (h : (i, v) ∈ ls) : (i, cv g v) ∈ cvL g ls := List.mem_map.mpr ⟨(i, v), h, rfl⟩
theorem lv_get {g : GE} {lsA : Array Slot} {n i : Nat} {ls : List (Nat × TV)} {v : TV} (h : lv_has lsA n (cvL g ls)) (hv : lget i ls = some v) : lsA[i]? = some (.val (cv g v)) := h.2.2 (i, cv g v) (cvL_mem (lget_mem hv))
/-- behind a store of a value of one slot -/
theorem lv_put1 {g : GE} {lsA : Array Slot} {n i : Nat} {ls : List (Nat × TV)} {v : TV} (hc : catT v = 1) (h : lv_has lsA n ((i, cv g v) :: (cvL g ls).filter (fun q => !(q.1 == i) && !(q.1 + 1 == i && q.2.category == 2)))) : lv_has lsA n (cvL g (lset i v ls)) := by
  refine lv_has_sub h fun q hq => ?_
  obtain ⟨r, hr, rfl⟩ := List.mem_map.mp hq
  unfold lset at hr
  rw [if_neg (by rw [hc]; decide)] at hr
  rcases lins_mem hr with h1 | h1
  · rw [h1]; exact List.mem_cons_self
  · obtain ⟨h2, h3, h4⟩ := ldel_mem h1
    refine List.mem_cons_of_mem _ (List.mem_filter.mpr ⟨List.mem_map.mpr ⟨r, h2, rfl⟩, ?_⟩)
    simp only [cv_cat, Bool.and_eq_true, Bool.not_eq_true', beq_eq_false_iff_ne, ne_eq, Bool.and_eq_false_iff]
    exact ⟨h3, by by_cases z : r.1 + 1 = i
                  · exact Or.inr (fun y => h4 ⟨z, y⟩)
                  · exact Or.inl z⟩
theorem lv_put2 {g : GE} {lsA : Array Slot} {n i : Nat} {ls : List (Nat × TV)} {v : TV} (hc : catT v = 2) (h : lv_has lsA n ((i, cv g v) :: (cvL g ls).filter (fun q => !(q.1 == i) && (!(q.1 == i + 1) && !(q.1 + 1 == i && q.2.category == 2))))) : lv_has lsA n (cvL g (lset i v ls)) := by
  refine lv_has_sub h fun q hq => ?_
  obtain ⟨r, hr, rfl⟩ := List.mem_map.mp hq
  unfold lset at hr
  rw [if_pos hc] at hr
  rcases lins_mem hr with h1 | h1
  · rw [h1]; exact List.mem_cons_self
  · obtain ⟨h2, h3, h5, h4⟩ := ldel2_mem h1
    refine List.mem_cons_of_mem _ (List.mem_filter.mpr ⟨List.mem_map.mpr ⟨r, h2, rfl⟩, ?_⟩)
    simp only [cv_cat, Bool.and_eq_true, Bool.not_eq_true', beq_eq_false_iff_ne, ne_eq, Bool.and_eq_false_iff]
    exact ⟨h3, h5, by by_cases z : r.1 + 1 = i
                      · exact Or.inr (fun y => h4 ⟨z, y⟩)
                      · exact Or.inl z⟩
theorem okLs_set {ls : List (Nat × TV)} {i : Nat} {v : TV} (h : okLs ls) (hv : okT v) : okLs (lset i v ls) := by
  intro q hq
  unfold lset at hq
  rcases lins_mem hq with h1 | h1
  · rw [h1]; exact hv
  · split at h1
    · exact h q (ldel2_mem h1).1
    · exact h q (ldel_mem h1).1
theorem okLs_get {ls : List (Nat × TV)} {i : Nat} {v : TV} (h : okLs ls) (hv : lget i ls = some v) : okT v := h (i, v) (lget_mem hv)
theorem okTs_cons {v : TV} {st : List TV} (hv : okT v) (h : okTs st) : okTs (v :: st) := fun q hq => by
  rcases List.mem_cons.mp hq with h1 | h1
  · rw [h1]; exact hv
  · exact h q h1
theorem okTs_tl {v : TV} {st : List TV} (h : okTs (v :: st)) : okTs st := fun q hq => h q (List.mem_cons_of_mem _ hq)
theorem okTs_hd {v : TV} {st : List TV} (h : okTs (v :: st)) : okT v := h v List.mem_cons_self
end
section
/-! a rule for each instruction -/
section RUL
variable {l : Launch} {g : GE} {e d kc ks pc : Nat} {ls : List (Nat × TV)} {st : List TV} {t : Tau} {σ : Mem} {Q : Post}
theorem r_pure {pc' : Nat} {st' : List TV} (k : Wp l g e d kc ks pc' ls st' t σ Q) (hok : okTs st → okTs st')
    (hw : ∀ (p : Program) (en : Env) (R : Room) (s : State) (m : MethodId) (args : Array Value) (below : List Frame) (meth : Method) (c : Code) (H : Heap) (locs : List Loc) (cells slots : Nat) (QM : State → Prop) (lsA : Array Slot), CxF g e p s m args meth c → okTs st →
      W p l en R s m args below meth c H locs cells slots QM (F0 m pc' lsA (st'.map (cv g))) → W p l en R s m args below meth c H locs cells slots QM (F0 m pc lsA (st.map (cv g)))) : Wp l g e d kc ks pc ls st t σ Q := by
  intro p en R s m args below meth c H locs cells slots QM lsA hC h1 h2 h3 h4 hH hS hO hl hol hos hr
  exact hw p en R s m args below meth c H locs cells slots QM lsA hC hos (k p en R s m args below meth c H locs cells slots QM lsA hC h1 h2 h3 h4 hH hS hO hl hol (hok hos) hr)
theorem r_lift {pc' pc'' : Nat} {st' st'' : List TV} {A B : Prop} (k1 : A → Wp l g e d kc ks pc' ls st' t σ Q) (k2 : B → Wp l g e d kc ks pc'' ls st'' t σ Q) (hok : okTs st → okTs st') (hok2 : okTs st → okTs st'')
    (hw : ∀ (p : Program) (en : Env) (R : Room) (s : State) (m : MethodId) (args : Array Value) (below : List Frame) (meth : Method) (c : Code) (H : Heap) (locs : List Loc) (cells slots : Nat) (QM : State → Prop) (lsA : Array Slot), CxF g e p s m args meth c → okTs st →
      (A → W p l en R s m args below meth c H locs cells slots QM (F0 m pc' lsA (st'.map (cv g)))) → (B → W p l en R s m args below meth c H locs cells slots QM (F0 m pc'' lsA (st''.map (cv g)))) → W p l en R s m args below meth c H locs cells slots QM (F0 m pc lsA (st.map (cv g)))) : Wp l g e d kc ks pc ls st t σ Q := by
  intro p en R s m args below meth c H locs cells slots QM lsA hC h1 h2 h3 h4 hH hS hO hl hol hos hr
  exact hw p en R s m args below meth c H locs cells slots QM lsA hC hos (fun a => k1 a p en R s m args below meth c H locs cells slots QM lsA hC h1 h2 h3 h4 hH hS hO hl hol (hok hos) hr) (fun b => k2 b p en R s m args below meth c H locs cells slots QM lsA hC h1 h2 h3 h4 hH hS hO hl hol (hok2 hos) hr)
theorem r_iconst {n : Int} (hn : b32 n) (hd : decode (mC e) pc = .ok (.iconst n, 1)) (k : Wp l g e d kc ks (pc + 1) ls (vI n :: st) t σ Q) : Wp l g e d kc ks pc ls st t σ Q :=
  r_pure k (fun h => okTs_cons hn h) (fun _ _ _ _ _ _ _ _ _ _ _ _ _ _ _ hC _ kk => lv_iconst hC.1 hC.2.1 hd rfl kk)
theorem r_bipush {n v : Int} (hn : b32 v) (hv : (Int8.ofInt n).toInt32 = Int32.ofInt v) (hd : decode (mC e) pc = .ok (.bipush n, 2)) (k : Wp l g e d kc ks (pc + 2) ls (vI v :: st) t σ Q) : Wp l g e d kc ks pc ls st t σ Q :=
  r_pure k (fun h => okTs_cons hn h) (fun _ _ _ _ _ _ _ _ _ _ _ _ _ _ _ hC _ kk => lv_bipush hC.1 hC.2.1 hd hv kk)
theorem r_sipush {n v : Int} (hn : b32 v) (hv : (Int16.ofInt n).toInt32 = Int32.ofInt v) (hd : decode (mC e) pc = .ok (.sipush n, 3)) (k : Wp l g e d kc ks (pc + 3) ls (vI v :: st) t σ Q) : Wp l g e d kc ks pc ls st t σ Q :=
  r_pure k (fun h => okTs_cons hn h) (fun _ _ _ _ _ _ _ _ _ _ _ _ _ _ _ hC _ kk => lv_sipush hC.1 hC.2.1 hd hv kk)
theorem r_lconst {n : Fin 2} {v : Int} (hn : b64 v) (hv : Int64.ofNat n = Int64.ofInt v) (hd : decode (mC e) pc = .ok (.lconst n, 1)) (k : Wp l g e d kc ks (pc + 1) ls (vL v :: st) t σ Q) : Wp l g e d kc ks pc ls st t σ Q :=
  r_pure k (fun h => okTs_cons hn h) (fun _ _ _ _ _ _ _ _ _ _ _ _ _ _ _ hC _ kk => lv_lconst hC.1 hC.2.1 hd hv kk)
theorem r_ldc {i : Nat} {v : Int} (hn : b32 v) (hw : Cond.constant (mN e).cls i (Int32.ofInt v) ∈ ALL) (hd : decode (mC e) pc = .ok (.ldc i, 2)) (k : Wp l g e d kc ks (pc + 2) ls (vI v :: st) t σ Q) : Wp l g e d kc ks pc ls st t σ Q :=
  r_pure k (fun h => okTs_cons hn h) (fun _ _ _ _ _ _ _ _ _ _ _ _ _ _ _ hC _ kk => lv_ldc hC.1 hC.2.1 hC.2.2.2.2.1 (hC.2.2.2.2.2.1 _ hw) hd kk)
theorem r_ldcw {i : Nat} {v : Int} (hn : b32 v) (hw : Cond.constant (mN e).cls i (Int32.ofInt v) ∈ ALL) (hd : decode (mC e) pc = .ok (.ldc_w i, 3)) (k : Wp l g e d kc ks (pc + 3) ls (vI v :: st) t σ Q) : Wp l g e d kc ks pc ls st t σ Q :=
  r_pure k (fun h => okTs_cons hn h) (fun _ _ _ _ _ _ _ _ _ _ _ _ _ _ _ hC _ kk => lv_ldcw hC.1 hC.2.1 hC.2.2.2.2.1 (hC.2.2.2.2.2.1 _ hw) hd kk)
theorem r_ldc2 {i : Nat} {v : Int} (hn : b64 v) (hw : Cond.constantLong (mN e).cls i (Int64.ofInt v) ∈ ALL) (hd : decode (mC e) pc = .ok (.ldc2_w i, 3)) (k : Wp l g e d kc ks (pc + 3) ls (vL v :: st) t σ Q) : Wp l g e d kc ks pc ls st t σ Q :=
  r_pure k (fun h => okTs_cons hn h) (fun _ _ _ _ _ _ _ _ _ _ _ _ _ _ _ hC _ kk => lv_ldc2 hC.1 hC.2.1 hC.2.2.2.2.1 (hC.2.2.2.2.2.1 _ hw) hd kk)
theorem r_null (hd : decode (mC e) pc = .ok (.aconst_null, 1)) (k : Wp l g e d kc ks (pc + 1) ls (vR (-1) :: st) t σ Q) : Wp l g e d kc ks pc ls st t σ Q :=
  r_pure k (fun h => okTs_cons trivial h) (fun _ _ _ _ _ _ _ _ _ _ _ _ _ _ _ hC _ kk => lv_null hC.1 hC.2.1 hd (by rw [← rf_null g]; exact kk))

theorem r_iadd {x y : Int} (hd : decode (mC e) pc = .ok (.iadd, 1)) (k : Wp l g e d kc ks (pc + 1) ls (vI (w32 (x + y)) :: st) t σ Q) : Wp l g e d kc ks pc ls (vI y :: vI x :: st) t σ Q :=
  r_pure k (fun h => okTs_cons (w32_b _) (okTs_tl (okTs_tl h))) (fun _ _ _ _ _ _ _ _ _ _ _ _ _ _ _ hC ho kk => lv_iadd (x := Int32.ofInt x) (y := Int32.ofInt y) hC.1 hC.2.1 hd (by rw [of_add]; exact kk))
theorem r_isub {x y : Int} (hd : decode (mC e) pc = .ok (.isub, 1)) (k : Wp l g e d kc ks (pc + 1) ls (vI (w32 (x - y)) :: st) t σ Q) : Wp l g e d kc ks pc ls (vI y :: vI x :: st) t σ Q :=
  r_pure k (fun h => okTs_cons (w32_b _) (okTs_tl (okTs_tl h))) (fun _ _ _ _ _ _ _ _ _ _ _ _ _ _ _ hC ho kk => lv_isub (x := Int32.ofInt x) (y := Int32.ofInt y) hC.1 hC.2.1 hd (by rw [of_sub]; exact kk))
theorem r_imul {x y : Int} (hd : decode (mC e) pc = .ok (.imul, 1)) (k : Wp l g e d kc ks (pc + 1) ls (vI (w32 (x * y)) :: st) t σ Q) : Wp l g e d kc ks pc ls (vI y :: vI x :: st) t σ Q :=
  r_pure k (fun h => okTs_cons (w32_b _) (okTs_tl (okTs_tl h))) (fun _ _ _ _ _ _ _ _ _ _ _ _ _ _ _ hC ho kk => lv_imul (x := Int32.ofInt x) (y := Int32.ofInt y) hC.1 hC.2.1 hd (by rw [of_mul]; exact kk))
theorem r_iand {x y : Int} (hd : decode (mC e) pc = .ok (.iand, 1)) (k : Wp l g e d kc ks (pc + 1) ls (vI (iand x y) :: st) t σ Q) : Wp l g e d kc ks pc ls (vI y :: vI x :: st) t σ Q :=
  r_pure k (fun h => okTs_cons (iand_b _ _) (okTs_tl (okTs_tl h))) (fun _ _ _ _ _ _ _ _ _ _ _ _ _ _ _ hC ho kk => lv_iand (x := Int32.ofInt x) (y := Int32.ofInt y) hC.1 hC.2.1 hd (by rw [of_iand]; exact kk))
theorem r_ior {x y : Int} (hd : decode (mC e) pc = .ok (.ior, 1)) (k : Wp l g e d kc ks (pc + 1) ls (vI (ior x y) :: st) t σ Q) : Wp l g e d kc ks pc ls (vI y :: vI x :: st) t σ Q :=
  r_pure k (fun h => okTs_cons (ior_b _ _) (okTs_tl (okTs_tl h))) (fun _ _ _ _ _ _ _ _ _ _ _ _ _ _ _ hC ho kk => lv_ior (x := Int32.ofInt x) (y := Int32.ofInt y) hC.1 hC.2.1 hd (by rw [of_ior]; exact kk))
theorem r_ixor {x y : Int} (hd : decode (mC e) pc = .ok (.ixor, 1)) (k : Wp l g e d kc ks (pc + 1) ls (vI (ixor x y) :: st) t σ Q) : Wp l g e d kc ks pc ls (vI y :: vI x :: st) t σ Q :=
  r_pure k (fun h => okTs_cons (ixor_b _ _) (okTs_tl (okTs_tl h))) (fun _ _ _ _ _ _ _ _ _ _ _ _ _ _ _ hC ho kk => lv_ixor (x := Int32.ofInt x) (y := Int32.ofInt y) hC.1 hC.2.1 hd (by rw [of_ixor]; exact kk))
theorem r_ishl {x y : Int} (hd : decode (mC e) pc = .ok (.ishl, 1)) (k : Wp l g e d kc ks (pc + 1) ls (vI (ishl x y) :: st) t σ Q) : Wp l g e d kc ks pc ls (vI y :: vI x :: st) t σ Q :=
  r_pure k (fun h => okTs_cons (ishl_b _ _) (okTs_tl (okTs_tl h))) (fun _ _ _ _ _ _ _ _ _ _ _ _ _ _ _ hC ho kk => lv_ishl (x := Int32.ofInt x) (y := Int32.ofInt y) hC.1 hC.2.1 hd (by rw [of_ishl]; exact kk))
theorem r_ishr {x y : Int} (hd : decode (mC e) pc = .ok (.ishr, 1)) (k : Wp l g e d kc ks (pc + 1) ls (vI (ishr x y) :: st) t σ Q) : Wp l g e d kc ks pc ls (vI y :: vI x :: st) t σ Q :=
  r_pure k (fun h => okTs_cons (ishr_b _ _) (okTs_tl (okTs_tl h))) (fun _ _ _ _ _ _ _ _ _ _ _ _ _ _ _ hC ho kk => lv_ishr (x := Int32.ofInt x) (y := Int32.ofInt y) hC.1 hC.2.1 hd (by rw [of_ishr]; exact kk))
theorem r_iushr {x y : Int} (hd : decode (mC e) pc = .ok (.iushr, 1)) (k : Wp l g e d kc ks (pc + 1) ls (vI (iushr x y) :: st) t σ Q) : Wp l g e d kc ks pc ls (vI y :: vI x :: st) t σ Q :=
  r_pure k (fun h => okTs_cons (iushr_b _ _) (okTs_tl (okTs_tl h))) (fun _ _ _ _ _ _ _ _ _ _ _ _ _ _ _ hC ho kk => lv_iushr (x := Int32.ofInt x) (y := Int32.ofInt y) (v := Int32.ofInt (iushr x y)) hC.1 hC.2.1 hd (of_iushr x y) kk)
theorem r_idiv {x y : Int} (hne : y ≠ 0) (hd : decode (mC e) pc = .ok (.idiv, 1)) (k : Wp l g e d kc ks (pc + 1) ls (vI (w32 (x.tdiv y)) :: st) t σ Q) : Wp l g e d kc ks pc ls (vI y :: vI x :: st) t σ Q :=
  r_pure k (fun h => okTs_cons (w32_b _) (okTs_tl (okTs_tl h))) (fun _ _ _ _ _ _ _ _ _ _ _ _ _ _ _ hC ho kk => by
    have hy : b32 y := okTs_hd ho
    have hx : b32 x := okTs_hd (okTs_tl ho)
    exact lv_idiv (x := Int32.ofInt x) (y := Int32.ofInt y) hC.1 hC.2.1 hd (fun z => hne ((eq_of hy b32_0).mp (by rw [z]; rfl))) (by rw [of_div hx hy]; exact kk))
theorem r_irem {x y : Int} (hne : y ≠ 0) (hd : decode (mC e) pc = .ok (.irem, 1)) (k : Wp l g e d kc ks (pc + 1) ls (vI (w32 (x.tmod y)) :: st) t σ Q) : Wp l g e d kc ks pc ls (vI y :: vI x :: st) t σ Q :=
  r_pure k (fun h => okTs_cons (w32_b _) (okTs_tl (okTs_tl h))) (fun _ _ _ _ _ _ _ _ _ _ _ _ _ _ _ hC ho kk => by
    have hy : b32 y := okTs_hd ho
    have hx : b32 x := okTs_hd (okTs_tl ho)
    exact lv_irem (x := Int32.ofInt x) (y := Int32.ofInt y) hC.1 hC.2.1 hd (fun z => hne ((eq_of hy b32_0).mp (by rw [z]; rfl))) (by rw [of_rem hx hy]; exact kk))
theorem r_ineg {x : Int} (hd : decode (mC e) pc = .ok (.ineg, 1)) (k : Wp l g e d kc ks (pc + 1) ls (vI (w32 (-x)) :: st) t σ Q) : Wp l g e d kc ks pc ls (vI x :: st) t σ Q :=
  r_pure k (fun h => okTs_cons (w32_b _) (okTs_tl h)) (fun _ _ _ _ _ _ _ _ _ _ _ _ _ _ _ hC ho kk => lv_ineg (x := Int32.ofInt x) hC.1 hC.2.1 hd (by rw [of_neg]; exact kk))
theorem r_ladd {x y : Int} (hd : decode (mC e) pc = .ok (.ladd, 1)) (k : Wp l g e d kc ks (pc + 1) ls (vL (w64 (x + y)) :: st) t σ Q) : Wp l g e d kc ks pc ls (vL y :: vL x :: st) t σ Q :=
  r_pure k (fun h => okTs_cons (w64_b _) (okTs_tl (okTs_tl h))) (fun _ _ _ _ _ _ _ _ _ _ _ _ _ _ _ hC ho kk => lv_ladd (x := Int64.ofInt x) (y := Int64.ofInt y) hC.1 hC.2.1 hd (by rw [of_add64]; exact kk))
theorem r_lsub {x y : Int} (hd : decode (mC e) pc = .ok (.lsub, 1)) (k : Wp l g e d kc ks (pc + 1) ls (vL (w64 (x - y)) :: st) t σ Q) : Wp l g e d kc ks pc ls (vL y :: vL x :: st) t σ Q :=
  r_pure k (fun h => okTs_cons (w64_b _) (okTs_tl (okTs_tl h))) (fun _ _ _ _ _ _ _ _ _ _ _ _ _ _ _ hC ho kk => lv_lsub (x := Int64.ofInt x) (y := Int64.ofInt y) hC.1 hC.2.1 hd (by rw [of_sub64]; exact kk))
theorem r_lmul {x y : Int} (hd : decode (mC e) pc = .ok (.lmul, 1)) (k : Wp l g e d kc ks (pc + 1) ls (vL (w64 (x * y)) :: st) t σ Q) : Wp l g e d kc ks pc ls (vL y :: vL x :: st) t σ Q :=
  r_pure k (fun h => okTs_cons (w64_b _) (okTs_tl (okTs_tl h))) (fun _ _ _ _ _ _ _ _ _ _ _ _ _ _ _ hC ho kk => lv_lmul (x := Int64.ofInt x) (y := Int64.ofInt y) hC.1 hC.2.1 hd (by rw [of_mul64]; exact kk))
theorem r_ldiv {x y : Int} (hne : y ≠ 0) (hd : decode (mC e) pc = .ok (.ldiv, 1)) (k : Wp l g e d kc ks (pc + 1) ls (vL (w64 (x.tdiv y)) :: st) t σ Q) : Wp l g e d kc ks pc ls (vL y :: vL x :: st) t σ Q :=
  r_pure k (fun h => okTs_cons (w64_b _) (okTs_tl (okTs_tl h))) (fun _ _ _ _ _ _ _ _ _ _ _ _ _ _ _ hC ho kk => by
    have hy : b64 y := okTs_hd ho
    have hx : b64 x := okTs_hd (okTs_tl ho)
    exact lv_ldiv (x := Int64.ofInt x) (y := Int64.ofInt y) hC.1 hC.2.1 hd (fun z => hne (by rw [← to_of64 hy, z]; rfl)) (by rw [of_div64 hx hy]; exact kk))
theorem r_lrem {x y : Int} (hne : y ≠ 0) (hd : decode (mC e) pc = .ok (.lrem, 1)) (k : Wp l g e d kc ks (pc + 1) ls (vL (w64 (x.tmod y)) :: st) t σ Q) : Wp l g e d kc ks pc ls (vL y :: vL x :: st) t σ Q :=
  r_pure k (fun h => okTs_cons (w64_b _) (okTs_tl (okTs_tl h))) (fun _ _ _ _ _ _ _ _ _ _ _ _ _ _ _ hC ho kk => by
    have hy : b64 y := okTs_hd ho
    have hx : b64 x := okTs_hd (okTs_tl ho)
    exact lv_lrem (x := Int64.ofInt x) (y := Int64.ofInt y) hC.1 hC.2.1 hd (fun z => hne (by rw [← to_of64 hy, z]; rfl)) (by rw [of_rem64 hx hy]; exact kk))
theorem r_lcmp {x y : Int} (hd : decode (mC e) pc = .ok (.lcmp, 1)) (k : Wp l g e d kc ks (pc + 1) ls (vI (icmp x y) :: st) t σ Q) : Wp l g e d kc ks pc ls (vL y :: vL x :: st) t σ Q :=
  r_pure k (fun h => okTs_cons (icmp_b _ _) (okTs_tl (okTs_tl h))) (fun _ _ _ _ _ _ _ _ _ _ _ _ _ _ _ hC ho kk => W.lcmp (x := Int64.ofInt x) (y := Int64.ofInt y) hC.1 hC.2.1 hd (by rw [of_cmp (okTs_hd (okTs_tl ho)) (okTs_hd ho)]; exact kk))
theorem r_i2l {x : Int} (hd : decode (mC e) pc = .ok (.i2l, 1)) (k : Wp l g e d kc ks (pc + 1) ls (vL x :: st) t σ Q) : Wp l g e d kc ks pc ls (vI x :: st) t σ Q :=
  r_pure k (fun h => okTs_cons (b64_of (okTs_hd h)) (okTs_tl h)) (fun _ _ _ _ _ _ _ _ _ _ _ _ _ _ _ hC ho kk => lv_i2l (x := Int32.ofInt x) hC.1 hC.2.1 hd (of_i2l (okTs_hd ho)) kk)
theorem r_i2b {x : Int} (hd : decode (mC e) pc = .ok (.i2b, 1)) (k : Wp l g e d kc ks (pc + 1) ls (vI (i8 x) :: st) t σ Q) : Wp l g e d kc ks pc ls (vI x :: st) t σ Q :=
  r_pure k (fun h => okTs_cons (i8_b _) (okTs_tl h)) (fun _ _ _ _ _ _ _ _ _ _ _ _ _ _ _ hC ho kk => lv_i2b (x := Int32.ofInt x) (v := Int32.ofInt (i8 x)) hC.1 hC.2.1 hd (of_i8 x) kk)
theorem r_i2s {x : Int} (hd : decode (mC e) pc = .ok (.i2s, 1)) (k : Wp l g e d kc ks (pc + 1) ls (vI (i16 x) :: st) t σ Q) : Wp l g e d kc ks pc ls (vI x :: st) t σ Q :=
  r_pure k (fun h => okTs_cons (i16_b _) (okTs_tl h)) (fun _ _ _ _ _ _ _ _ _ _ _ _ _ _ _ hC ho kk => lv_i2s (x := Int32.ofInt x) (v := Int32.ofInt (i16 x)) hC.1 hC.2.1 hd (of_i16 x) kk)
theorem r_i2c {x : Int} (hd : decode (mC e) pc = .ok (.i2c, 1)) (k : Wp l g e d kc ks (pc + 1) ls (vI (iu16 x) :: st) t σ Q) : Wp l g e d kc ks pc ls (vI x :: st) t σ Q :=
  r_pure k (fun h => okTs_cons (iu16_b _) (okTs_tl h)) (fun _ _ _ _ _ _ _ _ _ _ _ _ _ _ _ hC ho kk => lv_i2c (x := Int32.ofInt x) (v := Int32.ofInt (iu16 x)) hC.1 hC.2.1 hd (of_iu16 x) kk)
theorem r_dup {v : TV} (hc : catT v = 1) (hd : decode (mC e) pc = .ok (.dup, 1)) (k : Wp l g e d kc ks (pc + 1) ls (v :: v :: st) t σ Q) : Wp l g e d kc ks pc ls (v :: st) t σ Q :=
  r_pure k (fun h => okTs_cons (okTs_hd h) h) (fun _ _ _ _ _ _ _ _ _ _ _ _ _ _ _ hC ho kk => lv_dup hC.1 hC.2.1 hd (by rw [cv_cat]; exact hc) kk)
theorem r_pop {v : TV} (hc : catT v = 1) (hd : decode (mC e) pc = .ok (.pop, 1)) (k : Wp l g e d kc ks (pc + 1) ls st t σ Q) : Wp l g e d kc ks pc ls (v :: st) t σ Q :=
  r_pure k (fun h => okTs_tl h) (fun _ _ _ _ _ _ _ _ _ _ _ _ _ _ _ hC ho kk => lv_pop hC.1 hC.2.1 hd (by rw [cv_cat]; exact hc) kk)
theorem r_dup_x1 {v w : TV} (hc : catT v = 1) (hc2 : catT w = 1) (hd : decode (mC e) pc = .ok (.dup_x1, 1)) (k : Wp l g e d kc ks (pc + 1) ls (v :: w :: v :: st) t σ Q) : Wp l g e d kc ks pc ls (v :: w :: st) t σ Q :=
  r_pure k (fun h => okTs_cons (okTs_hd h) (okTs_cons (okTs_hd (okTs_tl h)) (okTs_cons (okTs_hd h) (okTs_tl (okTs_tl h))))) (fun _ _ _ _ _ _ _ _ _ _ _ _ _ _ _ hC ho kk => lv_dup_x1 hC.1 hC.2.1 hd (by rw [cv_cat]; exact hc) (by rw [cv_cat]; exact hc2) kk)
theorem r_dup2 {v w : TV} (hc : catT v = 1) (hc2 : catT w = 1) (hd : decode (mC e) pc = .ok (.dup2, 1)) (k : Wp l g e d kc ks (pc + 1) ls (v :: w :: v :: w :: st) t σ Q) : Wp l g e d kc ks pc ls (v :: w :: st) t σ Q :=
  r_pure k (fun h => okTs_cons (okTs_hd h) (okTs_cons (okTs_hd (okTs_tl h)) h)) (fun _ _ _ _ _ _ _ _ _ _ _ _ _ _ _ hC ho kk => lv_dup2_11 hC.1 hC.2.1 hd (by rw [cv_cat]; exact hc) (by rw [cv_cat]; exact hc2) kk)
theorem r_goto {off : Int} {tgt : Nat} (hd : decode (mC e) pc = .ok (.goto off, 3)) (ht : (pc : Int) + off = tgt) (k : Wp l g e d kc ks tgt ls st t σ Q) : Wp l g e d kc ks pc ls st t σ Q :=
  r_pure k (fun h => h) (fun _ _ _ _ _ _ _ _ _ _ _ _ _ _ _ hC ho kk => lv_goto hC.1 hC.2.1 hd ht kk)
theorem r_if_eq {x : Int} {off : Int} {tgt : Nat} (hd : decode (mC e) pc = .ok (.ifCond .eq off, 3)) (ht : (pc : Int) + off = tgt) (k1 : x = 0 → Wp l g e d kc ks tgt ls st t σ Q) (k2 : ¬ (x = 0) → Wp l g e d kc ks (pc + 3) ls st t σ Q) : Wp l g e d kc ks pc ls (vI x :: st) t σ Q :=
  r_lift k1 k2 (fun h => okTs_tl h) (fun h => okTs_tl h) (fun _ _ _ _ _ _ _ _ _ _ _ _ _ _ _ hC ho q1 q2 => by
    have hx : b32 x := okTs_hd ho
    have h : _ ↔ x = 0 := eq_of hx b32_0
    exact lv_if_eq (x := Int32.ofInt x) hC.1 hC.2.1 hd ht (fun z => q1 (h.mp z)) (fun z => q2 (fun y => z (h.mpr y))))
theorem r_icmp_eq {x y : Int} {off : Int} {tgt : Nat} (hd : decode (mC e) pc = .ok (.if_icmp .eq off, 3)) (ht : (pc : Int) + off = tgt) (k1 : x = y → Wp l g e d kc ks tgt ls st t σ Q) (k2 : ¬ (x = y) → Wp l g e d kc ks (pc + 3) ls st t σ Q) : Wp l g e d kc ks pc ls (vI y :: vI x :: st) t σ Q :=
  r_lift k1 k2 (fun h => okTs_tl (okTs_tl h)) (fun h => okTs_tl (okTs_tl h)) (fun _ _ _ _ _ _ _ _ _ _ _ _ _ _ _ hC ho q1 q2 => by
    have hy : b32 y := okTs_hd ho
    have hx : b32 x := okTs_hd (okTs_tl ho)
    have h : _ ↔ x = y := eq_of hx hy
    exact lv_icmp_eq (x := Int32.ofInt x) (y := Int32.ofInt y) hC.1 hC.2.1 hd ht (fun z => q1 (h.mp z)) (fun z => q2 (fun y => z (h.mpr y))))
theorem r_if_ne {x : Int} {off : Int} {tgt : Nat} (hd : decode (mC e) pc = .ok (.ifCond .ne off, 3)) (ht : (pc : Int) + off = tgt) (k1 : x ≠ 0 → Wp l g e d kc ks tgt ls st t σ Q) (k2 : ¬ (x ≠ 0) → Wp l g e d kc ks (pc + 3) ls st t σ Q) : Wp l g e d kc ks pc ls (vI x :: st) t σ Q :=
  r_lift k1 k2 (fun h => okTs_tl h) (fun h => okTs_tl h) (fun _ _ _ _ _ _ _ _ _ _ _ _ _ _ _ hC ho q1 q2 => by
    have hx : b32 x := okTs_hd ho
    have h : _ ↔ x ≠ 0 := not_congr (eq_of hx b32_0)
    exact lv_if_ne (x := Int32.ofInt x) hC.1 hC.2.1 hd ht (fun z => q1 (h.mp z)) (fun z => q2 (fun y => h.mpr y z)))
theorem r_icmp_ne {x y : Int} {off : Int} {tgt : Nat} (hd : decode (mC e) pc = .ok (.if_icmp .ne off, 3)) (ht : (pc : Int) + off = tgt) (k1 : x ≠ y → Wp l g e d kc ks tgt ls st t σ Q) (k2 : ¬ (x ≠ y) → Wp l g e d kc ks (pc + 3) ls st t σ Q) : Wp l g e d kc ks pc ls (vI y :: vI x :: st) t σ Q :=
  r_lift k1 k2 (fun h => okTs_tl (okTs_tl h)) (fun h => okTs_tl (okTs_tl h)) (fun _ _ _ _ _ _ _ _ _ _ _ _ _ _ _ hC ho q1 q2 => by
    have hy : b32 y := okTs_hd ho
    have hx : b32 x := okTs_hd (okTs_tl ho)
    have h : _ ↔ x ≠ y := not_congr (eq_of hx hy)
    exact lv_icmp_ne (x := Int32.ofInt x) (y := Int32.ofInt y) hC.1 hC.2.1 hd ht (fun z => q1 (h.mp z)) (fun z => q2 (fun y => h.mpr y z)))
theorem r_if_lt {x : Int} {off : Int} {tgt : Nat} (hd : decode (mC e) pc = .ok (.ifCond .lt off, 3)) (ht : (pc : Int) + off = tgt) (k1 : x < 0 → Wp l g e d kc ks tgt ls st t σ Q) (k2 : ¬ (x < 0) → Wp l g e d kc ks (pc + 3) ls st t σ Q) : Wp l g e d kc ks pc ls (vI x :: st) t σ Q :=
  r_lift k1 k2 (fun h => okTs_tl h) (fun h => okTs_tl h) (fun _ _ _ _ _ _ _ _ _ _ _ _ _ _ _ hC ho q1 q2 => by
    have hx : b32 x := okTs_hd ho
    have h : _ ↔ x < 0 := lt_of hx b32_0
    exact lv_if_lt (x := Int32.ofInt x) hC.1 hC.2.1 hd ht (fun z => q1 (h.mp z)) (fun z => q2 (fun y => z (h.mpr y))))
theorem r_icmp_lt {x y : Int} {off : Int} {tgt : Nat} (hd : decode (mC e) pc = .ok (.if_icmp .lt off, 3)) (ht : (pc : Int) + off = tgt) (k1 : x < y → Wp l g e d kc ks tgt ls st t σ Q) (k2 : ¬ (x < y) → Wp l g e d kc ks (pc + 3) ls st t σ Q) : Wp l g e d kc ks pc ls (vI y :: vI x :: st) t σ Q :=
  r_lift k1 k2 (fun h => okTs_tl (okTs_tl h)) (fun h => okTs_tl (okTs_tl h)) (fun _ _ _ _ _ _ _ _ _ _ _ _ _ _ _ hC ho q1 q2 => by
    have hy : b32 y := okTs_hd ho
    have hx : b32 x := okTs_hd (okTs_tl ho)
    have h : _ ↔ x < y := lt_of hx hy
    exact lv_icmp_lt (x := Int32.ofInt x) (y := Int32.ofInt y) hC.1 hC.2.1 hd ht (fun z => q1 (h.mp z)) (fun z => q2 (fun y => z (h.mpr y))))
theorem r_if_ge {x : Int} {off : Int} {tgt : Nat} (hd : decode (mC e) pc = .ok (.ifCond .ge off, 3)) (ht : (pc : Int) + off = tgt) (k1 : 0 ≤ x → Wp l g e d kc ks tgt ls st t σ Q) (k2 : ¬ (0 ≤ x) → Wp l g e d kc ks (pc + 3) ls st t σ Q) : Wp l g e d kc ks pc ls (vI x :: st) t σ Q :=
  r_lift k1 k2 (fun h => okTs_tl h) (fun h => okTs_tl h) (fun _ _ _ _ _ _ _ _ _ _ _ _ _ _ _ hC ho q1 q2 => by
    have hx : b32 x := okTs_hd ho
    have h : _ ↔ 0 ≤ x := le_of b32_0 hx
    exact lv_if_ge (x := Int32.ofInt x) hC.1 hC.2.1 hd ht (fun z => q1 (h.mp z)) (fun z => q2 (fun y => z (h.mpr y))))
theorem r_icmp_ge {x y : Int} {off : Int} {tgt : Nat} (hd : decode (mC e) pc = .ok (.if_icmp .ge off, 3)) (ht : (pc : Int) + off = tgt) (k1 : y ≤ x → Wp l g e d kc ks tgt ls st t σ Q) (k2 : ¬ (y ≤ x) → Wp l g e d kc ks (pc + 3) ls st t σ Q) : Wp l g e d kc ks pc ls (vI y :: vI x :: st) t σ Q :=
  r_lift k1 k2 (fun h => okTs_tl (okTs_tl h)) (fun h => okTs_tl (okTs_tl h)) (fun _ _ _ _ _ _ _ _ _ _ _ _ _ _ _ hC ho q1 q2 => by
    have hy : b32 y := okTs_hd ho
    have hx : b32 x := okTs_hd (okTs_tl ho)
    have h : _ ↔ y ≤ x := le_of hy hx
    exact lv_icmp_ge (x := Int32.ofInt x) (y := Int32.ofInt y) hC.1 hC.2.1 hd ht (fun z => q1 (h.mp z)) (fun z => q2 (fun y => z (h.mpr y))))
theorem r_if_gt {x : Int} {off : Int} {tgt : Nat} (hd : decode (mC e) pc = .ok (.ifCond .gt off, 3)) (ht : (pc : Int) + off = tgt) (k1 : 0 < x → Wp l g e d kc ks tgt ls st t σ Q) (k2 : ¬ (0 < x) → Wp l g e d kc ks (pc + 3) ls st t σ Q) : Wp l g e d kc ks pc ls (vI x :: st) t σ Q :=
  r_lift k1 k2 (fun h => okTs_tl h) (fun h => okTs_tl h) (fun _ _ _ _ _ _ _ _ _ _ _ _ _ _ _ hC ho q1 q2 => by
    have hx : b32 x := okTs_hd ho
    have h : _ ↔ 0 < x := lt_of b32_0 hx
    exact lv_if_gt (x := Int32.ofInt x) hC.1 hC.2.1 hd ht (fun z => q1 (h.mp z)) (fun z => q2 (fun y => z (h.mpr y))))
theorem r_icmp_gt {x y : Int} {off : Int} {tgt : Nat} (hd : decode (mC e) pc = .ok (.if_icmp .gt off, 3)) (ht : (pc : Int) + off = tgt) (k1 : y < x → Wp l g e d kc ks tgt ls st t σ Q) (k2 : ¬ (y < x) → Wp l g e d kc ks (pc + 3) ls st t σ Q) : Wp l g e d kc ks pc ls (vI y :: vI x :: st) t σ Q :=
  r_lift k1 k2 (fun h => okTs_tl (okTs_tl h)) (fun h => okTs_tl (okTs_tl h)) (fun _ _ _ _ _ _ _ _ _ _ _ _ _ _ _ hC ho q1 q2 => by
    have hy : b32 y := okTs_hd ho
    have hx : b32 x := okTs_hd (okTs_tl ho)
    have h : _ ↔ y < x := lt_of hy hx
    exact lv_icmp_gt (x := Int32.ofInt x) (y := Int32.ofInt y) hC.1 hC.2.1 hd ht (fun z => q1 (h.mp z)) (fun z => q2 (fun y => z (h.mpr y))))
theorem r_if_le {x : Int} {off : Int} {tgt : Nat} (hd : decode (mC e) pc = .ok (.ifCond .le off, 3)) (ht : (pc : Int) + off = tgt) (k1 : x ≤ 0 → Wp l g e d kc ks tgt ls st t σ Q) (k2 : ¬ (x ≤ 0) → Wp l g e d kc ks (pc + 3) ls st t σ Q) : Wp l g e d kc ks pc ls (vI x :: st) t σ Q :=
  r_lift k1 k2 (fun h => okTs_tl h) (fun h => okTs_tl h) (fun _ _ _ _ _ _ _ _ _ _ _ _ _ _ _ hC ho q1 q2 => by
    have hx : b32 x := okTs_hd ho
    have h : _ ↔ x ≤ 0 := le_of hx b32_0
    exact lv_if_le (x := Int32.ofInt x) hC.1 hC.2.1 hd ht (fun z => q1 (h.mp z)) (fun z => q2 (fun y => z (h.mpr y))))
theorem r_icmp_le {x y : Int} {off : Int} {tgt : Nat} (hd : decode (mC e) pc = .ok (.if_icmp .le off, 3)) (ht : (pc : Int) + off = tgt) (k1 : x ≤ y → Wp l g e d kc ks tgt ls st t σ Q) (k2 : ¬ (x ≤ y) → Wp l g e d kc ks (pc + 3) ls st t σ Q) : Wp l g e d kc ks pc ls (vI y :: vI x :: st) t σ Q :=
  r_lift k1 k2 (fun h => okTs_tl (okTs_tl h)) (fun h => okTs_tl (okTs_tl h)) (fun _ _ _ _ _ _ _ _ _ _ _ _ _ _ _ hC ho q1 q2 => by
    have hy : b32 y := okTs_hd ho
    have hx : b32 x := okTs_hd (okTs_tl ho)
    have h : _ ↔ x ≤ y := le_of hx hy
    exact lv_icmp_le (x := Int32.ofInt x) (y := Int32.ofInt y) hC.1 hC.2.1 hd ht (fun z => q1 (h.mp z)) (fun z => q2 (fun y => z (h.mpr y))))
/-- a reference on the stack is null, or none -/
theorem rf_cases (g : GE) (x : Int) : (x = -1 ∧ rf g x = .null) ∨ (x ≠ -1 ∧ ∃ a, rf g x = .ref a) := by
  unfold rf
  by_cases h : 0 ≤ x
  · rw [if_pos h]; exact Or.inr ⟨by omega, _, rfl⟩
  · by_cases h2 : x = -1
    · rw [if_neg h, if_pos h2]; exact Or.inl ⟨h2, rfl⟩
    · rw [if_neg h, if_neg h2]; exact Or.inr ⟨h2, _, rfl⟩
theorem r_ifnull {x : Int} {off : Int} {tgt : Nat} (hd : decode (mC e) pc = .ok (.ifnull off, 3)) (ht : (pc : Int) + off = tgt) (k1 : x = -1 → Wp l g e d kc ks tgt ls st t σ Q) (k2 : ¬ (x = -1) → Wp l g e d kc ks (pc + 3) ls st t σ Q) : Wp l g e d kc ks pc ls (vR x :: st) t σ Q :=
  r_lift k1 k2 (fun h => okTs_tl h) (fun h => okTs_tl h) (fun _ _ _ _ _ _ _ _ _ _ _ _ _ _ _ hC ho q1 q2 => by
    show W _ _ _ _ _ _ _ _ _ _ _ _ _ _ _ (F0 _ _ _ (rf g x :: _))
    rcases rf_cases g x with ⟨h1, h2⟩ | ⟨h1, a, h2⟩
    · rw [h2]; exact lv_ifnullN hC.1 hC.2.1 hd ht (q1 h1)
    · rw [h2]; exact lv_ifnull hC.1 hC.2.1 hd (q2 h1))
theorem r_ifnonnull {x : Int} {off : Int} {tgt : Nat} (hd : decode (mC e) pc = .ok (.ifnonnull off, 3)) (ht : (pc : Int) + off = tgt) (k1 : ¬ (x = -1) → Wp l g e d kc ks tgt ls st t σ Q) (k2 : x = -1 → Wp l g e d kc ks (pc + 3) ls st t σ Q) : Wp l g e d kc ks pc ls (vR x :: st) t σ Q :=
  r_lift k1 k2 (fun h => okTs_tl h) (fun h => okTs_tl h) (fun _ _ _ _ _ _ _ _ _ _ _ _ _ _ _ hC ho q1 q2 => by
    show W _ _ _ _ _ _ _ _ _ _ _ _ _ _ _ (F0 _ _ _ (rf g x :: _))
    rcases rf_cases g x with ⟨h1, h2⟩ | ⟨h1, a, h2⟩
    · rw [h2]; exact lv_ifnonnullN hC.1 hC.2.1 hd (q2 h1)
    · rw [h2]; exact lv_ifnonnull hC.1 hC.2.1 hd ht (q1 h1))
theorem r_lookup {dflt : Int} {ps : Array (Int × Int)} {len : Nat} {x off : Int} {tgt : Nat} (hd : decode (mC e) pc = .ok (.lookupswitch dflt ps, len)) (hp : (ps.toList.zip (ps.toList.drop 1)).all (fun (a, next) => a.1 < next.1) = true) (ho : Op.lookupswitch.offset ps.toList dflt x = off) (ht : (pc : Int) + off = tgt) (k : Wp l g e d kc ks tgt ls st t σ Q) : Wp l g e d kc ks pc ls (vI x :: st) t σ Q :=
  r_pure k (fun h => okTs_tl h) (fun _ _ _ _ _ _ _ _ _ _ _ _ _ _ _ hC hos kk => lv_lookup (x := Int32.ofInt x) hC.1 hC.2.1 hd hp (by rw [to_of (okTs_hd hos)]; exact ho) ht kk)
theorem r_tableOut {dflt lo hi : Int} {offs : Array Int} {len : Nat} {x : Int} {tgt : Nat} (hd : decode (mC e) pc = .ok (.tableswitch dflt lo hi offs, len)) (h : x < lo ∨ hi < x) (ht : (pc : Int) + dflt = tgt) (k : Wp l g e d kc ks tgt ls st t σ Q) : Wp l g e d kc ks pc ls (vI x :: st) t σ Q :=
  r_pure k (fun h => okTs_tl h) (fun _ _ _ _ _ _ _ _ _ _ _ _ _ _ _ hC hos kk => lv_tableOut (x := Int32.ofInt x) hC.1 hC.2.1 hd (by rw [to_of (okTs_hd hos)]; exact h) ht kk)
theorem r_tableIn {dflt lo hi : Int} {offs : Array Int} {len : Nat} {x off : Int} {tgt : Nat} (hd : decode (mC e) pc = .ok (.tableswitch dflt lo hi offs, len)) (h1 : ¬ x < lo) (h2 : ¬ hi < x) (ho : offs[(x - lo).toNat]? = some off) (ht : (pc : Int) + off = tgt) (k : Wp l g e d kc ks tgt ls st t σ Q) : Wp l g e d kc ks pc ls (vI x :: st) t σ Q :=
  r_pure k (fun h => okTs_tl h) (fun _ _ _ _ _ _ _ _ _ _ _ _ _ _ _ hC hos kk => by
    have hx : b32 x := okTs_hd hos
    exact lv_tableIn (x := Int32.ofInt x) hC.1 hC.2.1 hd (by rw [to_of hx]; exact h1) (by rw [to_of hx]; exact h2) (by rw [to_of hx]; exact ho) ht kk)
theorem r_iload {i : Nat} {x : Int} (hg : lget i ls = some (vI x)) (hd : decode (mC e) pc = .ok (.iload i, 2)) (k : Wp l g e d kc ks (pc + 2) ls (vI x :: st) t σ Q) : Wp l g e d kc ks pc ls st t σ Q := by
  intro p en R s m args below meth c H locs cells slots QM lsA hC h1 h2 h3 h4 hH hS hO hl hol hos hr
  exact lv_iload hC.1 hC.2.1 hd (lv_get hl hg) (k p en R s m args below meth c H locs cells slots QM lsA hC h1 h2 h3 h4 hH hS hO hl hol (okTs_cons (okLs_get hol hg) hos) hr)
theorem r_iload_n {i : Fin 4} {x : Int} (hg : lget i ls = some (vI x)) (hd : decode (mC e) pc = .ok (.iload_n i, 1)) (k : Wp l g e d kc ks (pc + 1) ls (vI x :: st) t σ Q) : Wp l g e d kc ks pc ls st t σ Q := by
  intro p en R s m args below meth c H locs cells slots QM lsA hC h1 h2 h3 h4 hH hS hO hl hol hos hr
  exact lv_iload_n hC.1 hC.2.1 hd rfl (lv_get hl hg) (k p en R s m args below meth c H locs cells slots QM lsA hC h1 h2 h3 h4 hH hS hO hl hol (okTs_cons (okLs_get hol hg) hos) hr)
theorem r_lload {i : Nat} {x : Int} (hg : lget i ls = some (vL x)) (hd : decode (mC e) pc = .ok (.lload i, 2)) (k : Wp l g e d kc ks (pc + 2) ls (vL x :: st) t σ Q) : Wp l g e d kc ks pc ls st t σ Q := by
  intro p en R s m args below meth c H locs cells slots QM lsA hC h1 h2 h3 h4 hH hS hO hl hol hos hr
  exact lv_lload hC.1 hC.2.1 hd (lv_get hl hg) (k p en R s m args below meth c H locs cells slots QM lsA hC h1 h2 h3 h4 hH hS hO hl hol (okTs_cons (okLs_get hol hg) hos) hr)
theorem r_lload_n {i : Fin 4} {x : Int} (hg : lget i ls = some (vL x)) (hd : decode (mC e) pc = .ok (.lload_n i, 1)) (k : Wp l g e d kc ks (pc + 1) ls (vL x :: st) t σ Q) : Wp l g e d kc ks pc ls st t σ Q := by
  intro p en R s m args below meth c H locs cells slots QM lsA hC h1 h2 h3 h4 hH hS hO hl hol hos hr
  exact lv_lload_n hC.1 hC.2.1 hd rfl (lv_get hl hg) (k p en R s m args below meth c H locs cells slots QM lsA hC h1 h2 h3 h4 hH hS hO hl hol (okTs_cons (okLs_get hol hg) hos) hr)
theorem r_aload {i : Nat} {x : Int} (hg : lget i ls = some (vR x)) (hd : decode (mC e) pc = .ok (.aload i, 2)) (k : Wp l g e d kc ks (pc + 2) ls (vR x :: st) t σ Q) : Wp l g e d kc ks pc ls st t σ Q := by
  intro p en R s m args below meth c H locs cells slots QM lsA hC h1 h2 h3 h4 hH hS hO hl hol hos hr
  have kk := k p en R s m args below meth c H locs cells slots QM lsA hC h1 h2 h3 h4 hH hS hO hl hol (okTs_cons (okLs_get hol hg) hos) hr
  have hq := lv_get hl hg
  rw [List.map_cons] at kk
  rw [show cv g (vR x) = rf g x from rfl] at kk hq
  rcases rf_cases g x with ⟨h5, h6⟩ | ⟨h5, a, h6⟩
  · rw [h6] at kk hq; exact lv_aloadN hC.1 hC.2.1 hd hq kk
  · rw [h6] at kk hq; exact lv_aload hC.1 hC.2.1 hd hq kk
theorem r_istore {i : Nat} {x : Int} (hn : (i : Nat) < mL e) (hd : decode (mC e) pc = .ok (.istore i, 2)) (k : Wp l g e d kc ks (pc + 2) (lset i (vI x) ls) st t σ Q) : Wp l g e d kc ks pc ls (vI x :: st) t σ Q := by
  intro p en R s m args below meth c H locs cells slots QM lsA hC h1 h2 h3 h4 hH hS hO hl hol hos hr
  refine lv_istore hC.1 hC.2.1 hd hl hn rfl (fun ls' hl' => ?_)
  exact k p en R s m args below meth c H locs cells slots QM ls' hC h1 h2 h3 h4 hH hS hO (lv_put1 rfl hl') (okLs_set hol (okTs_hd hos)) (okTs_tl hos) hr
theorem r_lstore {i : Nat} {x : Int} (hn : (i : Nat) + 1 < mL e) (hd : decode (mC e) pc = .ok (.lstore i, 2)) (k : Wp l g e d kc ks (pc + 2) (lset i (vL x) ls) st t σ Q) : Wp l g e d kc ks pc ls (vL x :: st) t σ Q := by
  intro p en R s m args below meth c H locs cells slots QM lsA hC h1 h2 h3 h4 hH hS hO hl hol hos hr
  refine lv_lstore hC.1 hC.2.1 hd hl hn rfl (fun ls' hl' => ?_)
  exact k p en R s m args below meth c H locs cells slots QM ls' hC h1 h2 h3 h4 hH hS hO (lv_put2 rfl hl') (okLs_set hol (okTs_hd hos)) (okTs_tl hos) hr
theorem r_astore {i : Nat} {x : Int} (hn : (i : Nat) < mL e) (hd : decode (mC e) pc = .ok (.astore i, 2)) (k : Wp l g e d kc ks (pc + 2) (lset i (vR x) ls) st t σ Q) : Wp l g e d kc ks pc ls (vR x :: st) t σ Q := by
  intro p en R s m args below meth c H locs cells slots QM lsA hC h1 h2 h3 h4 hH hS hO hl hol hos hr
  have kk : ∀ ls' : Array Slot, lv_has ls' (mL e) (((i : Nat), cv g (vR x)) :: (cvL g ls).filter (fun q => !(q.1 == (i : Nat)) && !(q.1 + 1 == (i : Nat) && q.2.category == 2))) → W p l en R s m args below meth c H locs cells slots QM (F0 m (pc + 2) ls' (st.map (cv g))) := fun ls' hl' => k p en R s m args below meth c H locs cells slots QM ls' hC h1 h2 h3 h4 hH hS hO (lv_put1 (v := vR x) rfl hl') (okLs_set hol trivial) (okTs_tl hos) hr
  show W _ _ _ _ _ _ _ _ _ _ _ _ _ _ _ (F0 _ _ _ (rf g x :: _))
  rw [show cv g (vR x) = rf g x from rfl] at kk
  rcases rf_cases g x with ⟨h5, h6⟩ | ⟨h5, a, h6⟩
  · rw [h6] at kk ⊢; exact lv_astoreN hC.1 hC.2.1 hd hl hn rfl kk
  · rw [h6] at kk ⊢; exact lv_astore hC.1 hC.2.1 hd hl hn rfl kk
theorem r_aload_n {i : Fin 4} {x : Int} (hg : lget i ls = some (vR x)) (hd : decode (mC e) pc = .ok (.aload_n i, 1)) (k : Wp l g e d kc ks (pc + 1) ls (vR x :: st) t σ Q) : Wp l g e d kc ks pc ls st t σ Q := by
  intro p en R s m args below meth c H locs cells slots QM lsA hC h1 h2 h3 h4 hH hS hO hl hol hos hr
  have kk := k p en R s m args below meth c H locs cells slots QM lsA hC h1 h2 h3 h4 hH hS hO hl hol (okTs_cons (okLs_get hol hg) hos) hr
  have hq := lv_get hl hg
  rw [List.map_cons] at kk
  rw [show cv g (vR x) = rf g x from rfl] at kk hq
  rcases rf_cases g x with ⟨h5, h6⟩ | ⟨h5, a, h6⟩
  · rw [h6] at kk hq; exact lv_aload_nN hC.1 hC.2.1 hd rfl hq kk
  · rw [h6] at kk hq; exact lv_aload_n hC.1 hC.2.1 hd rfl hq kk
theorem r_istore_n {i : Fin 4} {x : Int} (hn : (i : Nat) < mL e) (hd : decode (mC e) pc = .ok (.istore_n i, 1)) (k : Wp l g e d kc ks (pc + 1) (lset i (vI x) ls) st t σ Q) : Wp l g e d kc ks pc ls (vI x :: st) t σ Q := by
  intro p en R s m args below meth c H locs cells slots QM lsA hC h1 h2 h3 h4 hH hS hO hl hol hos hr
  refine lv_istore_n hC.1 hC.2.1 hd rfl hl hn rfl (fun ls' hl' => ?_)
  exact k p en R s m args below meth c H locs cells slots QM ls' hC h1 h2 h3 h4 hH hS hO (lv_put1 rfl hl') (okLs_set hol (okTs_hd hos)) (okTs_tl hos) hr
theorem r_lstore_n {i : Fin 4} {x : Int} (hn : (i : Nat) + 1 < mL e) (hd : decode (mC e) pc = .ok (.lstore_n i, 1)) (k : Wp l g e d kc ks (pc + 1) (lset i (vL x) ls) st t σ Q) : Wp l g e d kc ks pc ls (vL x :: st) t σ Q := by
  intro p en R s m args below meth c H locs cells slots QM lsA hC h1 h2 h3 h4 hH hS hO hl hol hos hr
  refine lv_lstore_n hC.1 hC.2.1 hd rfl hl hn rfl (fun ls' hl' => ?_)
  exact k p en R s m args below meth c H locs cells slots QM ls' hC h1 h2 h3 h4 hH hS hO (lv_put2 rfl hl') (okLs_set hol (okTs_hd hos)) (okTs_tl hos) hr
theorem r_astore_n {i : Fin 4} {x : Int} (hn : (i : Nat) < mL e) (hd : decode (mC e) pc = .ok (.astore_n i, 1)) (k : Wp l g e d kc ks (pc + 1) (lset i (vR x) ls) st t σ Q) : Wp l g e d kc ks pc ls (vR x :: st) t σ Q := by
  intro p en R s m args below meth c H locs cells slots QM lsA hC h1 h2 h3 h4 hH hS hO hl hol hos hr
  have kk : ∀ ls' : Array Slot, lv_has ls' (mL e) (((i : Nat), cv g (vR x)) :: (cvL g ls).filter (fun q => !(q.1 == (i : Nat)) && !(q.1 + 1 == (i : Nat) && q.2.category == 2))) → W p l en R s m args below meth c H locs cells slots QM (F0 m (pc + 1) ls' (st.map (cv g))) := fun ls' hl' => k p en R s m args below meth c H locs cells slots QM ls' hC h1 h2 h3 h4 hH hS hO (lv_put1 (v := vR x) rfl hl') (okLs_set hol trivial) (okTs_tl hos) hr
  show W _ _ _ _ _ _ _ _ _ _ _ _ _ _ _ (F0 _ _ _ (rf g x :: _))
  rw [show cv g (vR x) = rf g x from rfl] at kk
  rcases rf_cases g x with ⟨h5, h6⟩ | ⟨h5, a, h6⟩
  · rw [h6] at kk ⊢; exact lv_astore_nN hC.1 hC.2.1 hd rfl hl hn rfl kk
  · rw [h6] at kk ⊢; exact lv_astore_n hC.1 hC.2.1 hd rfl hl hn rfl kk
theorem r_iinc {i : Nat} {n x : Int} (hg : lget i ls = some (vI x)) (hn : i < mL e) (hd : decode (mC e) pc = .ok (.iinc i n, 3)) (k : Wp l g e d kc ks (pc + 3) (lset i (vI (w32 (x + n))) ls) st t σ Q) : Wp l g e d kc ks pc ls st t σ Q := by
  intro p en R s m args below meth c H locs cells slots QM lsA hC h1 h2 h3 h4 hH hS hO hl hol hos hr
  obtain ⟨j, hj⟩ := List.getElem?_of_mem (cvL_mem (g := g) (lget_mem hg))
  refine lv_iinc hC.1 hC.2.1 hd hl hj (v := Int32.ofInt (w32 (x + n))) (by rw [of_w32, Int32.ofInt_add]) hn rfl (fun ls' hl' => ?_)
  exact k p en R s m args below meth c H locs cells slots QM ls' hC h1 h2 h3 h4 hH hS hO (lv_put1 (v := vI _) rfl hl') (okLs_set hol (w32_b _)) hos hr
theorem r_keep {ks' : List Nat} (k : Wp l g e d kc ks pc (lkeep ks' ls) st t σ Q) : Wp l g e d kc ks pc ls st t σ Q := by
  intro p en R s m args below meth c H locs cells slots QM lsA hC h1 h2 h3 h4 hH hS hO hl hol hos hr
  refine k p en R s m args below meth c H locs cells slots QM lsA hC h1 h2 h3 h4 hH hS hO (lv_has_sub hl fun q hq => ?_) (fun q hq => hol q (lkeep_mem hq)) hos hr
  obtain ⟨r, hr, rfl⟩ := List.mem_map.mp hq
  exact List.mem_map.mpr ⟨r, lkeep_mem hr, rfl⟩
end RUL
end
section
/-! fields, arrays, static fields -/
def inALL (ws : List Cond) : Bool := ws.all fun w => decide (w ∈ lw_tbl) && goodWord w
theorem inALL_of {ws : List Cond} (h : inALL ws = true) : ∀ w ∈ ws, w ∈ ALL := by
  intro w hw
  have := List.all_eq_true.mp h w hw
  simp only [Bool.and_eq_true, decide_eq_true_eq] at this
  exact List.mem_filter.mpr this
theorem cls_0 : inALL (u_ws RX0 TX0 2) = true := by decide +kernel
theorem cls_1 : inALL (u_ws RX1 TX1 4) = true := by decide +kernel
theorem cls_2 : inALL (u_ws RX2 TX2 3) = true := by decide +kernel
theorem cls_3 : inALL (u_ws RX3 TX3 2) = true := by decide +kernel
theorem cls_4 : inALL (u_ws RX4 TX4 9) = true := by decide +kernel
theorem cls_5 : inALL (u_ws RX5 TX5 9) = true := by decide +kernel
theorem cls_6 : inALL (u_ws RX6 TX6 6) = true := by decide +kernel
theorem cls_7 : inALL (u_ws RX7 TX7 2) = true := by decide +kernel
theorem cls_8 : inALL (u_ws RX8 TX8 17) = true := by decide +kernel
theorem cls_9 : inALL (u_ws RX9 TX9 41) = true := by decide +kernel
/-- what the class tables give of a class by its number -/
theorem clsOk {ci : Nat} {q : vw_C} (h : vwCl[ci]? = some q) : (∀ w ∈ u_ws q.1 q.2.1 q.2.2, w ∈ ALL) ∧ ∃ ty : Nat → FieldType, (∀ k, k < q.2.2 → parseFieldDescriptor (q.2.1 k).2.2.1 = some (ty k)) ∧ (∀ a, a < q.2.2 → ∀ b, b < q.2.2 → a ≠ b → (q.2.1 a).2.1 ≠ (q.2.1 b).2.1) := by
  match ci, h with
  | 0, h => cases h; exact ⟨inALL_of cls_0, tyX0, tyX0_ok, nmX0⟩
  | 1, h => cases h; exact ⟨inALL_of cls_1, tyX1, tyX1_ok, nmX1⟩
  | 2, h => cases h; exact ⟨inALL_of cls_2, tyX2, tyX2_ok, nmX2⟩
  | 3, h => cases h; exact ⟨inALL_of cls_3, tyX3, tyX3_ok, nmX3⟩
  | 4, h => cases h; exact ⟨inALL_of cls_4, tyX4, tyX4_ok, nmX4⟩
  | 5, h => cases h; exact ⟨inALL_of cls_5, tyX5, tyX5_ok, nmX5⟩
  | 6, h => cases h; exact ⟨inALL_of cls_6, tyX6, tyX6_ok, nmX6⟩
  | 7, h => cases h; exact ⟨inALL_of cls_7, tyX7, tyX7_ok, nmX7⟩
  | 8, h => cases h; exact ⟨inALL_of cls_8, tyX8, tyX8_ok, nmX8⟩
  | 9, h => cases h; exact ⟨inALL_of cls_9, tyX9, tyX9_ok, nmX9⟩
/-- the field k of class ci is of kind kd, declared where it is -/
def kdOk (ci k kd : Nat) : Bool := match vwCl[ci]? with
  | none => false
  | some q => decide (k < q.2.2) && decide ((fkL.getD ci [])[k]? = some kd) && decide ((fkL.getD ci []).length = q.2.2) && decide ((q.2.1 k).1 = q.1) && (match parseFieldDescriptor (q.2.1 k).2.2.1 with
    | some .int => decide (kd = 0) && !(q.2.1 k).2.2.2
    | some .boolean => decide (kd = 1) && !(q.2.1 k).2.2.2
    | some (.object _) => (decide (kd = 2) && !(q.2.1 k).2.2.2) || (decide (kd = 3) && (q.2.1 k).2.2.2)
    | some (.array _) => (decide (kd = 2) && !(q.2.1 k).2.2.2) || (decide (kd = 3) && (q.2.1 k).2.2.2)
    | _ => false)
def fLink (own : String) (idx ci k : Nat) : Bool := match vwCl[ci]? with
  | none => false
  | some q => decide (Cond.fieldLink own idx (q.2.1 k).1 (q.2.1 k).2.1 (q.2.1 k).2.2.1 ∈ lw_tbl) && goodWord (Cond.fieldLink own idx (q.2.1 k).1 (q.2.1 k).2.1 (q.2.1 k).2.2.1)
def fLinkN (own : String) (idx ci k : Nat) : Bool := match vwCl[ci]? with
  | none => false
  | some q => decide (Cond.fieldLinkNest own idx (q.2.1 k).1 (q.2.1 k).2.1 (q.2.1 k).2.2.1 "StruckColours" ∈ tables_1)
def gval (t : Tau) (σ : Mem) (x : Int) (k kd : Nat) : TV := if kd ≤ 1 then vI (σ x k) else if kd = 2 then vR (σ x k) else vR (finOf t x k)
theorem fld_at {g : GE} {ci k kd : Nat} {fin : Nat → Int} {s : Int → Int} (h : (fkL.getD ci [])[k]? = some kd) : (fldE g ci fin s)[k]? = some (if kd ≤ 1 then .int (Int32.ofInt (s k)) else if kd = 2 then rf g (s k) else rf g (fin k)) := by
  unfold fldE
  rw [List.getElem?_mapIdx, h]
  rfl
theorem fld_len (g : GE) (ci : Nat) (fin : Nat → Int) (s : Int → Int) : (fldE g ci fin s).length = (fkL.getD ci []).length := by
  unfold fldE
  exact List.length_mapIdx
theorem gval_cv {g : GE} {t : Tau} {σ : Mem} {x : Int} {k kd ci : Nat} {fin : Nat → Int} (hs : t[x.toNat]? = some (.inl (ci, fin))) : cv g (gval t σ x k kd) = (if kd ≤ 1 then .int (Int32.ofInt (σ x k)) else if kd = 2 then rf g (σ x k) else rf g (fin k)) := by
  unfold gval
  by_cases h1 : kd ≤ 1
  · rw [if_pos h1, if_pos h1]; rfl
  · by_cases h2 : kd = 2
    · rw [if_neg h1, if_pos h2, if_neg h1, if_pos h2]; rfl
    · rw [if_neg h1, if_neg h2, if_neg h1, if_neg h2]
      show rf g (finOf t x k) = _
      unfold finOf
      rw [hs]
theorem gval_ok {t : Tau} {σ : Mem} {x : Int} {k kd ci : Nat} {fin : Nat → Int} (hM : MemOk t σ) (hx : 0 ≤ x) (hs : t[x.toNat]? = some (.inl (ci, fin))) (hk : (fkL.getD ci [])[k]? = some kd) : okT (gval t σ x k kd) := by
  unfold gval
  by_cases h1 : kd ≤ 1
  · rw [if_pos h1]
    have := hM x.toNat _ hs k kd hk h1
    rw [Int.toNat_of_nonneg hx] at this
    exact this
  · rw [if_neg h1]
    split <;> trivial
section MEM
variable {l : Launch} {g : GE} {e d kc ks pc : Nat} {ls : List (Nat × TV)} {st : List TV} {t : Tau} {σ : Mem} {Q : Post}
theorem r_get {idx ci k kd : Nat} {x : Int} (hO : isO t x ci) (hk : kdOk ci k kd = true) (hl : fLink (mN e).cls idx ci k = true ∨ fLinkN (mN e).cls idx ci k = true) (hd : decode (mC e) pc = .ok (.getfield idx, 3))
    (kk : Wp l g e d kc ks (pc + 3) ls (gval t σ x k kd :: st) t σ Q) : Wp l g e d kc ks pc ls (vR x :: st) t σ Q := by
  intro p en R s m args below meth c H locs cells slots QM lsA hC h1 h2 h3 h4 hH hS hZ hls hol hos hr
  obtain ⟨hx, fin, hs⟩ := hO
  unfold kdOk at hk
  cases hq : vwCl[ci]? with
  | none => rw [hq] at hk; cases hk
  | some q =>
    rw [hq] at hk
    simp only [Bool.and_eq_true, decide_eq_true_eq] at hk
    obtain ⟨⟨⟨⟨hk1, hk2⟩, hk3⟩, hk4⟩, -⟩ := hk
    have kw := kk p en R s m args below meth c H locs cells slots QM lsA hC h1 h2 h3 h4 hH hS hZ hls hol (okTs_cons (gval_ok hH.2.1 hx hs hk2) (okTs_tl hos)) hr
    rw [List.map_cons, gval_cv hs] at kw
    show W _ _ _ _ _ _ _ _ _ _ _ _ _ _ _ (F0 _ _ _ (rf g x :: _))
    rw [rf_ref hx]
    have he := world_atI (g := g) (s := σ) hx hs
    rcases hl with hl | hl
    · unfold fLink at hl
      rw [hq] at hl
      simp only [Bool.and_eq_true, decide_eq_true_eq] at hl
      exact va_get (C := q.1) (T := q.2.1) (N := q.2.2) hC.1 hC.2.1 hC.2.2.2.2.2.1 (clsOk hq).1 hC.2.2.2.2.1 hC.2.2.2.2.2.2.2.2.1 hH.1 x.toNat he hq k hk1 (hC.2.2.2.2.2.1 _ (List.mem_filter.mpr hl)) (fun _ z => z) (fld_at hk2) hd kw
    · unfold fLinkN at hl
      rw [hq] at hl
      simp only [decide_eq_true_eq] at hl
      have hw : va_Nw (Cond.fieldLinkNest (mN e).cls idx (q.2.1 k).1 (q.2.1 k).2.1 (q.2.1 k).2.2.1 "StruckColours") s := hC.2.2.2.2.2.2.2.2.2.1 _ (List.mem_filter.mpr ⟨hl, rfl⟩)
      exact va_getN (C := q.1) (T := q.2.1) (N := q.2.2) hC.1 hC.2.1 hC.2.2.2.2.2.1 (clsOk hq).1 hC.2.2.2.2.1 hC.2.2.2.2.2.2.2.2.1 hH.1 x.toNat he hq k hk1 (va_Nw.use rfl hw) (fun _ z => z) (fld_at hk2) hd kw
/-- what may be stored in a field of kind kd, and its number -/
def putOk (kd : Nat) (v : TV) : Prop := match v with
  | .inl y => kd = 0 ∨ (kd = 1 ∧ (y = 0 ∨ y = 1))
  | .inr (.inr _) => kd = 2
  | _ => False
def numT (v : TV) : Int := match v with
  | .inl y => y
  | .inr (.inl y) => y
  | .inr (.inr y) => y
theorem rf_fits {ty : FieldType} (g : GE) (y : Int) (h : (∃ n, ty = .object n) ∨ ∃ n, ty = .array n) : narrow ty (rf g y) = rf g y ∧ fits ty (rf g y) = true := by
  rcases h with ⟨n, rfl⟩ | ⟨n, rfl⟩ <;> rcases rf_cases g y with ⟨-, h⟩ | ⟨-, a, h⟩ <;> rw [h] <;> exact ⟨rfl, rfl⟩
theorem put_val {q : vw_C} {k kd : Nat} {v : TV} (g : GE) (hp : putOk kd v) (h : (match parseFieldDescriptor (q.2.1 k).2.2.1 with
    | some .int => decide (kd = 0) && !(q.2.1 k).2.2.2
    | some .boolean => decide (kd = 1) && !(q.2.1 k).2.2.2
    | some (.object _) => (decide (kd = 2) && !(q.2.1 k).2.2.2) || (decide (kd = 3) && (q.2.1 k).2.2.2)
    | some (.array _) => (decide (kd = 2) && !(q.2.1 k).2.2.2) || (decide (kd = 3) && (q.2.1 k).2.2.2)
    | _ => false) = true) : ∃ ty, parseFieldDescriptor (q.2.1 k).2.2.1 = some ty ∧ (q.2.1 k).2.2.2 = false ∧ narrow ty (cv g v) = cv g v ∧ fits ty (cv g v) = true ∧ kd ≤ 2 ∧ (kd = 2 → ∃ y, v = vR y) ∧ (kd ≤ 1 → ∃ y, v = vI y) := by
  split at h
  · rename_i hq
    simp only [Bool.and_eq_true, decide_eq_true_eq, Bool.not_eq_true'] at h
    obtain ⟨rfl, hf⟩ := h
    match v, hp with
    | .inl y, hp => exact ⟨_, hq, hf, rfl, rfl, by omega, (fun z => by cases z), fun _ => ⟨y, rfl⟩⟩
  · rename_i hq
    simp only [Bool.and_eq_true, decide_eq_true_eq, Bool.not_eq_true'] at h
    obtain ⟨rfl, hf⟩ := h
    match v, hp with
    | .inl y, hp =>
      have hy : y = 0 ∨ y = 1 := by
        rcases hp with h | ⟨-, h⟩
        · cases h
        · exact h
      refine ⟨_, hq, hf, ?_, ?_, by omega, (fun z => by cases z), fun _ => ⟨y, rfl⟩⟩
      · rcases hy with rfl | rfl
        · show Value.int (Int32.ofInt 0 &&& 1) = Value.int (Int32.ofInt 0); decide +kernel
        · show Value.int (Int32.ofInt 1 &&& 1) = Value.int (Int32.ofInt 1); decide +kernel
      · rcases hy with rfl | rfl <;> rfl
  · rename_i n hq
    simp only [Bool.or_eq_true, Bool.and_eq_true, decide_eq_true_eq, Bool.not_eq_true'] at h
    match v, hp with
    | .inl y, hp => rcases hp with hp | ⟨hp, -⟩ <;> omega
    | .inr (.inr y), hp =>
      have hk : kd = 2 := hp
      have hf := rf_fits (ty := .object n) g y (Or.inl ⟨_, rfl⟩)
      exact ⟨_, hq, (h.elim (fun h => h.2) (fun h => by omega)), hf.1, hf.2, by omega, fun _ => ⟨y, rfl⟩, fun z => by omega⟩
  · rename_i n hq
    simp only [Bool.or_eq_true, Bool.and_eq_true, decide_eq_true_eq, Bool.not_eq_true'] at h
    match v, hp with
    | .inl y, hp => rcases hp with hp | ⟨hp, -⟩ <;> omega
    | .inr (.inr y), hp =>
      have hk : kd = 2 := hp
      have hf := rf_fits (ty := .array n) g y (Or.inr ⟨_, rfl⟩)
      exact ⟨_, hq, (h.elim (fun h => h.2) (fun h => by omega)), hf.1, hf.2, by omega, fun _ => ⟨y, rfl⟩, fun z => by omega⟩
  · cases h
theorem fld_set {g : GE} {ci k kd : Nat} {fin : Nat → Int} {σ : Mem} {x : Int} {v : TV} (hk : (fkL.getD ci [])[k]? = some kd) (h2 : kd ≤ 2) (hr : kd = 2 → ∃ y, v = vR y) (hi : kd ≤ 1 → ∃ y, v = vI y) : fldE g ci fin (up σ x k (numT v) x) = (fldE g ci fin (σ x)).set k (cv g v) := by
  apply List.ext_getElem?
  intro i
  rw [List.getElem?_set]
  unfold fldE
  rw [List.getElem?_mapIdx, List.getElem?_mapIdx, List.length_mapIdx]
  by_cases hik : k = i
  · subst hik
    rw [if_pos rfl, if_pos (List.getElem?_eq_some_iff.mp hk).1, hk]
    by_cases h1 : kd ≤ 1
    · obtain ⟨y, rfl⟩ := hi h1
      simp [h1, up, numT, cv]
    · obtain ⟨y, rfl⟩ := hr (by omega)
      have : kd = 2 := by omega
      simp [this, up, numT, cv]
  · rw [if_neg hik]
    congr 1
    funext kd'
    have : ¬ ((i : Int) = (k : Int)) := fun z => hik (by omega)
    simp [up, this]
theorem r_put {idx ci k kd : Nat} {x : Int} {v : TV} (hO : isO t x ci) (hp : putOk kd v) (hk : kdOk ci k kd = true) (hl : fLink (mN e).cls idx ci k = true ∨ fLinkN (mN e).cls idx ci k = true) (hd : decode (mC e) pc = .ok (.putfield idx, 3))
    (kk : Wp l g e d kc ks (pc + 3) ls st t (up σ x k (numT v)) Q) : Wp l g e d kc ks pc ls (v :: vR x :: st) t σ Q := by
  intro p en R s m args below meth c H locs cells slots QM lsA hC h1 h2 h3 h4 hH hS hZ hls hol hos hr
  obtain ⟨hx, fin, hs⟩ := hO
  unfold kdOk at hk
  cases hq : vwCl[ci]? with
  | none => rw [hq] at hk; cases hk
  | some q =>
    rw [hq] at hk
    simp only [Bool.and_eq_true, decide_eq_true_eq] at hk
    obtain ⟨⟨⟨⟨hk1, hk2⟩, hk3⟩, hk4⟩, hk5⟩ := hk
    obtain ⟨ty, g1, g2, g3, g4, g5, g6, g7⟩ := put_val (q := q) g hp hk5
    obtain ⟨w1, ty0, w2, w3⟩ := clsOk hq
    have he := world_atI (g := g) (s := σ) hx hs
    have hset : ∀ e', cellE g (.inl (ci, fin)) (up σ x k (numT v) x) = e' → (world g t σ).set x.toNat (gO g + x.toNat, e') = world g t (up σ x k (numT v)) := fun e' h => world_set hx hs (fun o ho => up_ne ho) h
    have hse := hset (.inr (ci, (fldE g ci fin (σ x)).set k (cv g v))) (by show Sum.inr _ = _; rw [fld_set hk2 g5 g6 g7])
    have hok : okT v := okTs_hd hos
    have hm : MemOk t (up σ x k (numT v)) := by
      refine MemOk_up hH.2.1 hx (by omega) hs ?_
      intro kd' hkd' hle
      rw [show ((k : Int).toNat) = k from Int.toNat_natCast k] at hkd'
      cases hk2.symm.trans hkd'
      obtain ⟨y, rfl⟩ := g7 hle
      exact hok
    have hll : k < (fldE g ci fin (σ x)).length := by rw [fld_len, hk3]; exact hk1
    have kw : ∀ (H1 : Heap) (locs1 : List Loc), va_P (gD g) vwCl ((world g t σ).set x.toNat (gO g + x.toNat, .inr (ci, (fldE g ci fin (σ x)).set k (cv g v)))) H1 → va_D (Ag g) ((world g t σ).set x.toNat (gO g + x.toNat, .inr (ci, (fldE g ci fin (σ x)).set k (cv g v)))) → va_S (Ag g) s.heap H1 locs1 → W p l en R s m args below meth c H1 locs1 cells slots QM (F0 m (pc + 3) lsA (st.map (cv g))) := by
      intro H1 locs1 hP1 hD1 hS1
      rw [hse] at hP1
      have hsz : gO g + t.length ≤ H1.size := by
        by_cases ht : t.length = 0
        · have := hS1.1; omega
        · have hlt : t.length - 1 < t.length := by omega
          have := (hP1 (t.length - 1) _ (world_at (g := g) (s := up σ x k (numT v)) (List.getElem?_eq_getElem hlt))).lt
          simp only at this
          omega
      exact kk p en R s m args below meth c H1 locs1 cells slots QM lsA hC h1 h2 h3 h4 ⟨hP1, hm, hsz⟩ hS1 hZ hls hol (okTs_tl (okTs_tl hos)) hr
    show W _ _ _ _ _ _ _ _ _ _ _ _ _ _ _ (F0 _ _ _ (cv g v :: rf g x :: _))
    rw [rf_ref hx]
    rcases hl with hl | hl
    · unfold fLink at hl
      rw [hq] at hl
      simp only [Bool.and_eq_true, decide_eq_true_eq] at hl
      exact va_put (C := q.1) (T := q.2.1) (N := q.2.2) hC.1 hC.2.1 hC.2.2.2.2.2.1 w1 ty0 w2 w3 hC.2.2.2.2.1 hC.2.2.2.2.2.2.2.2.1 hH.1 (world_D g t σ) hS x.toNat he hq k hk1 (hC.2.2.2.2.2.1 _ (List.mem_filter.mpr hl)) (fun _ z => z) g2 g1 g3 g4 hll hd kw
    · unfold fLinkN at hl
      rw [hq] at hl
      simp only [decide_eq_true_eq] at hl
      have hw : va_Nw (Cond.fieldLinkNest (mN e).cls idx (q.2.1 k).1 (q.2.1 k).2.1 (q.2.1 k).2.2.1 "StruckColours") s := hC.2.2.2.2.2.2.2.2.2.1 _ (List.mem_filter.mpr ⟨hl, rfl⟩)
      exact va_putN (C := q.1) (T := q.2.1) (N := q.2.2) hC.1 hC.2.1 hC.2.2.2.2.2.1 w1 ty0 w2 w3 hC.2.2.2.2.1 hC.2.2.2.2.2.2.2.2.1 hH.1 (world_D g t σ) hS x.toNat he hq k hk1 (va_Nw.use rfl hw) (fun _ z => z) g2 g1 g3 g4 hll hd kw
end MEM
end
section
/-! arrays, static arrays, System.arraycopy -/
theorem Hld_of {g : GE} {t : Tau} {σ : Mem} {s : State} {H1 : Heap} {locs1 : List Loc} (hP1 : va_P (gD g) vwCl (world g t σ) H1) (hm : MemOk t σ) (hS1 : va_S (Ag g) s.heap H1 locs1) (hO : gO g ≤ s.heap.size) : Hld g t σ H1 := by
  refine ⟨hP1, hm, ?_⟩
  by_cases ht : t.length = 0
  · have := hS1.1; omega
  · have hlt : t.length - 1 < t.length := by omega
    have := (hP1 (t.length - 1) _ (world_at (g := g) (s := σ) (List.getElem?_eq_getElem hlt))).lt
    simp only at this
    omega
theorem arrE_int (g : GE) {ty : Nat} (h1 : ty ≠ 1) (h5 : ty ≠ 5) (s : Int → Int) : arrE g ty s = .inl fun j => Int32.ofInt (s j) := by
  unfold arrE
  rw [if_neg h1, if_neg h5]
theorem upd_up {σ : Mem} {x i v : Int} (hi : 0 ≤ i) (hb : b32 i) : (fun j : Nat => Int32.ofInt (up σ x i v x j)) = upd (fun j : Nat => Int32.ofInt (σ x j)) (Int32.ofInt i).toNatClampNeg (Int32.ofInt v) := by
  funext j
  rw [clamp_of' hb]
  unfold upd up
  by_cases hj : j = i.toNat
  · have : (j : Int) = i := by omega
    simp [hj, Int.toNat_of_nonneg hi]
  · have : ¬ (j : Int) = i := by omega
    simp [hj, this]
theorem updL_up {σ : Mem} {x i v : Int} (hi : 0 ≤ i) (hb : b32 i) : (fun j : Nat => Int64.ofInt (up σ x i v x j)) = vp_updL (fun j : Nat => Int64.ofInt (σ x j)) (Int32.ofInt i).toNatClampNeg (Int64.ofInt v) := by
  funext j
  rw [clamp_of' hb]
  unfold vp_updL up
  by_cases hj : j = i.toNat
  · have : (j : Int) = i := by omega
    simp [hj, Int.toNat_of_nonneg hi]
  · have : ¬ (j : Int) = i := by omega
    simp [hj, this]
theorem updR_up {g : GE} {σ : Mem} {x i v : Int} (hi : 0 ≤ i) (hb : b32 i) : (fun j : Nat => rfo g (up σ x i v x j)) = va_up (fun j : Nat => rfo g (σ x j)) (Int32.ofInt i).toNatClampNeg (rfo g v) := by
  funext j
  rw [clamp_of' hb]
  unfold va_up up
  by_cases hj : j = i.toNat
  · have : (j : Int) = i := by omega
    simp [hj, Int.toNat_of_nonneg hi]
  · have : ¬ (j : Int) = i := by omega
    simp [hj, this]
theorem okS_at {t : Tau} {σ : Mem} {x : Int} {ty : Nat} (hM : MemOk t σ) (hA : isT t x ty) {i : Int} (hi : 0 ≤ i) : okS (.inr (ty, lenOf t x)) i.toNat (σ x i) := by
  have := hM x.toNat _ hA.2 i.toNat
  rw [Int.toNat_of_nonneg hA.1, Int.toNat_of_nonneg hi] at this
  exact this
theorem rd_at {σ : Mem} {x i : Int} (hi : 0 ≤ i) (hb : b32 i) : σ x ((Int32.ofInt i).toNatClampNeg : Nat) = σ x i := by rw [clamp_of' hb, Int.toNat_of_nonneg hi]
section ARR
variable {l : Launch} {g : GE} {e d kc ks pc : Nat} {ls : List (Nat × TV)} {st : List TV} {t : Tau} {σ : Mem} {Q : Post}
theorem r_iald {x i : Int} (hA : isT t x 0) (h0 : 0 ≤ i) (hn : i < lenOf t x) (hd : decode (mC e) pc = .ok (.iaload, 1)) (kk : Wp l g e d kc ks (pc + 1) ls (vI (σ x i) :: st) t σ Q) : Wp l g e d kc ks pc ls (vI i :: vR x :: st) t σ Q := by
  intro p en R s m args below meth c H locs cells slots QM lsA hC h1 h2 h3 h4 hH hS hZ hls hol hos hr
  have hb : b32 i := okTs_hd hos
  have hv : b32 (σ x i) := okS_at hH.2.1 hA h0
  have kw := kk p en R s m args below meth c H locs cells slots QM lsA hC h1 h2 h3 h4 hH hS hZ hls hol (okTs_cons hv (okTs_tl (okTs_tl hos))) hr
  show W _ _ _ _ _ _ _ _ _ _ _ _ _ _ _ (F0 _ _ _ (.int (Int32.ofInt i) :: rf g x :: _))
  rw [rf_ref hA.1]
  exact va_iald (cA := gC g 0) (n := lenOf t x) (f := fun j => Int32.ofInt (σ x j)) hC.1 hC.2.1 hC.2.2.2.2.2.2.2.2.1 hH.1 x.toNat 0 (by rw [world_atI hA.1 hA.2]; rfl) (tyL_at g (by decide)) (in_of h0 hn hb) hd (by rw [rd_at (σ := σ) (x := x) h0 hb]; exact kw)
theorem r_bald {x i : Int} (hA : isT t x 2) (h0 : 0 ≤ i) (hn : i < lenOf t x) (hd : decode (mC e) pc = .ok (.baload, 1)) (kk : Wp l g e d kc ks (pc + 1) ls (vI (σ x i) :: st) t σ Q) : Wp l g e d kc ks pc ls (vI i :: vR x :: st) t σ Q := by
  intro p en R s m args below meth c H locs cells slots QM lsA hC h1 h2 h3 h4 hH hS hZ hls hol hos hr
  have hb : b32 i := okTs_hd hos
  have hv : b32 (σ x i) := okS_at hH.2.1 hA h0
  have kw := kk p en R s m args below meth c H locs cells slots QM lsA hC h1 h2 h3 h4 hH hS hZ hls hol (okTs_cons hv (okTs_tl (okTs_tl hos))) hr
  show W _ _ _ _ _ _ _ _ _ _ _ _ _ _ _ (F0 _ _ _ (.int (Int32.ofInt i) :: rf g x :: _))
  rw [rf_ref hA.1]
  exact va_bald (cA := gC g 2) (n := lenOf t x) (f := fun j => Int32.ofInt (σ x j)) hC.1 hC.2.1 hC.2.2.2.2.2.2.2.2.1 hH.1 x.toNat 2 (by rw [world_atI hA.1 hA.2]; rfl) (tyL_at g (by decide)) (in_of h0 hn hb) hd (by rw [rd_at (σ := σ) (x := x) h0 hb]; exact kw)
theorem r_zald {x i : Int} (hA : isT t x 3) (h0 : 0 ≤ i) (hn : i < lenOf t x) (hd : decode (mC e) pc = .ok (.baload, 1)) (kk : Wp l g e d kc ks (pc + 1) ls (vI (σ x i) :: st) t σ Q) : Wp l g e d kc ks pc ls (vI i :: vR x :: st) t σ Q := by
  intro p en R s m args below meth c H locs cells slots QM lsA hC h1 h2 h3 h4 hH hS hZ hls hol hos hr
  have hb : b32 i := okTs_hd hos
  have hv : b32 (σ x i) := okS_at hH.2.1 hA h0
  have kw := kk p en R s m args below meth c H locs cells slots QM lsA hC h1 h2 h3 h4 hH hS hZ hls hol (okTs_cons hv (okTs_tl (okTs_tl hos))) hr
  show W _ _ _ _ _ _ _ _ _ _ _ _ _ _ _ (F0 _ _ _ (.int (Int32.ofInt i) :: rf g x :: _))
  rw [rf_ref hA.1]
  exact va_zald (cA := gC g 3) (n := lenOf t x) (f := fun j => Int32.ofInt (σ x j)) hC.1 hC.2.1 hC.2.2.2.2.2.2.2.2.1 hH.1 x.toNat 3 (by rw [world_atI hA.1 hA.2]; rfl) (tyL_at g (by decide)) (in_of h0 hn hb) hd (by rw [rd_at (σ := σ) (x := x) h0 hb]; exact kw)
theorem r_cald {x i : Int} (hA : isT t x 4) (h0 : 0 ≤ i) (hn : i < lenOf t x) (hd : decode (mC e) pc = .ok (.caload, 1)) (kk : Wp l g e d kc ks (pc + 1) ls (vI (σ x i) :: st) t σ Q) : Wp l g e d kc ks pc ls (vI i :: vR x :: st) t σ Q := by
  intro p en R s m args below meth c H locs cells slots QM lsA hC h1 h2 h3 h4 hH hS hZ hls hol hos hr
  have hb : b32 i := okTs_hd hos
  have hv : b32 (σ x i) := okS_at hH.2.1 hA h0
  have kw := kk p en R s m args below meth c H locs cells slots QM lsA hC h1 h2 h3 h4 hH hS hZ hls hol (okTs_cons hv (okTs_tl (okTs_tl hos))) hr
  show W _ _ _ _ _ _ _ _ _ _ _ _ _ _ _ (F0 _ _ _ (.int (Int32.ofInt i) :: rf g x :: _))
  rw [rf_ref hA.1]
  exact va_cald (cA := gC g 4) (n := lenOf t x) (f := fun j => Int32.ofInt (σ x j)) hC.1 hC.2.1 hC.2.2.2.2.2.2.2.2.1 hH.1 x.toNat 4 (by rw [world_atI hA.1 hA.2]; rfl) (tyL_at g (by decide)) (in_of h0 hn hb) hd (by rw [rd_at (σ := σ) (x := x) h0 hb]; exact kw)
theorem r_iast {x i y : Int} (hA : isT t x 0) (h0 : 0 ≤ i) (hn : i < lenOf t x) (hd : decode (mC e) pc = .ok (.iastore, 1)) (kk : Wp l g e d kc ks (pc + 1) ls st t (up σ x i (y)) Q) : Wp l g e d kc ks pc ls (vI y :: vI i :: vR x :: st) t σ Q := by
  intro p en R s m args below meth c H locs cells slots QM lsA hC h1 h2 h3 h4 hH hS hZ hls hol hos hr
  have hy : b32 y := okTs_hd hos
  have hb : b32 i := okTs_hd (okTs_tl hos)
  have hv : b32 (y) := by first | exact hy | exact i8_b _ | exact i1_b _ | exact ich_b _
  have hm : MemOk t (up σ x i (y)) := MemOk_up hH.2.1 hA.1 h0 hA.2 hv
  show W _ _ _ _ _ _ _ _ _ _ _ _ _ _ _ (F0 _ _ _ (.int (Int32.ofInt y) :: .int (Int32.ofInt i) :: rf g x :: _))
  rw [rf_ref hA.1]
  refine va_iast (cA := gC g 0) (n := lenOf t x) (f := fun j => Int32.ofInt (σ x j)) hC.1 hC.2.1 hC.2.2.2.2.2.2.2.2.1 hH.1 (world_D g t σ) hS x.toNat 0 (by rw [world_atI hA.1 hA.2]; rfl) (tyL_at g (by decide)) (in_of h0 hn hb) hd (fun H1 locs1 hP1 hD1 hS1 => ?_)
  have hse := world_set (g := g) (s := σ) (s' := up σ x i (y)) hA.1 hA.2 (fun o ho => up_ne ho) (e' := .inl (gC g 0, lenOf t x, .inl (upd (fun j : Nat => Int32.ofInt (σ x j)) (Int32.ofInt i).toNatClampNeg (Int32.ofInt y)))) (by
    rw [show (Int32.ofInt y) = Int32.ofInt (y) from rfl, ← upd_up h0 hb]; rfl)
  rw [hse] at hP1
  exact kk p en R s m args below meth c H1 locs1 cells slots QM lsA hC h1 h2 h3 h4 (Hld_of hP1 hm hS1 hZ.1) hS1 hZ hls hol (okTs_tl (okTs_tl (okTs_tl hos))) hr
theorem r_bast {x i y : Int} (hA : isT t x 2) (h0 : 0 ≤ i) (hn : i < lenOf t x) (hd : decode (mC e) pc = .ok (.bastore, 1)) (kk : Wp l g e d kc ks (pc + 1) ls st t (up σ x i (i8 y)) Q) : Wp l g e d kc ks pc ls (vI y :: vI i :: vR x :: st) t σ Q := by
  intro p en R s m args below meth c H locs cells slots QM lsA hC h1 h2 h3 h4 hH hS hZ hls hol hos hr
  have hy : b32 y := okTs_hd hos
  have hb : b32 i := okTs_hd (okTs_tl hos)
  have hv : b32 (i8 y) := by first | exact hy | exact i8_b _ | exact i1_b _ | exact ich_b _
  have hm : MemOk t (up σ x i (i8 y)) := MemOk_up hH.2.1 hA.1 h0 hA.2 hv
  show W _ _ _ _ _ _ _ _ _ _ _ _ _ _ _ (F0 _ _ _ (.int (Int32.ofInt y) :: .int (Int32.ofInt i) :: rf g x :: _))
  rw [rf_ref hA.1]
  refine va_bast (cA := gC g 2) (n := lenOf t x) (f := fun j => Int32.ofInt (σ x j)) hC.1 hC.2.1 hC.2.2.2.2.2.2.2.2.1 hH.1 (world_D g t σ) hS x.toNat 2 (by rw [world_atI hA.1 hA.2]; rfl) (tyL_at g (by decide)) (in_of h0 hn hb) hd (fun H1 locs1 hP1 hD1 hS1 => ?_)
  have hse := world_set (g := g) (s := σ) (s' := up σ x i (i8 y)) hA.1 hA.2 (fun o ho => up_ne ho) (e' := .inl (gC g 2, lenOf t x, .inl (upd (fun j : Nat => Int32.ofInt (σ x j)) (Int32.ofInt i).toNatClampNeg (vp_nar .byte (Int32.ofInt y))))) (by
    rw [show (vp_nar .byte (Int32.ofInt y)) = Int32.ofInt (i8 y) from of_i8 y, ← upd_up h0 hb]; rfl)
  rw [hse] at hP1
  exact kk p en R s m args below meth c H1 locs1 cells slots QM lsA hC h1 h2 h3 h4 (Hld_of hP1 hm hS1 hZ.1) hS1 hZ hls hol (okTs_tl (okTs_tl (okTs_tl hos))) hr
theorem r_zast {x i y : Int} (hA : isT t x 3) (h0 : 0 ≤ i) (hn : i < lenOf t x) (hd : decode (mC e) pc = .ok (.bastore, 1)) (kk : Wp l g e d kc ks (pc + 1) ls st t (up σ x i (i1 y)) Q) : Wp l g e d kc ks pc ls (vI y :: vI i :: vR x :: st) t σ Q := by
  intro p en R s m args below meth c H locs cells slots QM lsA hC h1 h2 h3 h4 hH hS hZ hls hol hos hr
  have hy : b32 y := okTs_hd hos
  have hb : b32 i := okTs_hd (okTs_tl hos)
  have hv : b32 (i1 y) := by first | exact hy | exact i8_b _ | exact i1_b _ | exact ich_b _
  have hm : MemOk t (up σ x i (i1 y)) := MemOk_up hH.2.1 hA.1 h0 hA.2 hv
  show W _ _ _ _ _ _ _ _ _ _ _ _ _ _ _ (F0 _ _ _ (.int (Int32.ofInt y) :: .int (Int32.ofInt i) :: rf g x :: _))
  rw [rf_ref hA.1]
  refine va_zast (cA := gC g 3) (n := lenOf t x) (f := fun j => Int32.ofInt (σ x j)) hC.1 hC.2.1 hC.2.2.2.2.2.2.2.2.1 hH.1 (world_D g t σ) hS x.toNat 3 (by rw [world_atI hA.1 hA.2]; rfl) (tyL_at g (by decide)) (in_of h0 hn hb) hd (fun H1 locs1 hP1 hD1 hS1 => ?_)
  have hse := world_set (g := g) (s := σ) (s' := up σ x i (i1 y)) hA.1 hA.2 (fun o ho => up_ne ho) (e' := .inl (gC g 3, lenOf t x, .inl (upd (fun j : Nat => Int32.ofInt (σ x j)) (Int32.ofInt i).toNatClampNeg (vp_nar .boolean (Int32.ofInt y))))) (by
    rw [show (vp_nar .boolean (Int32.ofInt y)) = Int32.ofInt (i1 y) from of_i1 y, ← upd_up h0 hb]; rfl)
  rw [hse] at hP1
  exact kk p en R s m args below meth c H1 locs1 cells slots QM lsA hC h1 h2 h3 h4 (Hld_of hP1 hm hS1 hZ.1) hS1 hZ hls hol (okTs_tl (okTs_tl (okTs_tl hos))) hr
theorem r_cast {x i y : Int} (hA : isT t x 4) (h0 : 0 ≤ i) (hn : i < lenOf t x) (hd : decode (mC e) pc = .ok (.castore, 1)) (kk : Wp l g e d kc ks (pc + 1) ls st t (up σ x i (ich y)) Q) : Wp l g e d kc ks pc ls (vI y :: vI i :: vR x :: st) t σ Q := by
  intro p en R s m args below meth c H locs cells slots QM lsA hC h1 h2 h3 h4 hH hS hZ hls hol hos hr
  have hy : b32 y := okTs_hd hos
  have hb : b32 i := okTs_hd (okTs_tl hos)
  have hv : b32 (ich y) := by first | exact hy | exact i8_b _ | exact i1_b _ | exact ich_b _
  have hm : MemOk t (up σ x i (ich y)) := MemOk_up hH.2.1 hA.1 h0 hA.2 hv
  show W _ _ _ _ _ _ _ _ _ _ _ _ _ _ _ (F0 _ _ _ (.int (Int32.ofInt y) :: .int (Int32.ofInt i) :: rf g x :: _))
  rw [rf_ref hA.1]
  refine va_cast (cA := gC g 4) (n := lenOf t x) (f := fun j => Int32.ofInt (σ x j)) hC.1 hC.2.1 hC.2.2.2.2.2.2.2.2.1 hH.1 (world_D g t σ) hS x.toNat 4 (by rw [world_atI hA.1 hA.2]; rfl) (tyL_at g (by decide)) (in_of h0 hn hb) hd (fun H1 locs1 hP1 hD1 hS1 => ?_)
  have hse := world_set (g := g) (s := σ) (s' := up σ x i (ich y)) hA.1 hA.2 (fun o ho => up_ne ho) (e' := .inl (gC g 4, lenOf t x, .inl (upd (fun j : Nat => Int32.ofInt (σ x j)) (Int32.ofInt i).toNatClampNeg (vp_nar .char (Int32.ofInt y))))) (by
    rw [show (vp_nar .char (Int32.ofInt y)) = Int32.ofInt (ich y) from of_ich y, ← upd_up h0 hb]; rfl)
  rw [hse] at hP1
  exact kk p en R s m args below meth c H1 locs1 cells slots QM lsA hC h1 h2 h3 h4 (Hld_of hP1 hm hS1 hZ.1) hS1 hZ hls hol (okTs_tl (okTs_tl (okTs_tl hos))) hr
theorem r_lald {x i : Int} (hA : isT t x 1) (h0 : 0 ≤ i) (hn : i < lenOf t x) (hd : decode (mC e) pc = .ok (.laload, 1)) (kk : Wp l g e d kc ks (pc + 1) ls (vL (σ x i) :: st) t σ Q) : Wp l g e d kc ks pc ls (vI i :: vR x :: st) t σ Q := by
  intro p en R s m args below meth c H locs cells slots QM lsA hC h1 h2 h3 h4 hH hS hZ hls hol hos hr
  have hb : b32 i := okTs_hd hos
  have hv : b64 (σ x i) := okS_at hH.2.1 hA h0
  have kw := kk p en R s m args below meth c H locs cells slots QM lsA hC h1 h2 h3 h4 hH hS hZ hls hol (okTs_cons hv (okTs_tl (okTs_tl hos))) hr
  show W _ _ _ _ _ _ _ _ _ _ _ _ _ _ _ (F0 _ _ _ (.int (Int32.ofInt i) :: rf g x :: _))
  rw [rf_ref hA.1]
  exact va_lald (cA := gC g 1) (n := lenOf t x) (f := fun j => Int64.ofInt (σ x j)) hC.1 hC.2.1 hC.2.2.2.2.2.2.2.2.1 hH.1 x.toNat 1 (by rw [world_atI hA.1 hA.2]; rfl) (tyL_at g (by decide)) (in_of h0 hn hb) hd (by rw [rd_at (σ := σ) (x := x) h0 hb]; exact kw)
theorem r_last {x i y : Int} (hA : isT t x 1) (h0 : 0 ≤ i) (hn : i < lenOf t x) (hd : decode (mC e) pc = .ok (.lastore, 1)) (kk : Wp l g e d kc ks (pc + 1) ls st t (up σ x i y) Q) : Wp l g e d kc ks pc ls (vL y :: vI i :: vR x :: st) t σ Q := by
  intro p en R s m args below meth c H locs cells slots QM lsA hC h1 h2 h3 h4 hH hS hZ hls hol hos hr
  have hy : b64 y := okTs_hd hos
  have hb : b32 i := okTs_hd (okTs_tl hos)
  have hm : MemOk t (up σ x i y) := MemOk_up hH.2.1 hA.1 h0 hA.2 hy
  show W _ _ _ _ _ _ _ _ _ _ _ _ _ _ _ (F0 _ _ _ (.long (Int64.ofInt y) :: .int (Int32.ofInt i) :: rf g x :: _))
  rw [rf_ref hA.1]
  refine va_last (cA := gC g 1) (n := lenOf t x) (f := fun j => Int64.ofInt (σ x j)) hC.1 hC.2.1 hC.2.2.2.2.2.2.2.2.1 hH.1 (world_D g t σ) hS x.toNat 1 (by rw [world_atI hA.1 hA.2]; rfl) (tyL_at g (by decide)) (in_of h0 hn hb) hd (fun H1 locs1 hP1 hD1 hS1 => ?_)
  have hse := world_set (g := g) (s := σ) (s' := up σ x i y) hA.1 hA.2 (fun o ho => up_ne ho) (e' := .inl (gC g 1, lenOf t x, .inr (.inl (vp_updL (fun j : Nat => Int64.ofInt (σ x j)) (Int32.ofInt i).toNatClampNeg (Int64.ofInt y))))) (by
    rw [← updL_up h0 hb]; rfl)
  rw [hse] at hP1
  exact kk p en R s m args below meth c H1 locs1 cells slots QM lsA hC h1 h2 h3 h4 (Hld_of hP1 hm hS1 hZ.1) hS1 hZ hls hol (okTs_tl (okTs_tl (okTs_tl hos))) hr
theorem r_aald {x i : Int} (hA : isT t x 5) (h0 : 0 ≤ i) (hn : i < lenOf t x) (hd : decode (mC e) pc = .ok (.aaload, 1)) (kk : Wp l g e d kc ks (pc + 1) ls (vR (σ x i) :: st) t σ Q) : Wp l g e d kc ks pc ls (vI i :: vR x :: st) t σ Q := by
  intro p en R s m args below meth c H locs cells slots QM lsA hC h1 h2 h3 h4 hH hS hZ hls hol hos hr
  have hb : b32 i := okTs_hd hos
  have hv : -1 ≤ σ x i := okS_at hH.2.1 hA h0
  have kw := kk p en R s m args below meth c H locs cells slots QM lsA hC h1 h2 h3 h4 hH hS hZ hls hol (okTs_cons trivial (okTs_tl (okTs_tl hos))) hr
  show W _ _ _ _ _ _ _ _ _ _ _ _ _ _ _ (F0 _ _ _ (.int (Int32.ofInt i) :: rf g x :: _))
  rw [rf_ref hA.1]
  exact va_aldq (cA := gC g 5) (C := "StruckColours$Sea") (n := lenOf t x) (f := fun j => rfo g (σ x j)) hC.1 hC.2.1 hC.2.2.2.2.2.2.2.2.1 hH.1 x.toNat 5 (by rw [world_atI hA.1 hA.2]; rfl) (tyL_at g (by decide)) (in_of h0 hn hb) hd (by rw [rd_at (σ := σ) (x := x) h0 hb, rf_rfo hv]; exact kw)
theorem r_aast {x i y : Int} (hA : isT t x 5) (hy : isO t y 5) (h0 : 0 ≤ i) (hn : i < lenOf t x) (hd : decode (mC e) pc = .ok (.aastore, 1)) (kk : Wp l g e d kc ks (pc + 1) ls st t (up σ x i y) Q) : Wp l g e d kc ks pc ls (vR y :: vI i :: vR x :: st) t σ Q := by
  intro p en R s m args below meth c H locs cells slots QM lsA hC h1 h2 h3 h4 hH hS hZ hls hol hos hr
  obtain ⟨hy0, fin, hys⟩ := hy
  have hb : b32 i := okTs_hd (okTs_tl hos)
  have hm : MemOk t (up σ x i y) := MemOk_up hH.2.1 hA.1 h0 hA.2 (show -1 ≤ y by omega)
  show W _ _ _ _ _ _ _ _ _ _ _ _ _ _ _ (F0 _ _ _ (rf g y :: .int (Int32.ofInt i) :: rf g x :: _))
  rw [rf_ref hA.1, rf_ref hy0]
  refine va_astq (cA := gC g 5) (r := (RX5, TX5, 9)) (n := lenOf t x) (f := fun j => rfo g (σ x j)) hC.1 hC.2.1 hC.2.2.2.2.2.2.2.2.1 hH.1 (world_D g t σ) hS x.toNat 5 y.toNat 5 (by rw [world_atI hA.1 hA.2]; rfl) (tyL_at g (by decide)) (by rw [world_atI hy0 hys]; rfl) rfl (in_of h0 hn hb) hd (fun H1 locs1 hP1 hD1 hS1 => ?_)
  have hse := world_set (g := g) (s := σ) (s' := up σ x i y) hA.1 hA.2 (fun o ho => up_ne ho) (e' := .inl (gC g 5, lenOf t x, .inr (.inr (.inr (.inr (va_up (fun j : Nat => rfo g (σ x j)) (Int32.ofInt i).toNatClampNeg (some (gO g + y.toNat)))))))) (by
    rw [show some (gO g + y.toNat) = rfo g y by simp [rfo, hy0], ← updR_up h0 hb]; rfl)
  rw [hse] at hP1
  exact kk p en R s m args below meth c H1 locs1 cells slots QM lsA hC h1 h2 h3 h4 (Hld_of hP1 hm hS1 hZ.1) hS1 hZ hls hol (okTs_tl (okTs_tl (okTs_tl hos))) hr
theorem r_alen {x : Int} {ty : Nat} (hty : ty ≤ 5) (hA : isT t x ty) (hn : lenOf t x < 2147483648) (hd : decode (mC e) pc = .ok (.arraylength, 1)) (kk : Wp l g e d kc ks (pc + 1) ls (vI (lenOf t x) :: st) t σ Q) : Wp l g e d kc ks pc ls (vR x :: st) t σ Q := by
  intro p en R s m args below meth c H locs cells slots QM lsA hC h1 h2 h3 h4 hH hS hZ hls hol hos hr
  have kw := kk p en R s m args below meth c H locs cells slots QM lsA hC h1 h2 h3 h4 hH hS hZ hls hol (okTs_cons (show b32 _ by unfold b32; omega) (okTs_tl hos)) hr
  show W _ _ _ _ _ _ _ _ _ _ _ _ _ _ _ (F0 _ _ _ (rf g x :: _))
  rw [rf_ref hA.1]
  exact va_alen (cA := gC g ty) (x := (lenOf t x, arrE g ty (σ x))) hC.1 hC.2.1 hC.2.2.2.2.2.2.2.2.1 hH.1 x.toNat ty (by rw [world_atI hA.1 hA.2]; rfl) (tyL_at g hty) Int32.ofInt_eq_ofNat.symm hd kw
theorem rf_st {g : GE} {i : Nat} (h : 2 ≤ i) : rf g (-(i : Int)) = .ref (gS g i) := by
  unfold rf
  rw [if_neg (by omega), if_neg (by omega)]
  congr 2
  omega
theorem r_slen {i : Nat} (h2i : 2 ≤ i) (hi5 : i ≤ 5) (hd : decode (mC e) pc = .ok (.arraylength, 1)) (kk : Wp l g e d kc ks (pc + 1) ls (vI (sLen g i) :: st) t σ Q) : Wp l g e d kc ks pc ls (vR (-(i : Int)) :: st) t σ Q := by
  intro p en R s m args below meth c H locs cells slots QM lsA hC h1 h2 h3 h4 hH hS hZ hls hol hos hr
  have hg := hC.2.2.2.2.2.2.2.2.2.2.2.2.2.2
  have hn : sLen g i < 2147483648 := by
    unfold sLen
    split
    · exact hg
    · split <;> omega
  have kw := kk p en R s m args below meth c H locs cells slots QM lsA hC h1 h2 h3 h4 hH hS hZ hls hol (okTs_cons (show b32 _ by unfold b32; omega) (okTs_tl hos)) hr
  show W _ _ _ _ _ _ _ _ _ _ _ _ _ _ _ (F0 _ _ _ (rf g (-(i : Int)) :: _))
  rw [rf_st h2i]
  exact va_tlen hC.1 hC.2.1 (hC.2.2.2.2.2.2.2.2.2.2.2.1 i h2i hi5) hS Int32.ofInt_eq_ofNat.symm hd kw
theorem r_sald {i : Nat} {j : Int} (h3i : 3 ≤ i) (hi5 : i ≤ 5) (h0 : 0 ≤ j) (hn : j < sLen g i) (hd : decode (mC e) pc = .ok (.iaload, 1)) (kk : Wp l g e d kc ks (pc + 1) ls (vI (sCt g i j.toNat) :: st) t σ Q) : Wp l g e d kc ks pc ls (vI j :: vR (-(i : Int)) :: st) t σ Q := by
  intro p en R s m args below meth c H locs cells slots QM lsA hC h1 h2 h3 h4 hH hS hZ hls hol hos hr
  have hb : b32 j := okTs_hd hos
  have kw := kk p en R s m args below meth c H locs cells slots QM lsA hC h1 h2 h3 h4 hH hS hZ hls hol (okTs_cons (hC.2.2.2.2.2.2.2.2.2.2.2.2.2.1 i j.toNat) (okTs_tl (okTs_tl hos))) hr
  show W _ _ _ _ _ _ _ _ _ _ _ _ _ _ _ (F0 _ _ _ (.int (Int32.ofInt j) :: rf g (-(i : Int)) :: _))
  rw [rf_st (by omega)]
  have hT := hC.2.2.2.2.2.2.2.2.2.2.2.1 i (by omega) hi5
  have hty : sTy i = 0 := by unfold sTy; rw [if_neg (by omega)]
  rw [hty] at hT
  exact va_ti hC.1 hC.2.1 hT hS (in_of h0 hn hb) (v := .int (Int32.ofInt (sCt g i j.toNat))) (by rw [clamp_of' hb]) hd kw
theorem r_scald {j : Int} (h0 : 0 ≤ j) (hn : j < 7) (hd : decode (mC e) pc = .ok (.caload, 1)) (kk : Wp l g e d kc ks (pc + 1) ls (vI (sCt g 2 j.toNat) :: st) t σ Q) : Wp l g e d kc ks pc ls (vI j :: vR (-2) :: st) t σ Q := by
  intro p en R s m args below meth c H locs cells slots QM lsA hC h1 h2 h3 h4 hH hS hZ hls hol hos hr
  have hb : b32 j := okTs_hd hos
  have kw := kk p en R s m args below meth c H locs cells slots QM lsA hC h1 h2 h3 h4 hH hS hZ hls hol (okTs_cons (hC.2.2.2.2.2.2.2.2.2.2.2.2.2.1 2 j.toNat) (okTs_tl (okTs_tl hos))) hr
  show W _ _ _ _ _ _ _ _ _ _ _ _ _ _ _ (F0 _ _ _ (.int (Int32.ofInt j) :: rf g (-((2 : Nat) : Int)) :: _))
  rw [rf_st (by omega)]
  have hT := hC.2.2.2.2.2.2.2.2.2.2.2.1 2 (by omega) (by omega)
  exact va_tc hC.1 hC.2.1 hT hS (in_of h0 (by exact hn) hb) (v := .int (Int32.ofInt (sCt g 2 j.toNat))) (by rw [clamp_of' hb]) hd kw
def sLink (own : String) (idx i : Nat) : Bool := decide (Cond.fieldLink own idx "StruckColours" (sNm i).1 (sNm i).2 ∈ lw_tbl) && goodWord (Cond.fieldLink own idx "StruckColours" (sNm i).1 (sNm i).2)
theorem r_gets {idx i : Nat} (h2i : 2 ≤ i) (hi4 : i ≤ 4) (hl : sLink (mN e).cls idx i = true) (hd : decode (mC e) pc = .ok (.getstatic idx, 3)) (kk : Wp l g e d kc ks (pc + 3) ls (vR (-(i : Int)) :: st) t σ Q) : Wp l g e d kc ks pc ls st t σ Q := by
  intro p en R s m args below meth c H locs cells slots QM lsA hC h1 h2 h3 h4 hH hS hZ hls hol hos hr
  have kw := kk p en R s m args below meth c H locs cells slots QM lsA hC h1 h2 h3 h4 hH hS hZ hls hol (okTs_cons trivial hos) hr
  rw [List.map_cons, show cv g (vR (-(i : Int))) = rf g (-(i : Int)) from rfl, rf_st h2i] at kw
  unfold sLink at hl
  simp only [Bool.and_eq_true, decide_eq_true_eq] at hl
  exact va_gets hC.1 hC.2.1 (hC.2.2.2.2.2.2.2.2.2.2.2.2.1 i h2i hi4) hS hC.2.2.2.2.1 (hC.2.2.2.2.2.1 _ (List.mem_filter.mpr hl)) (fun _ z => z) hd kw
def cpy (σ : Mem) (a sp b dp n : Int) : Mem := fun o j => if o = b ∧ dp ≤ j ∧ j < dp + n then σ a (j - dp + sp) else σ o j
def cLink (own : String) (idx : Nat) : Bool := inALL [Cond.methodLink own idx arraycopyName, Cond.native arraycopyName, Cond.static arraycopyName, Cond.initialized "java/lang/System"]
theorem nfw : nativeFrameWords "java/lang/System" "arraycopy" 5 ≤ 40 := by decide +kernel
theorem r_copy {idx : Nat} {a b sp dp n : Int} (hA : isT t a 0) (hB : isT t b 0) (q1 : 0 ≤ sp) (q2 : 0 ≤ dp) (q3 : 0 ≤ n) (q4 : sp + n ≤ lenOf t a) (q5 : dp + n ≤ lenOf t b) (hst : (st.map catT).sum ≤ 8) (hl : cLink (mN e).cls idx = true) (hd : decode (mC e) pc = .ok (.invokestatic idx, 3))
    (kk : Wp l g e (d + 1) kc ks (pc + 3) ls st t (cpy σ a sp b dp n) Q) : Wp l g e (d + 1) kc ks pc ls (vI n :: vI dp :: vR b :: vI sp :: vR a :: st) t σ Q := by
  intro p en R s m args below meth c H locs cells slots QM lsA hC h1 h2 h3 h4 hH hS hZ hls hol hos hr
  have hn : b32 n := okTs_hd hos
  have hdp : b32 dp := okTs_hd (okTs_tl hos)
  have hsp : b32 sp := okTs_hd (okTs_tl (okTs_tl (okTs_tl hos)))
  have hwd := inALL_of hl
  have w1 := hC.2.2.2.2.2.1 _ (hwd _ List.mem_cons_self)
  have w2 := hC.2.2.2.2.2.1 _ (hwd _ (List.mem_cons_of_mem _ List.mem_cons_self))
  have w3 := hC.2.2.2.2.2.1 _ (hwd _ (List.mem_cons_of_mem _ (List.mem_cons_of_mem _ List.mem_cons_self)))
  have w4 := hC.2.2.2.2.2.1 _ (hwd _ (List.mem_cons_of_mem _ (List.mem_cons_of_mem _ (List.mem_cons_of_mem _ List.mem_cons_self))))
  have hm : MemOk t (cpy σ a sp b dp n) := by
    intro k sh hk j
    unfold cpy
    by_cases hc : (k : Int) = b ∧ dp ≤ (j : Int) ∧ (j : Int) < dp + n
    · rw [if_pos hc]
      have hkb : k = b.toNat := by omega
      rw [hkb, hB.2] at hk
      cases hk
      exact okS_at hH.2.1 hA (i := (j : Int) - dp + sp) (by omega)
    · rw [if_neg hc]
      exact hH.2.1 k sh hk j
  show W _ _ _ _ _ _ _ _ _ _ _ _ _ _ _ (F0 _ _ _ (.int (Int32.ofInt n) :: .int (Int32.ofInt dp) :: rf g b :: .int (Int32.ofInt sp) :: rf g a :: _))
  rw [rf_ref hA.1, rf_ref hB.1]
  refine va_copyi (c0 := gC g 0) (c1 := gC g 0) (n0 := lenOf t a) (n1 := lenOf t b) (f := fun j => Int32.ofInt (σ a j)) (g := fun j => Int32.ofInt (σ b j)) (ty := .int) hC.1 hC.2.1 (hC.2.2.2.1.trans hls.1.symm) hC.2.2.2.2.1 w1 w2 w3 w4 hC.2.2.2.2.2.2.2.2.1 hH.1 (world_D g t σ) hS a.toNat b.toNat 0 0 (by rw [world_atI hA.1 hA.2]; rfl) (by rw [world_atI hB.1 hB.2]; rfl) (tyL_at g (by decide)) (tyL_at g (by decide)) rfl
    (fun z => by have := (lt_of hsp b32_0).mp z; omega) (fun z => by have := (lt_of hdp b32_0).mp z; omega) (fun z => by have := (lt_of hn b32_0).mp z; omega) (by rw [clamp_of' hsp, clamp_of' hn]; omega) (by rw [clamp_of' hdp, clamp_of' hn]; omega) (fun i _ => rfl) (by omega) (by rw [cat_map]; have := nfw; omega) hd (fun H1 locs1 hP1 hD1 hS1 => ?_)
  have hse := world_set (g := g) (s := σ) (s' := cpy σ a sp b dp n) hB.1 hB.2 (fun o ho => by funext j; simp [cpy, ho]) (e' := .inl (gC g 0, lenOf t b, .inl (va_cpy (fun j : Nat => Int32.ofInt (σ a j)) (fun j : Nat => Int32.ofInt (σ b j)) (Int32.ofInt sp).toNatClampNeg (Int32.ofInt dp).toNatClampNeg (Int32.ofInt n).toNatClampNeg))) (by
    rw [clamp_of' hsp, clamp_of' hdp, clamp_of' hn]
    show Sum.inl (gC g 0, lenOf t b, Sum.inl (fun j : Nat => Int32.ofInt (cpy σ a sp b dp n b j))) = _
    have : (fun j : Nat => Int32.ofInt (cpy σ a sp b dp n b j)) = va_cpy (fun j : Nat => Int32.ofInt (σ a j)) (fun j : Nat => Int32.ofInt (σ b j)) sp.toNat dp.toNat n.toNat := by
      funext j
      unfold cpy va_cpy
      by_cases hc : dp.toNat ≤ j ∧ j < dp.toNat + n.toNat
      · rw [if_pos hc, if_pos ⟨rfl, by omega, by omega⟩]
        congr 2
        omega
      · rw [if_neg hc, if_neg (fun z => hc (by omega))]
    rw [this])
  rw [hse] at hP1
  exact kk p en R s m args below meth c H1 locs1 cells slots QM lsA hC h1 h2 h3 h4 (Hld_of hP1 hm hS1 hZ.1) hS1 hZ hls hol (okTs_tl (okTs_tl (okTs_tl (okTs_tl (okTs_tl hos))))) hr
end ARR
end
section
/-! returns, entries, calls -/
theorem map_toList (g : GE) (v : Option TV) (st : List TV) : (v.map (cv g)).toList ++ st.map (cv g) = (v.toList ++ st).map (cv g) := by
  cases v <;> simp
def largs : Nat → List TV → List (Nat × TV)
  | _, [] => []
  | i, v :: vs => (i, v) :: largs (i + catT v) vs
theorem largs_cv (g : GE) : ∀ (as : List TV) (i : Nat), lv_args i (as.map (cv g)) = cvL g (largs i as)
  | [], _ => rfl
  | v :: vs, i => by
    show (i, cv g v) :: lv_args (if (cv g v).category = 2 then i + 2 else i + 1) (vs.map (cv g)) = (i, cv g v) :: cvL g (largs (i + catT v) vs)
    rw [cv_cat]
    have : (if catT v = 2 then i + 2 else i + 1) = i + catT v := by
      match v with
      | .inl _ => rfl
      | .inr (.inl _) => rfl
      | .inr (.inr _) => rfl
    rw [this, largs_cv g vs]
theorem largs_ok : ∀ (as : List TV) (i : Nat), okTs as → okLs (largs i as)
  | [], _, _ => fun q hq => by cases hq
  | v :: vs, i, h => fun q hq => by
    rcases List.mem_cons.mp hq with h1 | h1
    · rw [h1]; exact okTs_hd h
    · exact largs_ok vs _ (okTs_tl h) q h1
theorem lg_len (g : GE) : ∀ as : List TV, (lg_sl (as.map (cv g))).length = (as.map catT).sum
  | [] => rfl
  | v :: vs => by
    have ih := lg_len g vs
    unfold lg_sl at ih ⊢
    rw [List.map_cons, List.flatMap_cons, List.length_append, ih, List.map_cons, List.sum_cons, cv_cat]
    congr 1
    match v with
    | .inl _ => rfl
    | .inr (.inl _) => rfl
    | .inr (.inr _) => rfl
section CAL
variable {l : Launch} {g : GE} {e d kc ks pc : Nat} {ls : List (Nat × TV)} {st : List TV} {t : Tau} {σ : Mem} {Q : Post}
theorem r_ret {i : Instr} {v : Option TV} (hst : st = v.toList) (hd : decode (mC e) pc = .ok (i, 1)) (hro : rOK e i v) (hk : kc = 0 ∨ gB g = false) (hQ : Q v t σ) : Wp l g e d kc ks pc ls st t σ Q := by
  intro p en R s m args below meth c H locs cells slots QM lsA hC h1 h2 h3 h4 hH hS hZ hls hol hos hr
  subst hst
  refine hr v t σ H locs cells slots lsA pc i hQ (fun x hx => hos x (by rw [hx]; exact List.mem_singleton.mpr rfl)) hH hS (by omega) (by omega) (fun z => ?_) hd hro
  rcases hk with hk | hk
  · have := hZ.2 z; omega
  · rw [hk] at z; cases z
theorem narrow_z {x : Int} (h : x = 0 ∨ x = 1) : narrow .boolean (.int (Int32.ofInt x)) = .int (Int32.ofInt x) := by
  rcases h with rfl | rfl
  · show Value.int (Int32.ofInt 0 &&& 1) = Value.int (Int32.ofInt 0); decide +kernel
  · show Value.int (Int32.ofInt 1 &&& 1) = Value.int (Int32.ofInt 1); decide +kernel
theorem narrow_c {x : Int} (h0 : 0 ≤ x) (h1 : x < 65536) : narrow .char (.int (Int32.ofInt x)) = .int (Int32.ofInt x) := by
  show Value.int (Int32.ofInt x).toUInt32.toUInt16.toUInt32.toInt32 = _
  congr 1
  obtain ⟨n, rfl⟩ := Int.eq_ofNat_of_zero_le h0
  have hn : n < 65536 := by omega
  rw [Int32.ofInt_eq_ofNat]
  have h2 : (Int32.ofNat n).toUInt32 = UInt32.ofNat n := rfl
  rw [h2]
  have h3 : (UInt32.ofNat n).toUInt16.toUInt32 = UInt32.ofNat n := by
    apply UInt32.toNat_inj.mp
    simp only [UInt16.toNat_toUInt32, UInt32.toNat_toUInt16, UInt32.toNat_ofNat']
    omega
  rw [h3]
  rfl
theorem wp_in {as : List TV} (hy : plainName (mN e).cls = true) (hl : (as.map catT).sum ≤ mL e) (k : Wp l g e d kc ks 0 (largs 0 as) [] t σ Q) : WPc l g e d kc ks as t σ Q := by
  refine Met.ofW (cc := mC e) (maxL := mL e) (ret := mR e) hy rfl ?_
  intro p en s m args below meth c s₁ B hml hv
  obtain ⟨rfl, hok, hKF, hH, hO, hT⟩ := hv
  have hle := lv_entry (as.map (cv g)) (n := mL e) (by rw [lg_len]; exact hl)
  rw [lg_entry_eq]
  generalize (lg_sl (as.map (cv g)) ++ List.replicate (mL e - (lg_sl (as.map (cv g))).length) Slot.unset).toArray = lsA at hle ⊢
  rw [largs_cv] at hle
  have hrt : meth.sig.returnType = mR e := B.returns
  have hlocks := B.notSynchronized
  have hx := B.exec
  have hb : c.code = mC e := B.bytes
  refine k p en (rmD d kc ks) s m _ below meth c s.heap [] 0 0 _ lsA ⟨hx, hb, hrt, hml, findClass_of_methodNamed B.named, fun w hw => atoms_spec (ws := wsM e) B.pre w (List.mem_cons_of_mem _ hw), hlocks, (name_of_methodNamed B.named B.method).1, hKF⟩ (Nat.le_refl _) (Nat.le_refl _) (by show 0 + kc ≤ kc; omega) (by show 0 + ks ≤ ks; omega) hH va_S.rf ⟨hO, fun z => by have := hT z; omega⟩ hle (largs_ok as 0 hok) (fun q hq => by cases hq) ?_
  intro v t' σ' H locs cells slots lsA' pc' i hQ hok' hH' hS' hc hs hT' hd hro
  refine W.widen (k := kc) (n := ks) (by omega) (by omega) ?_
  have hq : ∀ (ov : Option Value), ov = v.map (cv g) → ∀ u : State, u.heap = H → s.WarmedH u.vm → QcM g kc Q ((as.map (cv g)).toArray) s (.returned ov) u := fun ov ho u hu _ => ⟨v, t', σ', by rw [ho], hQ, hok', by rw [hu]; exact hH', hS'.F hu, fun z => by have := hT' z; omega⟩
  unfold rOK at hro
  split at hro
  · rename_i h
    subst hro
    exact W.vret hx hb (hrt.trans h) (hq none rfl) hS'.2.2 hd
  · rename_i y h
    subst hro
    exact W.iret hx hb (hrt.trans h) (hq _ rfl) hS'.2.2 hd
  · rename_i y h
    obtain ⟨rfl, hy⟩ := hro
    exact W.zret hx hb (hrt.trans h) (narrow_z hy) (hq _ rfl) hS'.2.2 hd
  · rename_i y h
    obtain ⟨rfl, hy0, hy1⟩ := hro
    exact W.zret hx hb (hrt.trans h) (narrow_c hy0 hy1) (hq _ rfl) hS'.2.2 hd
  · rename_i y h
    subst hro
    exact W.lret hx hb (hrt.trans h) (hq _ rfl) hS'.2.2 hd
  · rename_i n y h
    subst hro
    refine W.aret hx hb (hrt.trans h) (Or.inl ⟨_, rfl⟩) ?_ (hq _ rfl) hS'.2.2 hd
    rcases rf_cases g y with ⟨-, h⟩ | ⟨-, a, h⟩
    · exact Or.inl h
    · exact Or.inr ⟨a, h⟩
  · cases hro
theorem wcall {p : Program} {en : Env} {R : Room} {s : State} {m : MethodId} {args a : Array Value} {below : List Frame} {meth : Method} {c : Code} {H : Heap} {locs : List Loc} {cells slots mc ms : Nat} {QM : State → Prop} {lsA : Array Slot} {st0 rest : List Value} {Q' : Post}
    (hr : va_Run p l en R s m args below meth c H locs cells slots mc ms (F0 m pc lsA st0) rest (QcM g mc Q' a) (Ag g)) (hS : va_S (Ag g) s.heap H locs)
    (kk : ∀ (v : Option TV) (t' : Tau) (σ' : Mem) (H1 : Heap) (locs1 : List Loc), Q' v t' σ' → okO v → Hld g t' σ' H1 → va_S (Ag g) s.heap H1 locs1 → (gB g = true → H.size + mc ≤ gO g + t'.length) →
      W p l en R s m args below meth c H1 locs1 (cells + mc) (slots + ms) QM (F0 m (pc + 3) lsA ((v.map (cv g)).toList ++ rest))) : W p l en R s m args below meth c H locs cells slots QM (F0 m pc lsA st0) := by
  intro T hT X
  obtain ⟨v, st₀, u, T', L, h0, X', hL, e1, e2, ⟨v', t', σ', hv, hQ, hok, hH, ⟨hz, hk⟩, hG⟩, stp⟩ := hr T hT X
  have hv' : v = v'.map (cv g) := Outcome.returned.inj hv
  subst hv'
  rw [h0] at hz hk hG
  obtain ⟨t2, a1, b1⟩ := kk v' t' σ' T'.heap (locs ++ L) hQ hok (by rw [e1]; exact hH)
    ⟨Nat.le_trans hS.1 (by rw [e1]; exact hz), fun q h1 h2 => by rw [e1, hk q (Nat.lt_of_lt_of_le h1 hS.1) h2]; exact hS.2.1 q h1 h2, fun q hq => by
      rcases List.mem_append.mp hq with h | h
      · exact hS.2.2 q h
      · exact hL q h⟩ hG T' rfl X'
  exact ⟨t2, stp t2 a1, b1⟩
/-- the words of a call: 0 virtual, 1 virtual of a nest mate, 2 static, 3 static of a nest mate, 4 constructor, 5 of a nest mate -/
def callOk (kind : Nat) (own : String) (idx e' n : Nat) : Bool :=
  decide ((mN e').cls ≠ "java/lang/invoke/MethodHandle") && decide ((mN e').cls ≠ "java/lang/invoke/VarHandle") && decide ((parseMethodDescriptor (mN e').desc).map (fun d => d.parameters.length) = some n) && decide (mL e' ≤ 45) &&
  inALL [Cond.code (mN e') (mC e') (mL e') (mR e'), Cond.initialized (mN e').cls] &&
  (if kind = 0 ∨ kind = 1 then inALL [Cond.instanceMethod (mN e'), Cond.selects (mN e').cls (mN e') (mN e')] else if kind = 2 ∨ kind = 3 then inALL [Cond.static (mN e')] else inALL [Cond.instanceMethod (mN e')] && decide ((mN e').name = "<init>") && decide (mR e' = none)) &&
  (if kind % 2 = 0 then inALL [Cond.methodLink own idx (mN e')] else decide (Cond.methodLinkNest own idx (mN e') "StruckColours" ∈ tables_1))
theorem GoodAll {e' e : Nat} (h : Cond.code (mN e') (mC e') (mL e') (mR e') ∈ ALL) : GoodIn ALL (wsM e') := by
  intro w hw
  rcases List.mem_cons.mp hw with h1 | h1
  · rw [h1]; exact ⟨h, good_of_word (List.mem_filter.mp h).2⟩
  · exact ⟨h1, good_of_word (List.mem_filter.mp h1).2⟩
theorem m1 {a : Cond} {ws : List Cond} : a ∈ a :: ws := List.mem_cons_self
theorem m2 {a b : Cond} {ws : List Cond} : a ∈ b :: a :: ws := List.mem_cons_of_mem _ List.mem_cons_self
/-- behind any call -/
theorem r_call {mc ms : Nat} {as : List TV} {p : Program} {en : Env} {R : Room} {s : State} {m : MethodId} {args : Array Value} {below : List Frame} {meth : Method} {c : Code} {H : Heap} {locs : List Loc} {cells slots : Nat} {QM : State → Prop} {lsA : Array Slot} {st0 : List Value} {Q' : Post}
    (hmc : mc ≤ kc) (hms : ms ≤ ks) (hQ' : ∀ v t' σ', Q' v t' σ' → Wp l g e d (kc - mc) (ks - ms) (pc + 3) ls (v.toList ++ st) t' σ' Q)
    (hC : CxF g e p s m args meth c) (h1 : d ≤ R.frames) (h2 : 64 * d ≤ R.locals) (h3 : cells + kc ≤ R.cells) (h4 : slots + ks ≤ R.slots) (hH : Hld g t σ H) (hS : va_S (Ag g) s.heap H locs) (hZ : gO g ≤ s.heap.size ∧ (gB g = true → s.heap.size + cells ≤ gO g + t.length)) (hls : lv_has lsA (mL e) (cvL g ls)) (hol : okLs ls) (hos : okTs st) (hr : RetK l g e Q (cells + kc) (slots + ks) p en R s m args below meth c QM)
    (hrun : va_Run p l en R s m args below meth c H locs cells slots mc ms (F0 m pc lsA st0) (st.map (cv g)) (QcM g mc Q' ((as.map (cv g)).toArray)) (Ag g)) : W p l en R s m args below meth c H locs cells slots QM (F0 m pc lsA st0) := by
  refine wcall hrun hS fun v t' σ' H1 locs1 q1 q2 q3 q4 q5 => ?_
  rw [map_toList]
  refine hQ' v t' σ' q1 p en R s m args below meth c H1 locs1 (cells + mc) (slots + ms) QM lsA hC h1 h2 (by omega) (by omega) q3 q4 ⟨hZ.1, fun z => ?_⟩ hls hol ?_ ?_
  · have a := hZ.2 z
    have b := q5 z
    have c := hH.2.2
    omega
  · intro x hx
    rcases List.mem_append.mp hx with h | h
    · cases v with
      | none => cases h
      | some y => rw [List.mem_singleton.mp h]; exact q2 y rfl
    · exact hos x h
  · rw [show cells + mc + (kc - mc) = cells + kc by omega, show slots + ms + (ks - ms) = slots + ks by omega]
    exact hr
theorem pc_in {as : List TV} {s U : State} {m : MethodId} {p : Program} {args : Array Value} {meth : Method} {c : Code} {H : Heap} {locs : List Loc} {cells : Nat} (hC : CxF g e p s m args meth c) (hH : Hld g t σ H) (hS : va_S (Ag g) s.heap H locs) (hZ : gO g ≤ s.heap.size ∧ (gB g = true → s.heap.size + cells ≤ gO g + t.length)) (hsz : H.size ≤ s.heap.size + cells) (hoa : okTs as) (hU : U.heap = H) (hW : s.WarmedH U.vm) : PcM g as t σ ((as.map (cv g)).toArray) U := by
  refine ⟨rfl, hoa, hC.2.2.2.2.2.2.2.2.go hW (by rw [hU]; exact hS), by rw [hU]; exact hH, by rw [hU]; exact Nat.le_trans hZ.1 hS.1, fun z => ?_⟩
  have := hZ.2 z
  rw [hU]; omega
theorem r_callV {kind idx e' n mc ms ci : Nat} {as : List TV} {x : Int} {q : vw_C} (hkd : kind = 0 ∨ kind = 1) (hq : vwCl[ci]? = some q) (hqc : q.1 = (mN e').cls) (hO : isO t x ci) (hk : callOk kind (mN e).cls idx e' n = true) (hn : as.length = n) (hst : (st.map catT).sum ≤ 8) (hmc : mc ≤ kc) (hms : ms ≤ ks) (hd : decode (mC e) pc = .ok (.invokevirtual idx, 3))
    (kk : WPc l g e' d mc ms (vR x :: as) t σ (fun v t' σ' => Wp l g e (d + 1) (kc - mc) (ks - ms) (pc + 3) ls (v.toList ++ st) t' σ' Q)) : Wp l g e (d + 1) kc ks pc ls (as.reverse ++ vR x :: st) t σ Q := by
  intro p en R s m args below meth c H locs cells slots QM lsA hC h1 h2 h3 h4 hH hS hZ hls hol hos hr T hT X
  obtain ⟨hx, fin, hs⟩ := hO
  have hsz : H.size ≤ s.heap.size + cells := by rw [← hT]; exact X.same.2.2.1
  unfold callOk at hk
  simp only [Bool.and_eq_true, decide_eq_true_eq, ne_eq] at hk
  obtain ⟨⟨⟨⟨⟨⟨k1, k2⟩, k3⟩, k4⟩, k5⟩, k6⟩, k7⟩ := hk
  rw [if_pos hkd] at k6
  have w5 := inALL_of k5
  have w6 := inALL_of k6
  have hts := hC.2.2.2.2.2.1
  have hstk : ((as.reverse ++ vR x :: st).map (cv g)) = (as.map (cv g)).reverse ++ .ref (gO g + x.toNat) :: st.map (cv g) := by
    rw [List.map_append, List.map_reverse, List.map_cons, show cv g (vR x) = rf g x from rfl, rf_ref hx]
  have hoa : okTs (vR x :: as) := okTs_cons trivial fun v hv => hos v (List.mem_append_left _ (List.mem_reverse.mpr hv))
  have hor : okTs st := fun v hv => hos v (List.mem_append_right _ (List.mem_cons_of_mem _ hv))
  have hpre : PreV s H (mN e').cls (gO g + x.toNat) (PcM g (vR x :: as) t σ) (as.map (cv g)) := by
    refine ⟨PcM_blind g _ t σ, ?_, fun U hU hW => ?_⟩
    · rw [← hqc]
      exact va_recv hC.2.2.2.2.2.2.2.2.1 hH.1 hq (world_atI (g := g) (s := σ) hx hs)
    · have := pc_in (U := U) hC hH hS hZ hsz hoa hU hW
      rw [List.map_cons, show cv g (vR x) = rf g x from rfl, rf_ref hx] at this
      exact this
  have hS0 : CallFix p m c (mC e) (mL e) s args ALL (mN e).cls := ⟨hC.1, hC.2.1, hC.2.2.2.1, hC.2.2.2.2.1, hts⟩
  have hsg : ∀ sig, parseMethodDescriptor (mN e').desc = some sig → n = sig.parameters.length := fun sig h => by
    rw [h] at k3
    exact (Option.some.inj k3).symm
  have hMt : Met l (mN e') (wsM e') (rmD d mc ms) (PcM g (vR x :: as) t σ) (QcM g mc (fun v t' σ' => Wp l g e (d + 1) (kc - mc) (ks - ms) (pc + 3) ls (v.toList ++ st) t' σ' Q)) mc ms (Ag g) := kk
  have hbk : (rmD d mc ms).cells = mc ∧ (rmD d mc ms).slots = ms ∧ (rmD d mc ms).frames + 1 ≤ R.frames ∧ 8 + (mL e' + 11) + (rmD d mc ms).locals ≤ R.locals := ⟨rfl, rfl, h1, by show 8 + (mL e' + 11) + 64 * d ≤ R.locals; omega⟩
  have hrun : va_Run p l en R s m args below meth c H locs cells slots mc ms (F0 m pc lsA ((as.reverse ++ vR x :: st).map (cv g))) (st.map (cv g)) (QcM g mc (fun v t' σ' => Wp l g e (d + 1) (kc - mc) (ks - ms) (pc + 3) ls (v.toList ++ st) t' σ' Q) ((((vR x :: as).map (cv g))).toArray)) (Ag g) := by
    rw [List.map_cons, show cv g (vR x) = rf g x from rfl, rf_ref hx]
    rcases hkd with rfl | rfl
    · rw [if_pos rfl] at k7
      exact va_runV hS0 hMt ⟨⟨hbk.1, hbk.2.1, hbk.2.2.1, hbk.2.2.2, pay_in hts (GoodAll (e := e) (w5 _ m1)), List.mem_cons_self, hts _ (w5 _ m1), hts _ (w5 _ m2), ⟨k1, k2⟩, hsg, hts _ (inALL_of k7 _ m1)⟩, hts _ (w6 _ m1), hts _ (w6 _ m2)⟩ hpre rfl (by rw [List.length_map]; exact hn) hls.1 hstk (lv_room (by rw [cat_map]; exact hst)) hd ⟨by omega, by omega⟩
    · rw [if_neg (by decide)] at k7
      have hw : va_Nw (Cond.methodLinkNest (mN e).cls idx (mN e') "StruckColours") s := hC.2.2.2.2.2.2.2.2.2.1 _ (List.mem_filter.mpr ⟨of_decide_eq_true k7, rfl⟩)
      exact va_runVN (host := "StruckColours") hS0 hMt ⟨⟨⟨hbk.1, hbk.2.1, hbk.2.2.1, hbk.2.2.2, pay_in hts (GoodAll (e := e) (w5 _ m1)), List.mem_cons_self⟩, hts _ (w5 _ m1), hts _ (w5 _ m2), ⟨k1, k2⟩, hsg, va_Nw.use rfl hw⟩, hts _ (w6 _ m1), hts _ (w6 _ m2)⟩ hpre rfl (by rw [List.length_map]; exact hn) hls.1 hstk (lv_room (by rw [cat_map]; exact hst)) hd ⟨by omega, by omega⟩
  exact r_call (as := vR x :: as) hmc hms (fun _ _ _ z => z) hC h1 h2 h3 h4 hH hS hZ hls hol hor hr hrun T hT X
theorem r_callS {kind idx e' n mc ms : Nat} {as : List TV} (hkd : kind = 2 ∨ kind = 3) (hk : callOk kind (mN e).cls idx e' n = true) (hn : as.length = n) (hst : (st.map catT).sum ≤ 8) (hmc : mc ≤ kc) (hms : ms ≤ ks) (hd : decode (mC e) pc = .ok (.invokestatic idx, 3))
    (kk : WPc l g e' d mc ms as t σ (fun v t' σ' => Wp l g e (d + 1) (kc - mc) (ks - ms) (pc + 3) ls (v.toList ++ st) t' σ' Q)) : Wp l g e (d + 1) kc ks pc ls (as.reverse ++ st) t σ Q := by
  intro p en R s m args below meth c H locs cells slots QM lsA hC h1 h2 h3 h4 hH hS hZ hls hol hos hr T hT X
  have hsz : H.size ≤ s.heap.size + cells := by rw [← hT]; exact X.same.2.2.1
  unfold callOk at hk
  simp only [Bool.and_eq_true, decide_eq_true_eq, ne_eq] at hk
  obtain ⟨⟨⟨⟨⟨⟨k1, k2⟩, k3⟩, k4⟩, k5⟩, k6⟩, k7⟩ := hk
  rw [if_neg (by omega), if_pos hkd] at k6
  have w5 := inALL_of k5
  have w6 := inALL_of k6
  have hts := hC.2.2.2.2.2.1
  have hstk : ((as.reverse ++ st).map (cv g)) = (as.map (cv g)).reverse ++ st.map (cv g) := by
    rw [List.map_append, List.map_reverse]
  have hoa : okTs as := fun v hv => hos v (List.mem_append_left _ (List.mem_reverse.mpr hv))
  have hor : okTs st := fun v hv => hos v (List.mem_append_right _ hv)
  have hpre : PreS s H (PcM g as t σ) (as.map (cv g)) := ⟨PcM_blind g _ t σ, fun U hU hW => pc_in (U := U) hC hH hS hZ hsz hoa hU hW⟩
  have hS0 : CallFix p m c (mC e) (mL e) s args ALL (mN e).cls := ⟨hC.1, hC.2.1, hC.2.2.2.1, hC.2.2.2.2.1, hts⟩
  have hsg : ∀ sig, parseMethodDescriptor (mN e').desc = some sig → n = sig.parameters.length := fun sig h => by
    rw [h] at k3
    exact (Option.some.inj k3).symm
  have hMt : Met l (mN e') (wsM e') (rmD d mc ms) (PcM g as t σ) (QcM g mc (fun v t' σ' => Wp l g e (d + 1) (kc - mc) (ks - ms) (pc + 3) ls (v.toList ++ st) t' σ' Q)) mc ms (Ag g) := kk
  have hbk : (rmD d mc ms).cells = mc ∧ (rmD d mc ms).slots = ms ∧ (rmD d mc ms).frames + 1 ≤ R.frames ∧ 8 + (mL e' + 11) + (rmD d mc ms).locals ≤ R.locals := ⟨rfl, rfl, h1, by show 8 + (mL e' + 11) + 64 * d ≤ R.locals; omega⟩
  have hrun : va_Run p l en R s m args below meth c H locs cells slots mc ms (F0 m pc lsA ((as.reverse ++ st).map (cv g))) (st.map (cv g)) (QcM g mc (fun v t' σ' => Wp l g e (d + 1) (kc - mc) (ks - ms) (pc + 3) ls (v.toList ++ st) t' σ' Q) ((as.map (cv g)).toArray)) (Ag g) := by
    rcases hkd with rfl | rfl
    · rw [if_pos rfl] at k7
      exact va_runS hS0 hMt ⟨⟨hbk.1, hbk.2.1, hbk.2.2.1, hbk.2.2.2, pay_in hts (GoodAll (e := e) (w5 _ m1)), List.mem_cons_self, hts _ (w5 _ m1), hts _ (w5 _ m2), ⟨k1, k2⟩, hsg, hts _ (inALL_of k7 _ m1)⟩, hts _ (w6 _ m1)⟩ hpre rfl (by rw [List.length_map]; exact hn) hls.1 hstk (lv_room (by rw [cat_map]; exact hst)) hd ⟨by omega, by omega⟩
    · rw [if_neg (by decide)] at k7
      have hw : va_Nw (Cond.methodLinkNest (mN e).cls idx (mN e') "StruckColours") s := hC.2.2.2.2.2.2.2.2.2.1 _ (List.mem_filter.mpr ⟨of_decide_eq_true k7, rfl⟩)
      exact va_runSN (host := "StruckColours") hS0 hMt ⟨⟨⟨hbk.1, hbk.2.1, hbk.2.2.1, hbk.2.2.2, pay_in hts (GoodAll (e := e) (w5 _ m1)), List.mem_cons_self⟩, hts _ (w5 _ m1), hts _ (w5 _ m2), ⟨k1, k2⟩, hsg, va_Nw.use rfl hw⟩, hts _ (w6 _ m1), trivial⟩ hpre rfl (by rw [List.length_map]; exact hn) hls.1 hstk (lv_room (by rw [cat_map]; exact hst)) hd ⟨by omega, by omega⟩
  exact r_call (as := as) hmc hms (fun _ _ _ z => z) hC h1 h2 h3 h4 hH hS hZ hls hol hor hr hrun T hT X
theorem r_callI {kind idx e' n mc ms : Nat} {as : List TV} {x : Int} (hx : 0 ≤ x) (hkd : kind = 4 ∨ kind = 5) (hk : callOk kind (mN e).cls idx e' n = true) (hn : as.length = n) (hst : (st.map catT).sum ≤ 8) (hmc : mc ≤ kc) (hms : ms ≤ ks) (hd : decode (mC e) pc = .ok (.invokespecial idx, 3))
    (kk : WPc l g e' d mc ms (vR x :: as) t σ (fun v t' σ' => Wp l g e (d + 1) (kc - mc) (ks - ms) (pc + 3) ls (v.toList ++ st) t' σ' Q)) : Wp l g e (d + 1) kc ks pc ls (as.reverse ++ vR x :: st) t σ Q := by
  intro p en R s m args below meth c H locs cells slots QM lsA hC h1 h2 h3 h4 hH hS hZ hls hol hos hr T hT X
  have hsz : H.size ≤ s.heap.size + cells := by rw [← hT]; exact X.same.2.2.1
  unfold callOk at hk
  simp only [Bool.and_eq_true, decide_eq_true_eq, ne_eq] at hk
  obtain ⟨⟨⟨⟨⟨⟨k1, k2⟩, k3⟩, k4⟩, k5⟩, k6⟩, k7⟩ := hk
  rw [if_neg (by omega), if_neg (by omega)] at k6
  simp only [Bool.and_eq_true, decide_eq_true_eq] at k6
  obtain ⟨⟨k6, k8⟩, k9⟩ := k6
  have w5 := inALL_of k5
  have w6 := inALL_of k6
  have hts := hC.2.2.2.2.2.1
  have hstk : ((as.reverse ++ vR x :: st).map (cv g)) = (as.map (cv g)).reverse ++ .ref (gO g + x.toNat) :: st.map (cv g) := by
    rw [List.map_append, List.map_reverse, List.map_cons, show cv g (vR x) = rf g x from rfl, rf_ref hx]
  have hoa : okTs (vR x :: as) := okTs_cons trivial fun v hv => hos v (List.mem_append_left _ (List.mem_reverse.mpr hv))
  have hor : okTs st := fun v hv => hos v (List.mem_append_right _ (List.mem_cons_of_mem _ hv))
  have hpre : PreS s H (PcM g (vR x :: as) t σ) (.ref (gO g + x.toNat) :: as.map (cv g)) := by
    refine ⟨PcM_blind g _ t σ, fun U hU hW => ?_⟩
    have := pc_in (U := U) hC hH hS hZ hsz hoa hU hW
    rw [List.map_cons, show cv g (vR x) = rf g x from rfl, rf_ref hx] at this
    exact this
  have hS0 : CallFix p m c (mC e) (mL e) s args ALL (mN e).cls := ⟨hC.1, hC.2.1, hC.2.2.2.1, hC.2.2.2.2.1, hts⟩
  have hsg : ∀ sig, parseMethodDescriptor (mN e').desc = some sig → n = sig.parameters.length := fun sig h => by
    rw [h] at k3
    exact (Option.some.inj k3).symm
  have hMt : Met l (mN e') (wsM e') (rmD d mc ms) (PcM g (vR x :: as) t σ) (QcM g mc (fun v t' σ' => Wp l g e (d + 1) (kc - mc) (ks - ms) (pc + 3) ls (v.toList ++ st) t' σ' Q)) mc ms (Ag g) := kk
  have hbk : (rmD d mc ms).cells = mc ∧ (rmD d mc ms).slots = ms ∧ (rmD d mc ms).frames + 1 ≤ R.frames ∧ 8 + (mL e' + 11) + (rmD d mc ms).locals ≤ R.locals := ⟨rfl, rfl, h1, by show 8 + (mL e' + 11) + 64 * d ≤ R.locals; omega⟩
  have hrun : va_Run p l en R s m args below meth c H locs cells slots mc ms (F0 m pc lsA ((as.reverse ++ vR x :: st).map (cv g))) (st.map (cv g)) (QcM g mc (fun v t' σ' => Wp l g e (d + 1) (kc - mc) (ks - ms) (pc + 3) ls (v.toList ++ st) t' σ' Q) ((((vR x :: as).map (cv g))).toArray)) (Ag g) := by
    rw [List.map_cons, show cv g (vR x) = rf g x from rfl, rf_ref hx]
    have w1 := hts _ (w5 _ m1)
    rw [k9] at w1
    have w0 : Cond.code (mN e') (mC e') (mL e') none ∈ wsM e' := by rw [← k9]; exact List.mem_cons_self
    rcases hkd with rfl | rfl
    · rw [if_pos rfl] at k7
      exact va_runI hS0 hMt ⟨⟨hbk.1, hbk.2.1, hbk.2.2.1, hbk.2.2.2, pay_in hts (GoodAll (e := e) (w5 _ m1)), w0, w1, hts _ (w5 _ m2), ⟨k1, k2⟩, hsg, hts _ (inALL_of k7 _ m1)⟩, k8, hts _ (w6 _ m1)⟩ hpre rfl (by rw [List.length_map]; exact hn) hls.1 hstk (lv_room (by rw [cat_map]; exact hst)) hd ⟨by omega, by omega⟩
    · rw [if_neg (by decide)] at k7
      have hw : va_Nw (Cond.methodLinkNest (mN e).cls idx (mN e') "StruckColours") s := hC.2.2.2.2.2.2.2.2.2.1 _ (List.mem_filter.mpr ⟨of_decide_eq_true k7, rfl⟩)
      exact va_runIN (host := "StruckColours") hS0 hMt ⟨⟨⟨hbk.1, hbk.2.1, hbk.2.2.1, hbk.2.2.2, pay_in hts (GoodAll (e := e) (w5 _ m1)), w0⟩, w1, hts _ (w5 _ m2), ⟨k1, k2⟩, hsg, va_Nw.use rfl hw⟩, k8, hts _ (w6 _ m1)⟩ hpre rfl (by rw [List.length_map]; exact hn) hls.1 hstk (lv_room (by rw [cat_map]; exact hst)) hd ⟨by omega, by omega⟩
  exact r_call (as := vR x :: as) hmc hms (fun _ _ _ z => z) hC h1 h2 h3 h4 hH hS hZ hls hol hor hr hrun T hT X
end CAL
end
section
/-! links of fields and methods, by their places in the tables -/
def cnL : List String := ["StruckColours$Laws", "StruckColours$Notes", "StruckColours$Past", "StruckColours$Row", "StruckColours$Rule", "StruckColours$Sea", "StruckColours$Search", "StruckColours$Text", "StruckColours", "StruckColoursModel", "java/lang/Integer", "java/lang/Math", "StruckColoursLaw"]
def cn (i : Nat) : String := cnL.getD i ""
theorem in_t1 {w : Cond} {i : Nat} (h : tables_1_1[i]? = some w) : w ∈ tables_1 := List.mem_append_left _ (List.mem_of_getElem? h)
theorem in_t2 {w : Cond} {i : Nat} (h : tables_1_2[i]? = some w) : w ∈ tables_1 := List.mem_append_right _ (List.mem_append_left _ (List.mem_of_getElem? h))
theorem in_t3 {w : Cond} {i : Nat} (h : tables_1_3[i]? = some w) : w ∈ tables_1 := List.mem_append_right _ (List.mem_append_right _ (List.mem_append_left _ (List.mem_of_getElem? h)))
theorem in_t4 {w : Cond} {i : Nat} (h : tables_1_4[i]? = some w) : w ∈ tables_1 := List.mem_append_right _ (List.mem_append_right _ (List.mem_append_right _ (List.mem_append_left _ (List.mem_of_getElem? h))))
theorem in_t5 {w : Cond} {i : Nat} (h : tables_1_5[i]? = some w) : w ∈ tables_1 := List.mem_append_right _ (List.mem_append_right _ (List.mem_append_right _ (List.mem_append_right _ (List.mem_append_left _ (List.mem_of_getElem? h)))))
theorem in_t6 {w : Cond} {i : Nat} (h : tables_1_6[i]? = some w) : w ∈ tables_1 := List.mem_append_right _ (List.mem_append_right _ (List.mem_append_right _ (List.mem_append_right _ (List.mem_append_right _ (List.mem_append_left _ (List.mem_of_getElem? h))))))
theorem in_t7 {w : Cond} {i : Nat} (h : tables_1_7[i]? = some w) : w ∈ tables_1 := List.mem_append_right _ (List.mem_append_right _ (List.mem_append_right _ (List.mem_append_right _ (List.mem_append_right _ (List.mem_append_right _ (List.mem_of_getElem? h))))))
theorem in_lw {w : Cond} (h : w ∈ tables_1) : w ∈ lw_tbl := List.mem_append_right _ h
theorem in_sel {w : Cond} {i : Nat} (h : (k2_sels lw_privs)[i]? = some w) : w ∈ lw_tbl := List.mem_append_left _ (List.mem_of_getElem? h)
theorem mALL {w : Cond} (h : w ∈ tables_1) (hg : goodWord w = true) : inALL [w] = true := by
  unfold inALL
  simp only [List.all_cons, List.all_nil, Bool.and_true, Bool.and_eq_true, decide_eq_true_eq]
  exact ⟨in_lw h, hg⟩
theorem mSEL {w : Cond} (h : w ∈ lw_tbl) (hg : goodWord w = true) : inALL [w] = true := by
  unfold inALL
  simp only [List.all_cons, List.all_nil, Bool.and_true, Bool.and_eq_true, decide_eq_true_eq]
  exact ⟨h, hg⟩
theorem mALL2 {w w' : Cond} (h : inALL [w] = true) (h' : inALL [w'] = true) : inALL [w, w'] = true := by
  unfold inALL at h h' ⊢
  simp only [List.all_cons, List.all_nil, Bool.and_true] at h h' ⊢
  rw [h, h']
  rfl
theorem fLink_of {own : String} {idx ci k : Nat} {q : vw_C} (hq : vwCl[ci]? = some q) (h : Cond.fieldLink own idx (q.2.1 k).1 (q.2.1 k).2.1 (q.2.1 k).2.2.1 ∈ tables_1) : fLink own idx ci k = true := by
  unfold fLink
  rw [hq]
  simp only [Bool.and_eq_true, decide_eq_true_eq]
  exact ⟨in_lw h, rfl⟩
theorem fLinkN_of {own : String} {idx ci k : Nat} {q : vw_C} (hq : vwCl[ci]? = some q) (h : Cond.fieldLinkNest own idx (q.2.1 k).1 (q.2.1 k).2.1 (q.2.1 k).2.2.1 "StruckColours" ∈ tables_1) : fLinkN own idx ci k = true := by
  unfold fLinkN
  rw [hq]
  simp only [decide_eq_true_eq]
  exact h
def fOK (q : Nat × Nat × Nat × Nat) : Prop := fLink (cn q.1) q.2.1 q.2.2.1 q.2.2.2 = true ∨ fLinkN (cn q.1) q.2.1 q.2.2.1 q.2.2.2 = true
def ceB (e' n : Nat) : Prop := ((mN e').cls ≠ "java/lang/invoke/MethodHandle") ∧ ((mN e').cls ≠ "java/lang/invoke/VarHandle") ∧ ((parseMethodDescriptor (mN e').desc).map (fun d => d.parameters.length) = some n) ∧ mL e' ≤ 45 ∧ inALL [Cond.code (mN e') (mC e') (mL e') (mR e')] = true ∧ inALL [Cond.initialized (mN e').cls] = true
def ceV (e' : Nat) : Prop := inALL [Cond.instanceMethod (mN e')] = true ∧ inALL [Cond.selects (mN e').cls (mN e') (mN e')] = true
def ceS (e' : Nat) : Prop := inALL [Cond.static (mN e')] = true
def ceI (e' : Nat) : Prop := inALL [Cond.instanceMethod (mN e')] = true ∧ (mN e').name = "<init>" ∧ mR e' = none
theorem callOk_of {kind : Nat} {own : String} {idx e' n : Nat} (hb : ceB e' n) (hk : (kind = 0 ∨ kind = 1) ∧ ceV e' ∨ (kind = 2 ∨ kind = 3) ∧ ceS e' ∨ (kind = 4 ∨ kind = 5) ∧ ceI e') (hl : (kind % 2 = 0 ∧ inALL [Cond.methodLink own idx (mN e')] = true) ∨ (kind % 2 = 1 ∧ Cond.methodLinkNest own idx (mN e') "StruckColours" ∈ tables_1)) : callOk kind own idx e' n = true := by
  obtain ⟨h1, h2, h3, h4, h5, h6⟩ := hb
  unfold callOk
  simp only [Bool.and_eq_true, decide_eq_true_eq, ne_eq]
  refine ⟨⟨⟨⟨⟨⟨h1, h2⟩, h3⟩, h4⟩, mALL2 h5 h6⟩, ?_⟩, ?_⟩
  · rcases hk with ⟨hk, v⟩ | ⟨hk, v⟩ | ⟨hk, v⟩
    · rw [if_pos hk]; exact mALL2 v.1 v.2
    · rw [if_neg (by omega), if_pos hk]; exact v
    · rw [if_neg (by omega), if_neg (by omega)]
      simp only [Bool.and_eq_true, decide_eq_true_eq]
      exact ⟨⟨v.1, v.2.1⟩, v.2.2⟩
  · rcases hl with ⟨hk, v⟩ | ⟨hk, v⟩
    · rw [if_pos hk]; exact v
    · rw [if_neg (by omega)]; exact decide_eq_true v
/-- a call: the caller's class, the index, the method, its parameters, the kind -/
def cOK (q : Nat × Nat × Nat × Nat × Nat) : Prop := callOk q.2.2.2.2 (cn q.1) q.2.1 q.2.2.1 q.2.2.2.1 = true
set_option maxRecDepth 40000 in
theorem fl_0_9 : fOK (0, 9, 0, 0) := Or.inl (fLink_of rfl (in_t1 (i := 171) rfl))
set_option maxRecDepth 40000 in
theorem fl_0_17 : fOK (0, 17, 0, 1) := Or.inl (fLink_of rfl (in_t1 (i := 172) rfl))
set_option maxRecDepth 40000 in
theorem fl_0_21 : fOK (0, 21, 1, 3) := Or.inr (fLinkN_of rfl (in_t1 (i := 154) rfl))
set_option maxRecDepth 40000 in
theorem fl_1_9 : fOK (1, 9, 1, 0) := Or.inl (fLink_of rfl (in_t1 (i := 150) rfl))
set_option maxRecDepth 40000 in
theorem fl_1_15 : fOK (1, 15, 1, 1) := Or.inl (fLink_of rfl (in_t1 (i := 151) rfl))
set_option maxRecDepth 40000 in
theorem fl_1_18 : fOK (1, 18, 1, 2) := Or.inl (fLink_of rfl (in_t1 (i := 152) rfl))
set_option maxRecDepth 40000 in
theorem fl_1_21 : fOK (1, 21, 1, 3) := Or.inl (fLink_of rfl (in_t1 (i := 153) rfl))
set_option maxRecDepth 40000 in
theorem fl_2_11 : fOK (2, 11, 2, 0) := Or.inl (fLink_of rfl (in_t1 (i := 106) rfl))
set_option maxRecDepth 40000 in
theorem fl_2_18 : fOK (2, 18, 2, 2) := Or.inl (fLink_of rfl (in_t1 (i := 108) rfl))
set_option maxRecDepth 40000 in
theorem fl_2_22 : fOK (2, 22, 2, 1) := Or.inl (fLink_of rfl (in_t1 (i := 107) rfl))
set_option maxRecDepth 40000 in
theorem fl_3_7 : fOK (3, 7, 3, 0) := Or.inl (fLink_of rfl (in_t1 (i := 48) rfl))
set_option maxRecDepth 40000 in
theorem fl_3_13 : fOK (3, 13, 3, 1) := Or.inl (fLink_of rfl (in_t1 (i := 49) rfl))
set_option maxRecDepth 40000 in
theorem fl_4_9 : fOK (4, 9, 4, 0) := Or.inl (fLink_of rfl (in_t1 (i := 186) rfl))
set_option maxRecDepth 40000 in
theorem fl_4_15 : fOK (4, 15, 4, 1) := Or.inl (fLink_of rfl (in_t1 (i := 187) rfl))
set_option maxRecDepth 40000 in
theorem fl_4_19 : fOK (4, 19, 4, 2) := Or.inl (fLink_of rfl (in_t1 (i := 188) rfl))
set_option maxRecDepth 40000 in
theorem fl_4_22 : fOK (4, 22, 4, 3) := Or.inl (fLink_of rfl (in_t1 (i := 189) rfl))
set_option maxRecDepth 40000 in
theorem fl_4_26 : fOK (4, 26, 4, 4) := Or.inl (fLink_of rfl (in_t1 (i := 190) rfl))
set_option maxRecDepth 40000 in
theorem fl_4_29 : fOK (4, 29, 4, 5) := Or.inl (fLink_of rfl (in_t1 (i := 191) rfl))
set_option maxRecDepth 40000 in
theorem fl_4_32 : fOK (4, 32, 4, 6) := Or.inl (fLink_of rfl (in_t1 (i := 192) rfl))
set_option maxRecDepth 40000 in
theorem fl_4_35 : fOK (4, 35, 4, 7) := Or.inl (fLink_of rfl (in_t1 (i := 193) rfl))
set_option maxRecDepth 40000 in
theorem fl_4_38 : fOK (4, 38, 4, 8) := Or.inl (fLink_of rfl (in_t1 (i := 194) rfl))
set_option maxRecDepth 40000 in
theorem fl_4_116 : fOK (4, 116, 5, 1) := Or.inr (fLinkN_of rfl (in_t1 (i := 67) rfl))
set_option maxRecDepth 40000 in
theorem fl_5_9 : fOK (5, 9, 5, 3) := Or.inl (fLink_of rfl (in_t1 (i := 71) rfl))
set_option maxRecDepth 40000 in
theorem fl_5_15 : fOK (5, 15, 5, 4) := Or.inl (fLink_of rfl (in_t1 (i := 72) rfl))
set_option maxRecDepth 40000 in
theorem fl_5_18 : fOK (5, 18, 5, 5) := Or.inl (fLink_of rfl (in_t1 (i := 73) rfl))
set_option maxRecDepth 40000 in
theorem fl_5_21 : fOK (5, 21, 5, 6) := Or.inl (fLink_of rfl (in_t1 (i := 74) rfl))
set_option maxRecDepth 40000 in
theorem fl_5_24 : fOK (5, 24, 5, 7) := Or.inl (fLink_of rfl (in_t1 (i := 75) rfl))
set_option maxRecDepth 40000 in
theorem fl_5_27 : fOK (5, 27, 5, 8) := Or.inl (fLink_of rfl (in_t1 (i := 76) rfl))
set_option maxRecDepth 40000 in
theorem fl_5_30 : fOK (5, 30, 5, 0) := Or.inl (fLink_of rfl (in_t1 (i := 63) rfl))
set_option maxRecDepth 40000 in
theorem fl_5_34 : fOK (5, 34, 5, 1) := Or.inl (fLink_of rfl (in_t1 (i := 66) rfl))
set_option maxRecDepth 40000 in
theorem fl_5_37 : fOK (5, 37, 5, 2) := Or.inl (fLink_of rfl (in_t1 (i := 69) rfl))
set_option maxRecDepth 40000 in
theorem fl_6_11 : fOK (6, 11, 6, 0) := Or.inl (fLink_of rfl (in_t1 (i := 125) rfl))
set_option maxRecDepth 40000 in
theorem fl_6_17 : fOK (6, 17, 6, 1) := Or.inl (fLink_of rfl (in_t1 (i := 126) rfl))
set_option maxRecDepth 40000 in
theorem fl_6_22 : fOK (6, 22, 6, 2) := Or.inl (fLink_of rfl (in_t1 (i := 127) rfl))
set_option maxRecDepth 40000 in
theorem fl_6_26 : fOK (6, 26, 6, 3) := Or.inl (fLink_of rfl (in_t1 (i := 128) rfl))
set_option maxRecDepth 40000 in
theorem fl_6_30 : fOK (6, 30, 6, 4) := Or.inl (fLink_of rfl (in_t1 (i := 129) rfl))
set_option maxRecDepth 40000 in
theorem fl_6_33 : fOK (6, 33, 6, 5) := Or.inl (fLink_of rfl (in_t1 (i := 130) rfl))
set_option maxRecDepth 40000 in
theorem fl_6_56 : fOK (6, 56, 5, 0) := Or.inr (fLinkN_of rfl (in_t1 (i := 64) rfl))
set_option maxRecDepth 40000 in
theorem fl_7_9 : fOK (7, 9, 7, 0) := Or.inl (fLink_of rfl (in_t1 (i := 32) rfl))
set_option maxRecDepth 40000 in
theorem fl_7_15 : fOK (7, 15, 7, 1) := Or.inl (fLink_of rfl (in_t1 (i := 34) rfl))
set_option maxRecDepth 40000 in
theorem fl_8_10 : fOK (8, 10, 8, 0) := Or.inl (fLink_of rfl (in_t2 (i := 20) rfl))
set_option maxRecDepth 40000 in
theorem fl_8_19 : fOK (8, 19, 8, 1) := Or.inl (fLink_of rfl (in_t2 (i := 21) rfl))
set_option maxRecDepth 40000 in
theorem fl_8_26 : fOK (8, 26, 8, 2) := Or.inl (fLink_of rfl (in_t2 (i := 22) rfl))
set_option maxRecDepth 40000 in
theorem fl_8_30 : fOK (8, 30, 8, 3) := Or.inl (fLink_of rfl (in_t2 (i := 23) rfl))
set_option maxRecDepth 40000 in
theorem fl_8_33 : fOK (8, 33, 8, 4) := Or.inl (fLink_of rfl (in_t2 (i := 24) rfl))
set_option maxRecDepth 40000 in
theorem fl_8_39 : fOK (8, 39, 8, 5) := Or.inl (fLink_of rfl (in_t2 (i := 25) rfl))
set_option maxRecDepth 40000 in
theorem fl_8_43 : fOK (8, 43, 8, 6) := Or.inl (fLink_of rfl (in_t2 (i := 26) rfl))
set_option maxRecDepth 40000 in
theorem fl_8_46 : fOK (8, 46, 8, 7) := Or.inl (fLink_of rfl (in_t2 (i := 27) rfl))
set_option maxRecDepth 40000 in
theorem fl_8_52 : fOK (8, 52, 8, 8) := Or.inl (fLink_of rfl (in_t2 (i := 28) rfl))
set_option maxRecDepth 40000 in
theorem fl_8_59 : fOK (8, 59, 8, 9) := Or.inl (fLink_of rfl (in_t2 (i := 29) rfl))
set_option maxRecDepth 40000 in
theorem fl_8_63 : fOK (8, 63, 8, 10) := Or.inl (fLink_of rfl (in_t2 (i := 30) rfl))
set_option maxRecDepth 40000 in
theorem fl_8_69 : fOK (8, 69, 8, 11) := Or.inl (fLink_of rfl (in_t2 (i := 31) rfl))
set_option maxRecDepth 40000 in
theorem fl_8_76 : fOK (8, 76, 8, 12) := Or.inl (fLink_of rfl (in_t2 (i := 32) rfl))
set_option maxRecDepth 40000 in
theorem fl_8_80 : fOK (8, 80, 8, 13) := Or.inl (fLink_of rfl (in_t2 (i := 33) rfl))
set_option maxRecDepth 40000 in
theorem fl_8_83 : fOK (8, 83, 8, 14) := Or.inl (fLink_of rfl (in_t2 (i := 34) rfl))
set_option maxRecDepth 40000 in
theorem fl_8_95 : fOK (8, 95, 7, 1) := Or.inr (fLinkN_of rfl (in_t1 (i := 35) rfl))
set_option maxRecDepth 40000 in
theorem fl_8_121 : fOK (8, 121, 8, 15) := Or.inl (fLink_of rfl (in_t2 (i := 35) rfl))
set_option maxRecDepth 40000 in
theorem fl_8_173 : fOK (8, 173, 5, 0) := Or.inr (fLinkN_of rfl (in_t1 (i := 65) rfl))
set_option maxRecDepth 40000 in
theorem fl_8_224 : fOK (8, 224, 5, 2) := Or.inr (fLinkN_of rfl (in_t1 (i := 70) rfl))
set_option maxRecDepth 40000 in
theorem fl_8_231 : fOK (8, 231, 2, 2) := Or.inr (fLinkN_of rfl (in_t1 (i := 109) rfl))
set_option maxRecDepth 40000 in
theorem fl_8_289 : fOK (8, 289, 1, 3) := Or.inr (fLinkN_of rfl (in_t1 (i := 155) rfl))
set_option maxRecDepth 40000 in
theorem fl_8_301 : fOK (8, 301, 0, 1) := Or.inr (fLinkN_of rfl (in_t1 (i := 173) rfl))
set_option maxRecDepth 40000 in
theorem fl_8_321 : fOK (8, 321, 8, 16) := Or.inl (fLink_of rfl (in_t2 (i := 36) rfl))
set_option maxRecDepth 40000 in
theorem fl_8_334 : fOK (8, 334, 5, 1) := Or.inr (fLinkN_of rfl (in_t1 (i := 68) rfl))
set_option maxRecDepth 40000 in
theorem fl_8_340 : fOK (8, 340, 3, 1) := Or.inr (fLinkN_of rfl (in_t1 (i := 50) rfl))
set_option maxRecDepth 40000 in
theorem fl_8_363 : fOK (8, 363, 7, 0) := Or.inr (fLinkN_of rfl (in_t1 (i := 33) rfl))
set_option maxRecDepth 40000 in
theorem fl_9_9 : fOK (9, 9, 9, 0) := Or.inl (fLink_of rfl (in_t5 (i := 53) rfl))
set_option maxRecDepth 40000 in
theorem fl_9_13 : fOK (9, 13, 9, 2) := Or.inl (fLink_of rfl (in_t5 (i := 55) rfl))
set_option maxRecDepth 40000 in
theorem fl_9_17 : fOK (9, 17, 9, 3) := Or.inl (fLink_of rfl (in_t5 (i := 56) rfl))
set_option maxRecDepth 40000 in
theorem fl_9_20 : fOK (9, 20, 9, 4) := Or.inl (fLink_of rfl (in_t5 (i := 57) rfl))
set_option maxRecDepth 40000 in
theorem fl_9_24 : fOK (9, 24, 9, 6) := Or.inl (fLink_of rfl (in_t5 (i := 59) rfl))
set_option maxRecDepth 40000 in
theorem fl_9_28 : fOK (9, 28, 9, 14) := Or.inl (fLink_of rfl (in_t5 (i := 67) rfl))
set_option maxRecDepth 40000 in
theorem fl_9_31 : fOK (9, 31, 9, 15) := Or.inl (fLink_of rfl (in_t5 (i := 68) rfl))
set_option maxRecDepth 40000 in
theorem fl_9_34 : fOK (9, 34, 9, 16) := Or.inl (fLink_of rfl (in_t5 (i := 69) rfl))
set_option maxRecDepth 40000 in
theorem fl_9_37 : fOK (9, 37, 9, 19) := Or.inl (fLink_of rfl (in_t5 (i := 72) rfl))
set_option maxRecDepth 40000 in
theorem fl_9_40 : fOK (9, 40, 9, 20) := Or.inl (fLink_of rfl (in_t5 (i := 73) rfl))
set_option maxRecDepth 40000 in
theorem fl_9_43 : fOK (9, 43, 9, 22) := Or.inl (fLink_of rfl (in_t5 (i := 75) rfl))
set_option maxRecDepth 40000 in
theorem fl_9_46 : fOK (9, 46, 9, 23) := Or.inl (fLink_of rfl (in_t5 (i := 76) rfl))
set_option maxRecDepth 40000 in
theorem fl_9_49 : fOK (9, 49, 9, 24) := Or.inl (fLink_of rfl (in_t5 (i := 77) rfl))
set_option maxRecDepth 40000 in
theorem fl_9_52 : fOK (9, 52, 9, 25) := Or.inl (fLink_of rfl (in_t5 (i := 78) rfl))
set_option maxRecDepth 40000 in
theorem fl_9_55 : fOK (9, 55, 9, 26) := Or.inl (fLink_of rfl (in_t5 (i := 79) rfl))
set_option maxRecDepth 40000 in
theorem fl_9_58 : fOK (9, 58, 9, 27) := Or.inl (fLink_of rfl (in_t5 (i := 80) rfl))
set_option maxRecDepth 40000 in
theorem fl_9_61 : fOK (9, 61, 9, 28) := Or.inl (fLink_of rfl (in_t5 (i := 81) rfl))
set_option maxRecDepth 40000 in
theorem fl_9_64 : fOK (9, 64, 9, 29) := Or.inl (fLink_of rfl (in_t5 (i := 82) rfl))
set_option maxRecDepth 40000 in
theorem fl_9_67 : fOK (9, 67, 9, 31) := Or.inl (fLink_of rfl (in_t5 (i := 84) rfl))
set_option maxRecDepth 40000 in
theorem fl_9_70 : fOK (9, 70, 9, 32) := Or.inl (fLink_of rfl (in_t5 (i := 85) rfl))
set_option maxRecDepth 40000 in
theorem fl_9_73 : fOK (9, 73, 9, 35) := Or.inl (fLink_of rfl (in_t5 (i := 88) rfl))
set_option maxRecDepth 40000 in
theorem fl_9_77 : fOK (9, 77, 9, 38) := Or.inl (fLink_of rfl (in_t5 (i := 91) rfl))
set_option maxRecDepth 40000 in
theorem fl_9_80 : fOK (9, 80, 9, 39) := Or.inl (fLink_of rfl (in_t5 (i := 92) rfl))
set_option maxRecDepth 40000 in
theorem fl_9_83 : fOK (9, 83, 9, 40) := Or.inl (fLink_of rfl (in_t5 (i := 93) rfl))
set_option maxRecDepth 40000 in
theorem fl_9_86 : fOK (9, 86, 9, 8) := Or.inl (fLink_of rfl (in_t5 (i := 61) rfl))
set_option maxRecDepth 40000 in
theorem fl_9_89 : fOK (9, 89, 9, 7) := Or.inl (fLink_of rfl (in_t5 (i := 60) rfl))
set_option maxRecDepth 40000 in
theorem fl_9_92 : fOK (9, 92, 9, 1) := Or.inl (fLink_of rfl (in_t5 (i := 54) rfl))
set_option maxRecDepth 40000 in
theorem fl_9_107 : fOK (9, 107, 9, 5) := Or.inl (fLink_of rfl (in_t5 (i := 58) rfl))
set_option maxRecDepth 40000 in
theorem fl_9_110 : fOK (9, 110, 9, 9) := Or.inl (fLink_of rfl (in_t5 (i := 62) rfl))
set_option maxRecDepth 40000 in
theorem fl_9_113 : fOK (9, 113, 9, 10) := Or.inl (fLink_of rfl (in_t5 (i := 63) rfl))
set_option maxRecDepth 40000 in
theorem fl_9_116 : fOK (9, 116, 9, 11) := Or.inl (fLink_of rfl (in_t5 (i := 64) rfl))
set_option maxRecDepth 40000 in
theorem fl_9_119 : fOK (9, 119, 9, 12) := Or.inl (fLink_of rfl (in_t5 (i := 65) rfl))
set_option maxRecDepth 40000 in
theorem fl_9_122 : fOK (9, 122, 9, 13) := Or.inl (fLink_of rfl (in_t5 (i := 66) rfl))
set_option maxRecDepth 40000 in
theorem fl_9_155 : fOK (9, 155, 9, 21) := Or.inl (fLink_of rfl (in_t5 (i := 74) rfl))
set_option maxRecDepth 40000 in
theorem fl_9_158 : fOK (9, 158, 9, 37) := Or.inl (fLink_of rfl (in_t5 (i := 90) rfl))
set_option maxRecDepth 40000 in
theorem fl_9_184 : fOK (9, 184, 9, 18) := Or.inl (fLink_of rfl (in_t5 (i := 71) rfl))
set_option maxRecDepth 40000 in
theorem fl_9_191 : fOK (9, 191, 9, 17) := Or.inl (fLink_of rfl (in_t5 (i := 70) rfl))
set_option maxRecDepth 40000 in
theorem fl_9_330 : fOK (9, 330, 9, 30) := Or.inl (fLink_of rfl (in_t5 (i := 83) rfl))
set_option maxRecDepth 40000 in
theorem fl_9_339 : fOK (9, 339, 9, 34) := Or.inl (fLink_of rfl (in_t5 (i := 87) rfl))
set_option maxRecDepth 40000 in
theorem fl_9_342 : fOK (9, 342, 9, 33) := Or.inl (fLink_of rfl (in_t5 (i := 86) rfl))
set_option maxRecDepth 40000 in
theorem fl_9_376 : fOK (9, 376, 9, 36) := Or.inl (fLink_of rfl (in_t5 (i := 89) rfl))
def fT_0 : List (Nat × Nat × Nat × Nat) := [(0, 9, 0, 0), (0, 17, 0, 1), (0, 21, 1, 3), (1, 9, 1, 0), (1, 15, 1, 1), (1, 18, 1, 2), (1, 21, 1, 3), (2, 11, 2, 0), (2, 18, 2, 2), (2, 22, 2, 1), (3, 7, 3, 0), (3, 13, 3, 1), (4, 9, 4, 0), (4, 15, 4, 1), (4, 19, 4, 2), (4, 22, 4, 3), (4, 26, 4, 4), (4, 29, 4, 5), (4, 32, 4, 6), (4, 35, 4, 7)]
theorem fT_0_ok : ∀ q ∈ fT_0, fOK q := List.forall_mem_cons.mpr ⟨fl_0_9, List.forall_mem_cons.mpr ⟨fl_0_17, List.forall_mem_cons.mpr ⟨fl_0_21, List.forall_mem_cons.mpr ⟨fl_1_9, List.forall_mem_cons.mpr ⟨fl_1_15, List.forall_mem_cons.mpr ⟨fl_1_18, List.forall_mem_cons.mpr ⟨fl_1_21, List.forall_mem_cons.mpr ⟨fl_2_11, List.forall_mem_cons.mpr ⟨fl_2_18, List.forall_mem_cons.mpr ⟨fl_2_22, List.forall_mem_cons.mpr ⟨fl_3_7, List.forall_mem_cons.mpr ⟨fl_3_13, List.forall_mem_cons.mpr ⟨fl_4_9, List.forall_mem_cons.mpr ⟨fl_4_15, List.forall_mem_cons.mpr ⟨fl_4_19, List.forall_mem_cons.mpr ⟨fl_4_22, List.forall_mem_cons.mpr ⟨fl_4_26, List.forall_mem_cons.mpr ⟨fl_4_29, List.forall_mem_cons.mpr ⟨fl_4_32, List.forall_mem_cons.mpr ⟨fl_4_35, fun _ h => absurd h List.not_mem_nil⟩⟩⟩⟩⟩⟩⟩⟩⟩⟩⟩⟩⟩⟩⟩⟩⟩⟩⟩⟩
def fT_1 : List (Nat × Nat × Nat × Nat) := [(4, 38, 4, 8), (4, 116, 5, 1), (5, 9, 5, 3), (5, 15, 5, 4), (5, 18, 5, 5), (5, 21, 5, 6), (5, 24, 5, 7), (5, 27, 5, 8), (5, 30, 5, 0), (5, 34, 5, 1), (5, 37, 5, 2), (6, 11, 6, 0), (6, 17, 6, 1), (6, 22, 6, 2), (6, 26, 6, 3), (6, 30, 6, 4), (6, 33, 6, 5), (6, 56, 5, 0), (7, 9, 7, 0), (7, 15, 7, 1)]
theorem fT_1_ok : ∀ q ∈ fT_1, fOK q := List.forall_mem_cons.mpr ⟨fl_4_38, List.forall_mem_cons.mpr ⟨fl_4_116, List.forall_mem_cons.mpr ⟨fl_5_9, List.forall_mem_cons.mpr ⟨fl_5_15, List.forall_mem_cons.mpr ⟨fl_5_18, List.forall_mem_cons.mpr ⟨fl_5_21, List.forall_mem_cons.mpr ⟨fl_5_24, List.forall_mem_cons.mpr ⟨fl_5_27, List.forall_mem_cons.mpr ⟨fl_5_30, List.forall_mem_cons.mpr ⟨fl_5_34, List.forall_mem_cons.mpr ⟨fl_5_37, List.forall_mem_cons.mpr ⟨fl_6_11, List.forall_mem_cons.mpr ⟨fl_6_17, List.forall_mem_cons.mpr ⟨fl_6_22, List.forall_mem_cons.mpr ⟨fl_6_26, List.forall_mem_cons.mpr ⟨fl_6_30, List.forall_mem_cons.mpr ⟨fl_6_33, List.forall_mem_cons.mpr ⟨fl_6_56, List.forall_mem_cons.mpr ⟨fl_7_9, List.forall_mem_cons.mpr ⟨fl_7_15, fun _ h => absurd h List.not_mem_nil⟩⟩⟩⟩⟩⟩⟩⟩⟩⟩⟩⟩⟩⟩⟩⟩⟩⟩⟩⟩
def fT_2 : List (Nat × Nat × Nat × Nat) := [(8, 10, 8, 0), (8, 19, 8, 1), (8, 26, 8, 2), (8, 30, 8, 3), (8, 33, 8, 4), (8, 39, 8, 5), (8, 43, 8, 6), (8, 46, 8, 7), (8, 52, 8, 8), (8, 59, 8, 9), (8, 63, 8, 10), (8, 69, 8, 11), (8, 76, 8, 12), (8, 80, 8, 13), (8, 83, 8, 14), (8, 95, 7, 1), (8, 121, 8, 15), (8, 173, 5, 0), (8, 224, 5, 2), (8, 231, 2, 2)]
theorem fT_2_ok : ∀ q ∈ fT_2, fOK q := List.forall_mem_cons.mpr ⟨fl_8_10, List.forall_mem_cons.mpr ⟨fl_8_19, List.forall_mem_cons.mpr ⟨fl_8_26, List.forall_mem_cons.mpr ⟨fl_8_30, List.forall_mem_cons.mpr ⟨fl_8_33, List.forall_mem_cons.mpr ⟨fl_8_39, List.forall_mem_cons.mpr ⟨fl_8_43, List.forall_mem_cons.mpr ⟨fl_8_46, List.forall_mem_cons.mpr ⟨fl_8_52, List.forall_mem_cons.mpr ⟨fl_8_59, List.forall_mem_cons.mpr ⟨fl_8_63, List.forall_mem_cons.mpr ⟨fl_8_69, List.forall_mem_cons.mpr ⟨fl_8_76, List.forall_mem_cons.mpr ⟨fl_8_80, List.forall_mem_cons.mpr ⟨fl_8_83, List.forall_mem_cons.mpr ⟨fl_8_95, List.forall_mem_cons.mpr ⟨fl_8_121, List.forall_mem_cons.mpr ⟨fl_8_173, List.forall_mem_cons.mpr ⟨fl_8_224, List.forall_mem_cons.mpr ⟨fl_8_231, fun _ h => absurd h List.not_mem_nil⟩⟩⟩⟩⟩⟩⟩⟩⟩⟩⟩⟩⟩⟩⟩⟩⟩⟩⟩⟩
def fT_3 : List (Nat × Nat × Nat × Nat) := [(8, 289, 1, 3), (8, 301, 0, 1), (8, 321, 8, 16), (8, 334, 5, 1), (8, 340, 3, 1), (8, 363, 7, 0), (9, 9, 9, 0), (9, 13, 9, 2), (9, 17, 9, 3), (9, 20, 9, 4), (9, 24, 9, 6), (9, 28, 9, 14), (9, 31, 9, 15), (9, 34, 9, 16), (9, 37, 9, 19), (9, 40, 9, 20), (9, 43, 9, 22), (9, 46, 9, 23), (9, 49, 9, 24), (9, 52, 9, 25)]
theorem fT_3_ok : ∀ q ∈ fT_3, fOK q := List.forall_mem_cons.mpr ⟨fl_8_289, List.forall_mem_cons.mpr ⟨fl_8_301, List.forall_mem_cons.mpr ⟨fl_8_321, List.forall_mem_cons.mpr ⟨fl_8_334, List.forall_mem_cons.mpr ⟨fl_8_340, List.forall_mem_cons.mpr ⟨fl_8_363, List.forall_mem_cons.mpr ⟨fl_9_9, List.forall_mem_cons.mpr ⟨fl_9_13, List.forall_mem_cons.mpr ⟨fl_9_17, List.forall_mem_cons.mpr ⟨fl_9_20, List.forall_mem_cons.mpr ⟨fl_9_24, List.forall_mem_cons.mpr ⟨fl_9_28, List.forall_mem_cons.mpr ⟨fl_9_31, List.forall_mem_cons.mpr ⟨fl_9_34, List.forall_mem_cons.mpr ⟨fl_9_37, List.forall_mem_cons.mpr ⟨fl_9_40, List.forall_mem_cons.mpr ⟨fl_9_43, List.forall_mem_cons.mpr ⟨fl_9_46, List.forall_mem_cons.mpr ⟨fl_9_49, List.forall_mem_cons.mpr ⟨fl_9_52, fun _ h => absurd h List.not_mem_nil⟩⟩⟩⟩⟩⟩⟩⟩⟩⟩⟩⟩⟩⟩⟩⟩⟩⟩⟩⟩
def fT_4 : List (Nat × Nat × Nat × Nat) := [(9, 55, 9, 26), (9, 58, 9, 27), (9, 61, 9, 28), (9, 64, 9, 29), (9, 67, 9, 31), (9, 70, 9, 32), (9, 73, 9, 35), (9, 77, 9, 38), (9, 80, 9, 39), (9, 83, 9, 40), (9, 86, 9, 8), (9, 89, 9, 7), (9, 92, 9, 1), (9, 107, 9, 5), (9, 110, 9, 9), (9, 113, 9, 10), (9, 116, 9, 11), (9, 119, 9, 12), (9, 122, 9, 13), (9, 155, 9, 21)]
theorem fT_4_ok : ∀ q ∈ fT_4, fOK q := List.forall_mem_cons.mpr ⟨fl_9_55, List.forall_mem_cons.mpr ⟨fl_9_58, List.forall_mem_cons.mpr ⟨fl_9_61, List.forall_mem_cons.mpr ⟨fl_9_64, List.forall_mem_cons.mpr ⟨fl_9_67, List.forall_mem_cons.mpr ⟨fl_9_70, List.forall_mem_cons.mpr ⟨fl_9_73, List.forall_mem_cons.mpr ⟨fl_9_77, List.forall_mem_cons.mpr ⟨fl_9_80, List.forall_mem_cons.mpr ⟨fl_9_83, List.forall_mem_cons.mpr ⟨fl_9_86, List.forall_mem_cons.mpr ⟨fl_9_89, List.forall_mem_cons.mpr ⟨fl_9_92, List.forall_mem_cons.mpr ⟨fl_9_107, List.forall_mem_cons.mpr ⟨fl_9_110, List.forall_mem_cons.mpr ⟨fl_9_113, List.forall_mem_cons.mpr ⟨fl_9_116, List.forall_mem_cons.mpr ⟨fl_9_119, List.forall_mem_cons.mpr ⟨fl_9_122, List.forall_mem_cons.mpr ⟨fl_9_155, fun _ h => absurd h List.not_mem_nil⟩⟩⟩⟩⟩⟩⟩⟩⟩⟩⟩⟩⟩⟩⟩⟩⟩⟩⟩⟩
def fT_5 : List (Nat × Nat × Nat × Nat) := [(9, 158, 9, 37), (9, 184, 9, 18), (9, 191, 9, 17), (9, 330, 9, 30), (9, 339, 9, 34), (9, 342, 9, 33), (9, 376, 9, 36)]
theorem fT_5_ok : ∀ q ∈ fT_5, fOK q := List.forall_mem_cons.mpr ⟨fl_9_158, List.forall_mem_cons.mpr ⟨fl_9_184, List.forall_mem_cons.mpr ⟨fl_9_191, List.forall_mem_cons.mpr ⟨fl_9_330, List.forall_mem_cons.mpr ⟨fl_9_339, List.forall_mem_cons.mpr ⟨fl_9_342, List.forall_mem_cons.mpr ⟨fl_9_376, fun _ h => absurd h List.not_mem_nil⟩⟩⟩⟩⟩⟩⟩
def fT : List (Nat × Nat × Nat × Nat) := fT_0 ++ (fT_1 ++ (fT_2 ++ (fT_3 ++ (fT_4 ++ (fT_5)))))
theorem fT_ok : ∀ q ∈ fT, fOK q := List.forall_mem_append.mpr ⟨fT_0_ok, List.forall_mem_append.mpr ⟨fT_1_ok, List.forall_mem_append.mpr ⟨fT_2_ok, List.forall_mem_append.mpr ⟨fT_3_ok, List.forall_mem_append.mpr ⟨fT_4_ok, fT_5_ok⟩⟩⟩⟩⟩
set_option maxRecDepth 40000 in
theorem cb_0 : ceB 0 0 := ⟨by decide +kernel, by decide +kernel, by decide +kernel, by decide +kernel, mALL (in_t1 (i := 169) rfl) rfl, mALL (in_t1 (i := 8) rfl) rfl⟩
set_option maxRecDepth 40000 in
theorem ci_0 : ceI 0 := ⟨mALL (in_t1 (i := 168) rfl) rfl, by decide +kernel, by decide +kernel⟩
set_option maxRecDepth 40000 in
theorem cb_1 : ceB 1 1 := ⟨by decide +kernel, by decide +kernel, by decide +kernel, by decide +kernel, mALL (in_t4 (i := 90) rfl) rfl, mALL (in_t1 (i := 8) rfl) rfl⟩
set_option maxRecDepth 40000 in
theorem cv_1 : ceV 1 := ⟨mALL (in_t4 (i := 89) rfl) rfl, mSEL (in_sel (i := 72) rfl) rfl⟩
set_option maxRecDepth 40000 in
theorem cb_2 : ceB 2 2 := ⟨by decide +kernel, by decide +kernel, by decide +kernel, by decide +kernel, mALL (in_t4 (i := 93) rfl) rfl, mALL (in_t1 (i := 8) rfl) rfl⟩
set_option maxRecDepth 40000 in
theorem cs_2 : ceS 2 := mALL (in_t4 (i := 92) rfl) rfl
set_option maxRecDepth 40000 in
theorem cb_3 : ceB 3 2 := ⟨by decide +kernel, by decide +kernel, by decide +kernel, by decide +kernel, mALL (in_t4 (i := 110) rfl) rfl, mALL (in_t1 (i := 8) rfl) rfl⟩
set_option maxRecDepth 40000 in
theorem cv_3 : ceV 3 := ⟨mALL (in_t4 (i := 109) rfl) rfl, mSEL (in_sel (i := 74) rfl) rfl⟩
set_option maxRecDepth 40000 in
theorem cb_4 : ceB 4 3 := ⟨by decide +kernel, by decide +kernel, by decide +kernel, by decide +kernel, mALL (in_t4 (i := 98) rfl) rfl, mALL (in_t1 (i := 8) rfl) rfl⟩
set_option maxRecDepth 40000 in
theorem cs_4 : ceS 4 := mALL (in_t4 (i := 97) rfl) rfl
set_option maxRecDepth 40000 in
theorem cb_5 : ceB 5 0 := ⟨by decide +kernel, by decide +kernel, by decide +kernel, by decide +kernel, mALL (in_t1 (i := 148) rfl) rfl, mALL (in_t1 (i := 7) rfl) rfl⟩
set_option maxRecDepth 40000 in
theorem ci_5 : ceI 5 := ⟨mALL (in_t1 (i := 147) rfl) rfl, by decide +kernel, by decide +kernel⟩
set_option maxRecDepth 40000 in
theorem cb_6 : ceB 6 3 := ⟨by decide +kernel, by decide +kernel, by decide +kernel, by decide +kernel, mALL (in_t4 (i := 32) rfl) rfl, mALL (in_t1 (i := 7) rfl) rfl⟩
set_option maxRecDepth 40000 in
theorem cv_6 : ceV 6 := ⟨mALL (in_t4 (i := 31) rfl) rfl, mSEL (in_sel (i := 64) rfl) rfl⟩
set_option maxRecDepth 40000 in
theorem cb_7 : ceB 7 0 := ⟨by decide +kernel, by decide +kernel, by decide +kernel, by decide +kernel, mALL (in_t4 (i := 40) rfl) rfl, mALL (in_t1 (i := 7) rfl) rfl⟩
set_option maxRecDepth 40000 in
theorem cv_7 : ceV 7 := ⟨mALL (in_t4 (i := 39) rfl) rfl, mSEL (in_sel (i := 65) rfl) rfl⟩
set_option maxRecDepth 40000 in
theorem cb_8 : ceB 8 1 := ⟨by decide +kernel, by decide +kernel, by decide +kernel, by decide +kernel, mALL (in_t4 (i := 56) rfl) rfl, mALL (in_t1 (i := 7) rfl) rfl⟩
set_option maxRecDepth 40000 in
theorem cv_8 : ceV 8 := ⟨mALL (in_t4 (i := 55) rfl) rfl, mSEL (in_sel (i := 68) rfl) rfl⟩
set_option maxRecDepth 40000 in
theorem cb_9 : ceB 9 1 := ⟨by decide +kernel, by decide +kernel, by decide +kernel, by decide +kernel, mALL (in_t4 (i := 60) rfl) rfl, mALL (in_t1 (i := 7) rfl) rfl⟩
set_option maxRecDepth 40000 in
theorem cv_9 : ceV 9 := ⟨mALL (in_t4 (i := 59) rfl) rfl, mSEL (in_sel (i := 69) rfl) rfl⟩
set_option maxRecDepth 40000 in
theorem cb_10 : ceB 10 1 := ⟨by decide +kernel, by decide +kernel, by decide +kernel, by decide +kernel, mALL (in_t4 (i := 102) rfl) rfl, mALL (in_t1 (i := 7) rfl) rfl⟩
set_option maxRecDepth 40000 in
theorem cv_10 : ceV 10 := ⟨mALL (in_t4 (i := 101) rfl) rfl, mSEL (in_sel (i := 73) rfl) rfl⟩
set_option maxRecDepth 40000 in
theorem cb_11 : ceB 11 0 := ⟨by decide +kernel, by decide +kernel, by decide +kernel, by decide +kernel, mALL (in_t1 (i := 101) rfl) rfl, mALL (in_t1 (i := 5) rfl) rfl⟩
set_option maxRecDepth 40000 in
theorem ci_11 : ceI 11 := ⟨mALL (in_t1 (i := 100) rfl) rfl, by decide +kernel, by decide +kernel⟩
set_option maxRecDepth 40000 in
theorem cb_12 : ceB 12 0 := ⟨by decide +kernel, by decide +kernel, by decide +kernel, by decide +kernel, mALL (in_t2 (i := 127) rfl) rfl, mALL (in_t1 (i := 5) rfl) rfl⟩
set_option maxRecDepth 40000 in
theorem cv_12 : ceV 12 := ⟨mALL (in_t2 (i := 126) rfl) rfl, mSEL (in_sel (i := 16) rfl) rfl⟩
set_option maxRecDepth 40000 in
theorem cb_13 : ceB 13 1 := ⟨by decide +kernel, by decide +kernel, by decide +kernel, by decide +kernel, mALL (in_t3 (i := 13) rfl) rfl, mALL (in_t1 (i := 5) rfl) rfl⟩
set_option maxRecDepth 40000 in
theorem cv_13 : ceV 13 := ⟨mALL (in_t3 (i := 12) rfl) rfl, mSEL (in_sel (i := 37) rfl) rfl⟩
set_option maxRecDepth 40000 in
theorem cb_14 : ceB 14 1 := ⟨by decide +kernel, by decide +kernel, by decide +kernel, by decide +kernel, mALL (in_t3 (i := 9) rfl) rfl, mALL (in_t1 (i := 5) rfl) rfl⟩
set_option maxRecDepth 40000 in
theorem cv_14 : ceV 14 := ⟨mALL (in_t3 (i := 8) rfl) rfl, mSEL (in_sel (i := 36) rfl) rfl⟩
set_option maxRecDepth 40000 in
theorem cb_15 : ceB 15 1 := ⟨by decide +kernel, by decide +kernel, by decide +kernel, by decide +kernel, mALL (in_t3 (i := 88) rfl) rfl, mALL (in_t1 (i := 5) rfl) rfl⟩
set_option maxRecDepth 40000 in
theorem cv_15 : ceV 15 := ⟨mALL (in_t3 (i := 87) rfl) rfl, mSEL (in_sel (i := 48) rfl) rfl⟩
set_option maxRecDepth 40000 in
theorem cb_16 : ceB 16 0 := ⟨by decide +kernel, by decide +kernel, by decide +kernel, by decide +kernel, mALL (in_t1 (i := 46) rfl) rfl, mALL (in_t1 (i := 3) rfl) rfl⟩
set_option maxRecDepth 40000 in
theorem ci_16 : ceI 16 := ⟨mALL (in_t1 (i := 45) rfl) rfl, by decide +kernel, by decide +kernel⟩
set_option maxRecDepth 40000 in
theorem cb_17 : ceB 17 0 := ⟨by decide +kernel, by decide +kernel, by decide +kernel, by decide +kernel, mALL (in_t3 (i := 34) rfl) rfl, mALL (in_t1 (i := 3) rfl) rfl⟩
set_option maxRecDepth 40000 in
theorem cv_17 : ceV 17 := ⟨mALL (in_t3 (i := 33) rfl) rfl, mSEL (in_sel (i := 40) rfl) rfl⟩
set_option maxRecDepth 40000 in
theorem cb_18 : ceB 18 1 := ⟨by decide +kernel, by decide +kernel, by decide +kernel, by decide +kernel, mALL (in_t3 (i := 46) rfl) rfl, mALL (in_t1 (i := 3) rfl) rfl⟩
set_option maxRecDepth 40000 in
theorem cv_18 : ceV 18 := ⟨mALL (in_t3 (i := 45) rfl) rfl, mSEL (in_sel (i := 43) rfl) rfl⟩
set_option maxRecDepth 40000 in
theorem cb_19 : ceB 19 2 := ⟨by decide +kernel, by decide +kernel, by decide +kernel, by decide +kernel, mALL (in_t3 (i := 103) rfl) rfl, mALL (in_t1 (i := 3) rfl) rfl⟩
set_option maxRecDepth 40000 in
theorem cv_19 : ceV 19 := ⟨mALL (in_t3 (i := 102) rfl) rfl, mSEL (in_sel (i := 49) rfl) rfl⟩
set_option maxRecDepth 40000 in
theorem cb_20 : ceB 20 2 := ⟨by decide +kernel, by decide +kernel, by decide +kernel, by decide +kernel, mALL (in_t3 (i := 106) rfl) rfl, mALL (in_t1 (i := 3) rfl) rfl⟩
set_option maxRecDepth 40000 in
theorem cs_20 : ceS 20 := mALL (in_t3 (i := 105) rfl) rfl
set_option maxRecDepth 40000 in
theorem cb_21 : ceB 21 1 := ⟨by decide +kernel, by decide +kernel, by decide +kernel, by decide +kernel, mALL (in_t5 (i := 40) rfl) rfl, mALL (in_t1 (i := 3) rfl) rfl⟩
set_option maxRecDepth 40000 in
theorem cv_21 : ceV 21 := ⟨mALL (in_t5 (i := 39) rfl) rfl, mSEL (in_sel (i := 85) rfl) rfl⟩
set_option maxRecDepth 40000 in
theorem cb_22 : ceB 22 1 := ⟨by decide +kernel, by decide +kernel, by decide +kernel, by decide +kernel, mALL (in_t5 (i := 45) rfl) rfl, mALL (in_t1 (i := 3) rfl) rfl⟩
set_option maxRecDepth 40000 in
theorem cv_22 : ceV 22 := ⟨mALL (in_t5 (i := 44) rfl) rfl, mSEL (in_sel (i := 86) rfl) rfl⟩
set_option maxRecDepth 40000 in
theorem cb_23 : ceB 23 0 := ⟨by decide +kernel, by decide +kernel, by decide +kernel, by decide +kernel, mALL (in_t1 (i := 184) rfl) rfl, mALL (in_t1 (i := 9) rfl) rfl⟩
set_option maxRecDepth 40000 in
theorem ci_23 : ceI 23 := ⟨mALL (in_t1 (i := 183) rfl) rfl, by decide +kernel, by decide +kernel⟩
set_option maxRecDepth 40000 in
theorem cb_24 : ceB 24 2 := ⟨by decide +kernel, by decide +kernel, by decide +kernel, by decide +kernel, mALL (in_t1 (i := 219) rfl) rfl, mALL (in_t1 (i := 9) rfl) rfl⟩
set_option maxRecDepth 40000 in
theorem cv_24 : ceV 24 := ⟨mALL (in_t1 (i := 218) rfl) rfl, mSEL (in_sel (i := 0) rfl) rfl⟩
set_option maxRecDepth 40000 in
theorem cb_25 : ceB 25 1 := ⟨by decide +kernel, by decide +kernel, by decide +kernel, by decide +kernel, mALL (in_t1 (i := 226) rfl) rfl, mALL (in_t1 (i := 9) rfl) rfl⟩
set_option maxRecDepth 40000 in
theorem cv_25 : ceV 25 := ⟨mALL (in_t1 (i := 225) rfl) rfl, mSEL (in_sel (i := 1) rfl) rfl⟩
set_option maxRecDepth 40000 in
theorem cb_26 : ceB 26 1 := ⟨by decide +kernel, by decide +kernel, by decide +kernel, by decide +kernel, mALL (in_t2 (i := 4) rfl) rfl, mALL (in_t1 (i := 9) rfl) rfl⟩
set_option maxRecDepth 40000 in
theorem cv_26 : ceV 26 := ⟨mALL (in_t2 (i := 3) rfl) rfl, mSEL (in_sel (i := 4) rfl) rfl⟩
set_option maxRecDepth 40000 in
theorem cb_27 : ceB 27 1 := ⟨by decide +kernel, by decide +kernel, by decide +kernel, by decide +kernel, mALL (in_t2 (i := 8) rfl) rfl, mALL (in_t1 (i := 9) rfl) rfl⟩
set_option maxRecDepth 40000 in
theorem cv_27 : ceV 27 := ⟨mALL (in_t2 (i := 7) rfl) rfl, mSEL (in_sel (i := 5) rfl) rfl⟩
set_option maxRecDepth 40000 in
theorem cb_28 : ceB 28 0 := ⟨by decide +kernel, by decide +kernel, by decide +kernel, by decide +kernel, mALL (in_t2 (i := 12) rfl) rfl, mALL (in_t1 (i := 9) rfl) rfl⟩
set_option maxRecDepth 40000 in
theorem cv_28 : ceV 28 := ⟨mALL (in_t2 (i := 11) rfl) rfl, mSEL (in_sel (i := 6) rfl) rfl⟩
set_option maxRecDepth 40000 in
theorem cb_29 : ceB 29 1 := ⟨by decide +kernel, by decide +kernel, by decide +kernel, by decide +kernel, mALL (in_t1 (i := 236) rfl) rfl, mALL (in_t1 (i := 9) rfl) rfl⟩
set_option maxRecDepth 40000 in
theorem cs_29 : ceS 29 := mALL (in_t1 (i := 235) rfl) rfl
set_option maxRecDepth 40000 in
theorem cb_30 : ceB 30 1 := ⟨by decide +kernel, by decide +kernel, by decide +kernel, by decide +kernel, mALL (in_t2 (i := 19) rfl) rfl, mALL (in_t1 (i := 9) rfl) rfl⟩
set_option maxRecDepth 40000 in
theorem cs_30 : ceS 30 := mALL (in_t2 (i := 18) rfl) rfl
set_option maxRecDepth 40000 in
theorem cb_31 : ceB 31 1 := ⟨by decide +kernel, by decide +kernel, by decide +kernel, by decide +kernel, mALL (in_t1 (i := 233) rfl) rfl, mALL (in_t1 (i := 9) rfl) rfl⟩
set_option maxRecDepth 40000 in
theorem cv_31 : ceV 31 := ⟨mALL (in_t1 (i := 232) rfl) rfl, mSEL (in_sel (i := 2) rfl) rfl⟩
set_option maxRecDepth 40000 in
theorem cb_32 : ceB 32 1 := ⟨by decide +kernel, by decide +kernel, by decide +kernel, by decide +kernel, mALL (in_t2 (i := 0) rfl) rfl, mALL (in_t1 (i := 9) rfl) rfl⟩
set_option maxRecDepth 40000 in
theorem cv_32 : ceV 32 := ⟨mALL (in_t1 (i := 239) rfl) rfl, mSEL (in_sel (i := 3) rfl) rfl⟩
set_option maxRecDepth 40000 in
theorem cb_33 : ceB 33 1 := ⟨by decide +kernel, by decide +kernel, by decide +kernel, by decide +kernel, mALL (in_t2 (i := 16) rfl) rfl, mALL (in_t1 (i := 9) rfl) rfl⟩
set_option maxRecDepth 40000 in
theorem cv_33 : ceV 33 := ⟨mALL (in_t2 (i := 15) rfl) rfl, mSEL (in_sel (i := 7) rfl) rfl⟩
set_option maxRecDepth 40000 in
theorem cb_34 : ceB 34 3 := ⟨by decide +kernel, by decide +kernel, by decide +kernel, by decide +kernel, mALL (in_t2 (i := 147) rfl) rfl, mALL (in_t1 (i := 9) rfl) rfl⟩
set_option maxRecDepth 40000 in
theorem cv_34 : ceV 34 := ⟨mALL (in_t2 (i := 146) rfl) rfl, mSEL (in_sel (i := 19) rfl) rfl⟩
set_option maxRecDepth 40000 in
theorem cb_35 : ceB 35 2 := ⟨by decide +kernel, by decide +kernel, by decide +kernel, by decide +kernel, mALL (in_t2 (i := 151) rfl) rfl, mALL (in_t1 (i := 9) rfl) rfl⟩
set_option maxRecDepth 40000 in
theorem cv_35 : ceV 35 := ⟨mALL (in_t2 (i := 150) rfl) rfl, mSEL (in_sel (i := 20) rfl) rfl⟩
set_option maxRecDepth 40000 in
theorem cb_36 : ceB 36 2 := ⟨by decide +kernel, by decide +kernel, by decide +kernel, by decide +kernel, mALL (in_t2 (i := 178) rfl) rfl, mALL (in_t1 (i := 9) rfl) rfl⟩
set_option maxRecDepth 40000 in
theorem cv_36 : ceV 36 := ⟨mALL (in_t2 (i := 177) rfl) rfl, mSEL (in_sel (i := 26) rfl) rfl⟩
set_option maxRecDepth 40000 in
theorem cb_37 : ceB 37 3 := ⟨by decide +kernel, by decide +kernel, by decide +kernel, by decide +kernel, mALL (in_t2 (i := 181) rfl) rfl, mALL (in_t1 (i := 9) rfl) rfl⟩
set_option maxRecDepth 40000 in
theorem cs_37 : ceS 37 := mALL (in_t2 (i := 180) rfl) rfl
set_option maxRecDepth 40000 in
theorem cb_38 : ceB 38 4 := ⟨by decide +kernel, by decide +kernel, by decide +kernel, by decide +kernel, mALL (in_t2 (i := 154) rfl) rfl, mALL (in_t1 (i := 9) rfl) rfl⟩
set_option maxRecDepth 40000 in
theorem cs_38 : ceS 38 := mALL (in_t2 (i := 153) rfl) rfl
set_option maxRecDepth 40000 in
theorem cb_39 : ceB 39 0 := ⟨by decide +kernel, by decide +kernel, by decide +kernel, by decide +kernel, mALL (in_t1 (i := 61) rfl) rfl, mALL (in_t1 (i := 4) rfl) rfl⟩
set_option maxRecDepth 40000 in
theorem ci_39 : ceI 39 := ⟨mALL (in_t1 (i := 60) rfl) rfl, by decide +kernel, by decide +kernel⟩
set_option maxRecDepth 40000 in
theorem cb_40 : ceB 40 1 := ⟨by decide +kernel, by decide +kernel, by decide +kernel, by decide +kernel, mALL (in_t2 (i := 218) rfl) rfl, mALL (in_t1 (i := 4) rfl) rfl⟩
set_option maxRecDepth 40000 in
theorem cv_40 : ceV 40 := ⟨mALL (in_t2 (i := 217) rfl) rfl, mSEL (in_sel (i := 30) rfl) rfl⟩
set_option maxRecDepth 40000 in
theorem cb_41 : ceB 41 1 := ⟨by decide +kernel, by decide +kernel, by decide +kernel, by decide +kernel, mALL (in_t2 (i := 123) rfl) rfl, mALL (in_t1 (i := 4) rfl) rfl⟩
set_option maxRecDepth 40000 in
theorem cv_41 : ceV 41 := ⟨mALL (in_t2 (i := 122) rfl) rfl, mSEL (in_sel (i := 15) rfl) rfl⟩
set_option maxRecDepth 40000 in
theorem cb_42 : ceB 42 2 := ⟨by decide +kernel, by decide +kernel, by decide +kernel, by decide +kernel, mALL (in_t2 (i := 143) rfl) rfl, mALL (in_t1 (i := 4) rfl) rfl⟩
set_option maxRecDepth 40000 in
theorem cv_42 : ceV 42 := ⟨mALL (in_t2 (i := 142) rfl) rfl, mSEL (in_sel (i := 18) rfl) rfl⟩
set_option maxRecDepth 40000 in
theorem cb_43 : ceB 43 1 := ⟨by decide +kernel, by decide +kernel, by decide +kernel, by decide +kernel, mALL (in_t5 (i := 29) rfl) rfl, mALL (in_t1 (i := 4) rfl) rfl⟩
set_option maxRecDepth 40000 in
theorem cv_43 : ceV 43 := ⟨mALL (in_t5 (i := 28) rfl) rfl, mSEL (in_sel (i := 84) rfl) rfl⟩
set_option maxRecDepth 40000 in
theorem cb_44 : ceB 44 1 := ⟨by decide +kernel, by decide +kernel, by decide +kernel, by decide +kernel, mALL (in_t2 (i := 158) rfl) rfl, mALL (in_t1 (i := 4) rfl) rfl⟩
set_option maxRecDepth 40000 in
theorem cv_44 : ceV 44 := ⟨mALL (in_t2 (i := 157) rfl) rfl, mSEL (in_sel (i := 21) rfl) rfl⟩
set_option maxRecDepth 40000 in
theorem cb_45 : ceB 45 1 := ⟨by decide +kernel, by decide +kernel, by decide +kernel, by decide +kernel, mALL (in_t2 (i := 162) rfl) rfl, mALL (in_t1 (i := 4) rfl) rfl⟩
set_option maxRecDepth 40000 in
theorem cv_45 : ceV 45 := ⟨mALL (in_t2 (i := 161) rfl) rfl, mSEL (in_sel (i := 22) rfl) rfl⟩
set_option maxRecDepth 40000 in
theorem cb_46 : ceB 46 1 := ⟨by decide +kernel, by decide +kernel, by decide +kernel, by decide +kernel, mALL (in_t2 (i := 170) rfl) rfl, mALL (in_t1 (i := 4) rfl) rfl⟩
set_option maxRecDepth 40000 in
theorem cv_46 : ceV 46 := ⟨mALL (in_t2 (i := 169) rfl) rfl, mSEL (in_sel (i := 24) rfl) rfl⟩
set_option maxRecDepth 40000 in
theorem cb_47 : ceB 47 1 := ⟨by decide +kernel, by decide +kernel, by decide +kernel, by decide +kernel, mALL (in_t2 (i := 174) rfl) rfl, mALL (in_t1 (i := 4) rfl) rfl⟩
set_option maxRecDepth 40000 in
theorem cv_47 : ceV 47 := ⟨mALL (in_t2 (i := 173) rfl) rfl, mSEL (in_sel (i := 25) rfl) rfl⟩
set_option maxRecDepth 40000 in
theorem cb_48 : ceB 48 2 := ⟨by decide +kernel, by decide +kernel, by decide +kernel, by decide +kernel, mALL (in_t2 (i := 166) rfl) rfl, mALL (in_t1 (i := 4) rfl) rfl⟩
set_option maxRecDepth 40000 in
theorem cv_48 : ceV 48 := ⟨mALL (in_t2 (i := 165) rfl) rfl, mSEL (in_sel (i := 23) rfl) rfl⟩
set_option maxRecDepth 40000 in
theorem cb_49 : ceB 49 1 := ⟨by decide +kernel, by decide +kernel, by decide +kernel, by decide +kernel, mALL (in_t3 (i := 121) rfl) rfl, mALL (in_t1 (i := 4) rfl) rfl⟩
set_option maxRecDepth 40000 in
theorem cv_49 : ceV 49 := ⟨mALL (in_t3 (i := 120) rfl) rfl, mSEL (in_sel (i := 50) rfl) rfl⟩
set_option maxRecDepth 40000 in
theorem cb_50 : ceB 50 0 := ⟨by decide +kernel, by decide +kernel, by decide +kernel, by decide +kernel, mALL (in_t2 (i := 205) rfl) rfl, mALL (in_t1 (i := 4) rfl) rfl⟩
set_option maxRecDepth 40000 in
theorem cv_50 : ceV 50 := ⟨mALL (in_t2 (i := 204) rfl) rfl, mSEL (in_sel (i := 28) rfl) rfl⟩
set_option maxRecDepth 40000 in
theorem cb_51 : ceB 51 1 := ⟨by decide +kernel, by decide +kernel, by decide +kernel, by decide +kernel, mALL (in_t2 (i := 209) rfl) rfl, mALL (in_t1 (i := 4) rfl) rfl⟩
set_option maxRecDepth 40000 in
theorem cv_51 : ceV 51 := ⟨mALL (in_t2 (i := 208) rfl) rfl, mSEL (in_sel (i := 29) rfl) rfl⟩
set_option maxRecDepth 40000 in
theorem cb_52 : ceB 52 1 := ⟨by decide +kernel, by decide +kernel, by decide +kernel, by decide +kernel, mALL (in_t3 (i := 38) rfl) rfl, mALL (in_t1 (i := 4) rfl) rfl⟩
set_option maxRecDepth 40000 in
theorem cv_52 : ceV 52 := ⟨mALL (in_t3 (i := 37) rfl) rfl, mSEL (in_sel (i := 41) rfl) rfl⟩
set_option maxRecDepth 40000 in
theorem cb_53 : ceB 53 2 := ⟨by decide +kernel, by decide +kernel, by decide +kernel, by decide +kernel, mALL (in_t3 (i := 42) rfl) rfl, mALL (in_t1 (i := 4) rfl) rfl⟩
set_option maxRecDepth 40000 in
theorem cv_53 : ceV 53 := ⟨mALL (in_t3 (i := 41) rfl) rfl, mSEL (in_sel (i := 42) rfl) rfl⟩
set_option maxRecDepth 40000 in
theorem cb_54 : ceB 54 0 := ⟨by decide +kernel, by decide +kernel, by decide +kernel, by decide +kernel, mALL (in_t4 (i := 161) rfl) rfl, mALL (in_t1 (i := 4) rfl) rfl⟩
set_option maxRecDepth 40000 in
theorem cv_54 : ceV 54 := ⟨mALL (in_t4 (i := 160) rfl) rfl, mSEL (in_sel (i := 78) rfl) rfl⟩
set_option maxRecDepth 40000 in
theorem cb_55 : ceB 55 0 := ⟨by decide +kernel, by decide +kernel, by decide +kernel, by decide +kernel, mALL (in_t4 (i := 182) rfl) rfl, mALL (in_t1 (i := 4) rfl) rfl⟩
set_option maxRecDepth 40000 in
theorem cv_55 : ceV 55 := ⟨mALL (in_t4 (i := 181) rfl) rfl, mSEL (in_sel (i := 80) rfl) rfl⟩
set_option maxRecDepth 40000 in
theorem cb_56 : ceB 56 2 := ⟨by decide +kernel, by decide +kernel, by decide +kernel, by decide +kernel, mALL (in_t3 (i := 129) rfl) rfl, mALL (in_t1 (i := 4) rfl) rfl⟩
set_option maxRecDepth 40000 in
theorem cv_56 : ceV 56 := ⟨mALL (in_t3 (i := 128) rfl) rfl, mSEL (in_sel (i := 51) rfl) rfl⟩
set_option maxRecDepth 40000 in
theorem cb_57 : ceB 57 2 := ⟨by decide +kernel, by decide +kernel, by decide +kernel, by decide +kernel, mALL (in_t2 (i := 112) rfl) rfl, mALL (in_t1 (i := 4) rfl) rfl⟩
set_option maxRecDepth 40000 in
theorem cv_57 : ceV 57 := ⟨mALL (in_t2 (i := 111) rfl) rfl, mSEL (in_sel (i := 13) rfl) rfl⟩
set_option maxRecDepth 40000 in
theorem cb_58 : ceB 58 2 := ⟨by decide +kernel, by decide +kernel, by decide +kernel, by decide +kernel, mALL (in_t2 (i := 119) rfl) rfl, mALL (in_t1 (i := 4) rfl) rfl⟩
set_option maxRecDepth 40000 in
theorem cv_58 : ceV 58 := ⟨mALL (in_t2 (i := 118) rfl) rfl, mSEL (in_sel (i := 14) rfl) rfl⟩
set_option maxRecDepth 40000 in
theorem cb_59 : ceB 59 2 := ⟨by decide +kernel, by decide +kernel, by decide +kernel, by decide +kernel, mALL (in_t2 (i := 199) rfl) rfl, mALL (in_t1 (i := 4) rfl) rfl⟩
set_option maxRecDepth 40000 in
theorem cv_59 : ceV 59 := ⟨mALL (in_t2 (i := 198) rfl) rfl, mSEL (in_sel (i := 27) rfl) rfl⟩
set_option maxRecDepth 40000 in
theorem cb_60 : ceB 60 4 := ⟨by decide +kernel, by decide +kernel, by decide +kernel, by decide +kernel, mALL (in_t3 (i := 1) rfl) rfl, mALL (in_t1 (i := 4) rfl) rfl⟩
set_option maxRecDepth 40000 in
theorem cv_60 : ceV 60 := ⟨mALL (in_t3 (i := 0) rfl) rfl, mSEL (in_sel (i := 34) rfl) rfl⟩
set_option maxRecDepth 40000 in
theorem cb_61 : ceB 61 1 := ⟨by decide +kernel, by decide +kernel, by decide +kernel, by decide +kernel, mALL (in_t3 (i := 5) rfl) rfl, mALL (in_t1 (i := 4) rfl) rfl⟩
set_option maxRecDepth 40000 in
theorem cv_61 : ceV 61 := ⟨mALL (in_t3 (i := 4) rfl) rfl, mSEL (in_sel (i := 35) rfl) rfl⟩
set_option maxRecDepth 40000 in
theorem cb_62 : ceB 62 3 := ⟨by decide +kernel, by decide +kernel, by decide +kernel, by decide +kernel, mALL (in_t2 (i := 229) rfl) rfl, mALL (in_t1 (i := 4) rfl) rfl⟩
set_option maxRecDepth 40000 in
theorem cv_62 : ceV 62 := ⟨mALL (in_t2 (i := 228) rfl) rfl, mSEL (in_sel (i := 32) rfl) rfl⟩
set_option maxRecDepth 40000 in
theorem cb_63 : ceB 63 4 := ⟨by decide +kernel, by decide +kernel, by decide +kernel, by decide +kernel, mALL (in_t2 (i := 225) rfl) rfl, mALL (in_t1 (i := 4) rfl) rfl⟩
set_option maxRecDepth 40000 in
theorem cv_63 : ceV 63 := ⟨mALL (in_t2 (i := 224) rfl) rfl, mSEL (in_sel (i := 31) rfl) rfl⟩
set_option maxRecDepth 40000 in
theorem cb_64 : ceB 64 3 := ⟨by decide +kernel, by decide +kernel, by decide +kernel, by decide +kernel, mALL (in_t2 (i := 236) rfl) rfl, mALL (in_t1 (i := 4) rfl) rfl⟩
set_option maxRecDepth 40000 in
theorem cv_64 : ceV 64 := ⟨mALL (in_t2 (i := 235) rfl) rfl, mSEL (in_sel (i := 33) rfl) rfl⟩
set_option maxRecDepth 40000 in
theorem cb_65 : ceB 65 1 := ⟨by decide +kernel, by decide +kernel, by decide +kernel, by decide +kernel, mALL (in_t3 (i := 25) rfl) rfl, mALL (in_t1 (i := 4) rfl) rfl⟩
set_option maxRecDepth 40000 in
theorem cv_65 : ceV 65 := ⟨mALL (in_t3 (i := 24) rfl) rfl, mSEL (in_sel (i := 38) rfl) rfl⟩
set_option maxRecDepth 40000 in
theorem cb_66 : ceB 66 1 := ⟨by decide +kernel, by decide +kernel, by decide +kernel, by decide +kernel, mALL (in_t3 (i := 30) rfl) rfl, mALL (in_t1 (i := 4) rfl) rfl⟩
set_option maxRecDepth 40000 in
theorem cv_66 : ceV 66 := ⟨mALL (in_t3 (i := 29) rfl) rfl, mSEL (in_sel (i := 39) rfl) rfl⟩
set_option maxRecDepth 40000 in
theorem cb_67 : ceB 67 3 := ⟨by decide +kernel, by decide +kernel, by decide +kernel, by decide +kernel, mALL (in_t3 (i := 54) rfl) rfl, mALL (in_t1 (i := 4) rfl) rfl⟩
set_option maxRecDepth 40000 in
theorem cv_67 : ceV 67 := ⟨mALL (in_t3 (i := 53) rfl) rfl, mSEL (in_sel (i := 44) rfl) rfl⟩
set_option maxRecDepth 40000 in
theorem cb_68 : ceB 68 2 := ⟨by decide +kernel, by decide +kernel, by decide +kernel, by decide +kernel, mALL (in_t3 (i := 62) rfl) rfl, mALL (in_t1 (i := 4) rfl) rfl⟩
set_option maxRecDepth 40000 in
theorem cv_68 : ceV 68 := ⟨mALL (in_t3 (i := 61) rfl) rfl, mSEL (in_sel (i := 45) rfl) rfl⟩
set_option maxRecDepth 40000 in
theorem cb_69 : ceB 69 0 := ⟨by decide +kernel, by decide +kernel, by decide +kernel, by decide +kernel, mALL (in_t1 (i := 121) rfl) rfl, mALL (in_t1 (i := 6) rfl) rfl⟩
set_option maxRecDepth 40000 in
theorem ci_69 : ceI 69 := ⟨mALL (in_t1 (i := 120) rfl) rfl, by decide +kernel, by decide +kernel⟩
set_option maxRecDepth 40000 in
theorem cb_70 : ceB 70 4 := ⟨by decide +kernel, by decide +kernel, by decide +kernel, by decide +kernel, mALL (in_t3 (i := 173) rfl) rfl, mALL (in_t1 (i := 6) rfl) rfl⟩
set_option maxRecDepth 40000 in
theorem cv_70 : ceV 70 := ⟨mALL (in_t3 (i := 172) rfl) rfl, mSEL (in_sel (i := 53) rfl) rfl⟩
set_option maxRecDepth 40000 in
theorem cb_71 : ceB 71 1 := ⟨by decide +kernel, by decide +kernel, by decide +kernel, by decide +kernel, mALL (in_t3 (i := 219) rfl) rfl, mALL (in_t1 (i := 6) rfl) rfl⟩
set_option maxRecDepth 40000 in
theorem cv_71 : ceV 71 := ⟨mALL (in_t3 (i := 218) rfl) rfl, mSEL (in_sel (i := 62) rfl) rfl⟩
set_option maxRecDepth 40000 in
theorem cb_72 : ceB 72 1 := ⟨by decide +kernel, by decide +kernel, by decide +kernel, by decide +kernel, mALL (in_t3 (i := 181) rfl) rfl, mALL (in_t1 (i := 6) rfl) rfl⟩
set_option maxRecDepth 40000 in
theorem cv_72 : ceV 72 := ⟨mALL (in_t3 (i := 180) rfl) rfl, mSEL (in_sel (i := 55) rfl) rfl⟩
set_option maxRecDepth 40000 in
theorem cb_73 : ceB 73 1 := ⟨by decide +kernel, by decide +kernel, by decide +kernel, by decide +kernel, mALL (in_t3 (i := 177) rfl) rfl, mALL (in_t1 (i := 6) rfl) rfl⟩
set_option maxRecDepth 40000 in
theorem cv_73 : ceV 73 := ⟨mALL (in_t3 (i := 176) rfl) rfl, mSEL (in_sel (i := 54) rfl) rfl⟩
set_option maxRecDepth 40000 in
theorem cb_74 : ceB 74 2 := ⟨by decide +kernel, by decide +kernel, by decide +kernel, by decide +kernel, mALL (in_t3 (i := 186) rfl) rfl, mALL (in_t1 (i := 6) rfl) rfl⟩
set_option maxRecDepth 40000 in
theorem cv_74 : ceV 74 := ⟨mALL (in_t3 (i := 185) rfl) rfl, mSEL (in_sel (i := 56) rfl) rfl⟩
set_option maxRecDepth 40000 in
theorem cb_75 : ceB 75 1 := ⟨by decide +kernel, by decide +kernel, by decide +kernel, by decide +kernel, mALL (in_t3 (i := 190) rfl) rfl, mALL (in_t1 (i := 6) rfl) rfl⟩
set_option maxRecDepth 40000 in
theorem cv_75 : ceV 75 := ⟨mALL (in_t3 (i := 189) rfl) rfl, mSEL (in_sel (i := 57) rfl) rfl⟩
set_option maxRecDepth 40000 in
theorem cb_76 : ceB 76 2 := ⟨by decide +kernel, by decide +kernel, by decide +kernel, by decide +kernel, mALL (in_t3 (i := 199) rfl) rfl, mALL (in_t1 (i := 6) rfl) rfl⟩
set_option maxRecDepth 40000 in
theorem cv_76 : ceV 76 := ⟨mALL (in_t3 (i := 198) rfl) rfl, mSEL (in_sel (i := 58) rfl) rfl⟩
set_option maxRecDepth 40000 in
theorem cb_77 : ceB 77 3 := ⟨by decide +kernel, by decide +kernel, by decide +kernel, by decide +kernel, mALL (in_t3 (i := 204) rfl) rfl, mALL (in_t1 (i := 6) rfl) rfl⟩
set_option maxRecDepth 40000 in
theorem cv_77 : ceV 77 := ⟨mALL (in_t3 (i := 203) rfl) rfl, mSEL (in_sel (i := 59) rfl) rfl⟩
set_option maxRecDepth 40000 in
theorem cb_78 : ceB 78 3 := ⟨by decide +kernel, by decide +kernel, by decide +kernel, by decide +kernel, mALL (in_t3 (i := 209) rfl) rfl, mALL (in_t1 (i := 6) rfl) rfl⟩
set_option maxRecDepth 40000 in
theorem cv_78 : ceV 78 := ⟨mALL (in_t3 (i := 208) rfl) rfl, mSEL (in_sel (i := 60) rfl) rfl⟩
set_option maxRecDepth 40000 in
theorem cb_79 : ceB 79 1 := ⟨by decide +kernel, by decide +kernel, by decide +kernel, by decide +kernel, mALL (in_t3 (i := 193) rfl) rfl, mALL (in_t1 (i := 6) rfl) rfl⟩
set_option maxRecDepth 40000 in
theorem cs_79 : ceS 79 := mALL (in_t3 (i := 192) rfl) rfl
set_option maxRecDepth 40000 in
theorem cb_80 : ceB 80 0 := ⟨by decide +kernel, by decide +kernel, by decide +kernel, by decide +kernel, mALL (in_t1 (i := 30) rfl) rfl, mALL (in_t1 (i := 2) rfl) rfl⟩
set_option maxRecDepth 40000 in
theorem ci_80 : ceI 80 := ⟨mALL (in_t1 (i := 29) rfl) rfl, by decide +kernel, by decide +kernel⟩
set_option maxRecDepth 40000 in
theorem cb_81 : ceB 81 1 := ⟨by decide +kernel, by decide +kernel, by decide +kernel, by decide +kernel, mALL (in_t2 (i := 79) rfl) rfl, mALL (in_t1 (i := 2) rfl) rfl⟩
set_option maxRecDepth 40000 in
theorem cv_81 : ceV 81 := ⟨mALL (in_t2 (i := 78) rfl) rfl, mSEL (in_sel (i := 8) rfl) rfl⟩
set_option maxRecDepth 40000 in
theorem cb_82 : ceB 82 1 := ⟨by decide +kernel, by decide +kernel, by decide +kernel, by decide +kernel, mALL (in_t2 (i := 104) rfl) rfl, mALL (in_t1 (i := 2) rfl) rfl⟩
set_option maxRecDepth 40000 in
theorem cv_82 : ceV 82 := ⟨mALL (in_t2 (i := 103) rfl) rfl, mSEL (in_sel (i := 12) rfl) rfl⟩
set_option maxRecDepth 40000 in
theorem cb_83 : ceB 83 0 := ⟨by decide +kernel, by decide +kernel, by decide +kernel, by decide +kernel, mALL (in_t2 (i := 91) rfl) rfl, mALL (in_t1 (i := 2) rfl) rfl⟩
set_option maxRecDepth 40000 in
theorem cv_83 : ceV 83 := ⟨mALL (in_t2 (i := 90) rfl) rfl, mSEL (in_sel (i := 9) rfl) rfl⟩
set_option maxRecDepth 40000 in
theorem cb_84 : ceB 84 0 := ⟨by decide +kernel, by decide +kernel, by decide +kernel, by decide +kernel, mALL (in_t1 (i := 22) rfl) rfl, mALL (in_t1 (i := 1) rfl) rfl⟩
set_option maxRecDepth 40000 in
theorem ci_84 : ceI 84 := ⟨mALL (in_t1 (i := 21) rfl) rfl, by decide +kernel, by decide +kernel⟩
set_option maxRecDepth 40000 in
theorem cb_85 : ceB 85 1 := ⟨by decide +kernel, by decide +kernel, by decide +kernel, by decide +kernel, mALL (in_t2 (i := 75) rfl) rfl, mALL (in_t1 (i := 1) rfl) rfl⟩
set_option maxRecDepth 40000 in
theorem cv_85 : ceV 85 := ⟨mALL (in_t2 (i := 73) rfl) rfl, mALL (in_t2 (i := 74) rfl) rfl⟩
set_option maxRecDepth 40000 in
theorem cb_86 : ceB 86 1 := ⟨by decide +kernel, by decide +kernel, by decide +kernel, by decide +kernel, mALL (in_t2 (i := 83) rfl) rfl, mALL (in_t1 (i := 1) rfl) rfl⟩
set_option maxRecDepth 40000 in
theorem cv_86 : ceV 86 := ⟨mALL (in_t2 (i := 81) rfl) rfl, mALL (in_t2 (i := 82) rfl) rfl⟩
set_option maxRecDepth 40000 in
theorem cb_87 : ceB 87 0 := ⟨by decide +kernel, by decide +kernel, by decide +kernel, by decide +kernel, mALL (in_t2 (i := 87) rfl) rfl, mALL (in_t1 (i := 1) rfl) rfl⟩
set_option maxRecDepth 40000 in
theorem cv_87 : ceV 87 := ⟨mALL (in_t2 (i := 85) rfl) rfl, mALL (in_t2 (i := 86) rfl) rfl⟩
set_option maxRecDepth 40000 in
theorem cb_88 : ceB 88 0 := ⟨by decide +kernel, by decide +kernel, by decide +kernel, by decide +kernel, mALL (in_t2 (i := 131) rfl) rfl, mALL (in_t1 (i := 1) rfl) rfl⟩
set_option maxRecDepth 40000 in
theorem cv_88 : ceV 88 := ⟨mALL (in_t2 (i := 129) rfl) rfl, mALL (in_t2 (i := 130) rfl) rfl⟩
set_option maxRecDepth 40000 in
theorem cb_89 : ceB 89 2 := ⟨by decide +kernel, by decide +kernel, by decide +kernel, by decide +kernel, mALL (in_t4 (i := 199) rfl) rfl, mALL (in_t1 (i := 1) rfl) rfl⟩
set_option maxRecDepth 40000 in
theorem cv_89 : ceV 89 := ⟨mALL (in_t4 (i := 197) rfl) rfl, mALL (in_t4 (i := 198) rfl) rfl⟩
set_option maxRecDepth 40000 in
theorem cb_90 : ceB 90 2 := ⟨by decide +kernel, by decide +kernel, by decide +kernel, by decide +kernel, mALL (in_t2 (i := 139) rfl) rfl, mALL (in_t1 (i := 1) rfl) rfl⟩
set_option maxRecDepth 40000 in
theorem cv_90 : ceV 90 := ⟨mALL (in_t2 (i := 137) rfl) rfl, mALL (in_t2 (i := 138) rfl) rfl⟩
set_option maxRecDepth 40000 in
theorem cb_91 : ceB 91 1 := ⟨by decide +kernel, by decide +kernel, by decide +kernel, by decide +kernel, mALL (in_t2 (i := 188) rfl) rfl, mALL (in_t1 (i := 1) rfl) rfl⟩
set_option maxRecDepth 40000 in
theorem cv_91 : ceV 91 := ⟨mALL (in_t2 (i := 186) rfl) rfl, mALL (in_t2 (i := 187) rfl) rfl⟩
set_option maxRecDepth 40000 in
theorem cb_92 : ceB 92 4 := ⟨by decide +kernel, by decide +kernel, by decide +kernel, by decide +kernel, mALL (in_t2 (i := 192) rfl) rfl, mALL (in_t1 (i := 1) rfl) rfl⟩
set_option maxRecDepth 40000 in
theorem cv_92 : ceV 92 := ⟨mALL (in_t2 (i := 190) rfl) rfl, mALL (in_t2 (i := 191) rfl) rfl⟩
set_option maxRecDepth 40000 in
theorem cb_93 : ceB 93 2 := ⟨by decide +kernel, by decide +kernel, by decide +kernel, by decide +kernel, mALL (in_t2 (i := 214) rfl) rfl, mALL (in_t1 (i := 1) rfl) rfl⟩
set_option maxRecDepth 40000 in
theorem cv_93 : ceV 93 := ⟨mALL (in_t2 (i := 212) rfl) rfl, mALL (in_t2 (i := 213) rfl) rfl⟩
set_option maxRecDepth 40000 in
theorem cb_94 : ceB 94 1 := ⟨by decide +kernel, by decide +kernel, by decide +kernel, by decide +kernel, mALL (in_t3 (i := 21) rfl) rfl, mALL (in_t1 (i := 1) rfl) rfl⟩
set_option maxRecDepth 40000 in
theorem cv_94 : ceV 94 := ⟨mALL (in_t3 (i := 19) rfl) rfl, mALL (in_t3 (i := 20) rfl) rfl⟩
set_option maxRecDepth 40000 in
theorem cb_95 : ceB 95 3 := ⟨by decide +kernel, by decide +kernel, by decide +kernel, by decide +kernel, mALL (in_t3 (i := 50) rfl) rfl, mALL (in_t1 (i := 1) rfl) rfl⟩
set_option maxRecDepth 40000 in
theorem cv_95 : ceV 95 := ⟨mALL (in_t3 (i := 48) rfl) rfl, mALL (in_t3 (i := 49) rfl) rfl⟩
set_option maxRecDepth 40000 in
theorem cb_96 : ceB 96 2 := ⟨by decide +kernel, by decide +kernel, by decide +kernel, by decide +kernel, mALL (in_t3 (i := 58) rfl) rfl, mALL (in_t1 (i := 1) rfl) rfl⟩
set_option maxRecDepth 40000 in
theorem cv_96 : ceV 96 := ⟨mALL (in_t3 (i := 56) rfl) rfl, mALL (in_t3 (i := 57) rfl) rfl⟩
set_option maxRecDepth 40000 in
theorem cb_97 : ceB 97 0 := ⟨by decide +kernel, by decide +kernel, by decide +kernel, by decide +kernel, mALL (in_t3 (i := 66) rfl) rfl, mALL (in_t1 (i := 1) rfl) rfl⟩
set_option maxRecDepth 40000 in
theorem cv_97 : ceV 97 := ⟨mALL (in_t3 (i := 64) rfl) rfl, mALL (in_t3 (i := 65) rfl) rfl⟩
set_option maxRecDepth 40000 in
theorem cb_98 : ceB 98 0 := ⟨by decide +kernel, by decide +kernel, by decide +kernel, by decide +kernel, mALL (in_t3 (i := 84) rfl) rfl, mALL (in_t1 (i := 1) rfl) rfl⟩
set_option maxRecDepth 40000 in
theorem cv_98 : ceV 98 := ⟨mALL (in_t3 (i := 82) rfl) rfl, mALL (in_t3 (i := 83) rfl) rfl⟩
set_option maxRecDepth 40000 in
theorem cb_99 : ceB 99 1 := ⟨by decide +kernel, by decide +kernel, by decide +kernel, by decide +kernel, mALL (in_t3 (i := 92) rfl) rfl, mALL (in_t1 (i := 1) rfl) rfl⟩
set_option maxRecDepth 40000 in
theorem cv_99 : ceV 99 := ⟨mALL (in_t3 (i := 90) rfl) rfl, mALL (in_t3 (i := 91) rfl) rfl⟩
set_option maxRecDepth 40000 in
theorem cb_100 : ceB 100 1 := ⟨by decide +kernel, by decide +kernel, by decide +kernel, by decide +kernel, mALL (in_t3 (i := 99) rfl) rfl, mALL (in_t1 (i := 1) rfl) rfl⟩
set_option maxRecDepth 40000 in
theorem cv_100 : ceV 100 := ⟨mALL (in_t3 (i := 97) rfl) rfl, mALL (in_t3 (i := 98) rfl) rfl⟩
set_option maxRecDepth 40000 in
theorem cb_101 : ceB 101 2 := ⟨by decide +kernel, by decide +kernel, by decide +kernel, by decide +kernel, mALL (in_t3 (i := 111) rfl) rfl, mALL (in_t1 (i := 1) rfl) rfl⟩
set_option maxRecDepth 40000 in
theorem cv_101 : ceV 101 := ⟨mALL (in_t3 (i := 109) rfl) rfl, mALL (in_t3 (i := 110) rfl) rfl⟩
set_option maxRecDepth 40000 in
theorem cb_102 : ceB 102 1 := ⟨by decide +kernel, by decide +kernel, by decide +kernel, by decide +kernel, mALL (in_t3 (i := 117) rfl) rfl, mALL (in_t1 (i := 1) rfl) rfl⟩
set_option maxRecDepth 40000 in
theorem cv_102 : ceV 102 := ⟨mALL (in_t3 (i := 115) rfl) rfl, mALL (in_t3 (i := 116) rfl) rfl⟩
set_option maxRecDepth 40000 in
theorem cb_103 : ceB 103 0 := ⟨by decide +kernel, by decide +kernel, by decide +kernel, by decide +kernel, mALL (in_t3 (i := 125) rfl) rfl, mALL (in_t1 (i := 1) rfl) rfl⟩
set_option maxRecDepth 40000 in
theorem cv_103 : ceV 103 := ⟨mALL (in_t3 (i := 123) rfl) rfl, mALL (in_t3 (i := 124) rfl) rfl⟩
set_option maxRecDepth 40000 in
theorem cb_104 : ceB 104 0 := ⟨by decide +kernel, by decide +kernel, by decide +kernel, by decide +kernel, mALL (in_t3 (i := 136) rfl) rfl, mALL (in_t1 (i := 1) rfl) rfl⟩
set_option maxRecDepth 40000 in
theorem cv_104 : ceV 104 := ⟨mALL (in_t3 (i := 134) rfl) rfl, mALL (in_t3 (i := 135) rfl) rfl⟩
set_option maxRecDepth 40000 in
theorem cb_105 : ceB 105 1 := ⟨by decide +kernel, by decide +kernel, by decide +kernel, by decide +kernel, mALL (in_t3 (i := 140) rfl) rfl, mALL (in_t1 (i := 1) rfl) rfl⟩
set_option maxRecDepth 40000 in
theorem cv_105 : ceV 105 := ⟨mALL (in_t3 (i := 138) rfl) rfl, mALL (in_t3 (i := 139) rfl) rfl⟩
set_option maxRecDepth 40000 in
theorem cb_106 : ceB 106 1 := ⟨by decide +kernel, by decide +kernel, by decide +kernel, by decide +kernel, mALL (in_t3 (i := 144) rfl) rfl, mALL (in_t1 (i := 1) rfl) rfl⟩
set_option maxRecDepth 40000 in
theorem cv_106 : ceV 106 := ⟨mALL (in_t3 (i := 142) rfl) rfl, mALL (in_t3 (i := 143) rfl) rfl⟩
set_option maxRecDepth 40000 in
theorem cb_107 : ceB 107 3 := ⟨by decide +kernel, by decide +kernel, by decide +kernel, by decide +kernel, mALL (in_t3 (i := 149) rfl) rfl, mALL (in_t1 (i := 1) rfl) rfl⟩
set_option maxRecDepth 40000 in
theorem cv_107 : ceV 107 := ⟨mALL (in_t3 (i := 147) rfl) rfl, mALL (in_t3 (i := 148) rfl) rfl⟩
set_option maxRecDepth 40000 in
theorem cb_108 : ceB 108 1 := ⟨by decide +kernel, by decide +kernel, by decide +kernel, by decide +kernel, mALL (in_t3 (i := 153) rfl) rfl, mALL (in_t1 (i := 1) rfl) rfl⟩
set_option maxRecDepth 40000 in
theorem cv_108 : ceV 108 := ⟨mALL (in_t3 (i := 151) rfl) rfl, mALL (in_t3 (i := 152) rfl) rfl⟩
set_option maxRecDepth 40000 in
theorem cb_109 : ceB 109 2 := ⟨by decide +kernel, by decide +kernel, by decide +kernel, by decide +kernel, mALL (in_t3 (i := 161) rfl) rfl, mALL (in_t1 (i := 1) rfl) rfl⟩
set_option maxRecDepth 40000 in
theorem cv_109 : ceV 109 := ⟨mALL (in_t3 (i := 159) rfl) rfl, mALL (in_t3 (i := 160) rfl) rfl⟩
set_option maxRecDepth 40000 in
theorem cb_110 : ceB 110 2 := ⟨by decide +kernel, by decide +kernel, by decide +kernel, by decide +kernel, mALL (in_t3 (i := 165) rfl) rfl, mALL (in_t1 (i := 1) rfl) rfl⟩
set_option maxRecDepth 40000 in
theorem cv_110 : ceV 110 := ⟨mALL (in_t3 (i := 163) rfl) rfl, mALL (in_t3 (i := 164) rfl) rfl⟩
set_option maxRecDepth 40000 in
theorem cb_111 : ceB 111 2 := ⟨by decide +kernel, by decide +kernel, by decide +kernel, by decide +kernel, mALL (in_t3 (i := 169) rfl) rfl, mALL (in_t1 (i := 1) rfl) rfl⟩
set_option maxRecDepth 40000 in
theorem cv_111 : ceV 111 := ⟨mALL (in_t3 (i := 167) rfl) rfl, mALL (in_t3 (i := 168) rfl) rfl⟩
set_option maxRecDepth 40000 in
theorem cb_112 : ceB 112 0 := ⟨by decide +kernel, by decide +kernel, by decide +kernel, by decide +kernel, mALL (in_t3 (i := 223) rfl) rfl, mALL (in_t1 (i := 1) rfl) rfl⟩
set_option maxRecDepth 40000 in
theorem cv_112 : ceV 112 := ⟨mALL (in_t3 (i := 221) rfl) rfl, mALL (in_t3 (i := 222) rfl) rfl⟩
set_option maxRecDepth 40000 in
theorem cb_113 : ceB 113 1 := ⟨by decide +kernel, by decide +kernel, by decide +kernel, by decide +kernel, mALL (in_t3 (i := 227) rfl) rfl, mALL (in_t1 (i := 1) rfl) rfl⟩
set_option maxRecDepth 40000 in
theorem cv_113 : ceV 113 := ⟨mALL (in_t3 (i := 225) rfl) rfl, mALL (in_t3 (i := 226) rfl) rfl⟩
set_option maxRecDepth 40000 in
theorem cb_114 : ceB 114 1 := ⟨by decide +kernel, by decide +kernel, by decide +kernel, by decide +kernel, mALL (in_t3 (i := 235) rfl) rfl, mALL (in_t1 (i := 1) rfl) rfl⟩
set_option maxRecDepth 40000 in
theorem cv_114 : ceV 114 := ⟨mALL (in_t3 (i := 233) rfl) rfl, mALL (in_t3 (i := 234) rfl) rfl⟩
set_option maxRecDepth 40000 in
theorem cb_115 : ceB 115 0 := ⟨by decide +kernel, by decide +kernel, by decide +kernel, by decide +kernel, mALL (in_t4 (i := 6) rfl) rfl, mALL (in_t1 (i := 1) rfl) rfl⟩
set_option maxRecDepth 40000 in
theorem cv_115 : ceV 115 := ⟨mALL (in_t4 (i := 4) rfl) rfl, mALL (in_t4 (i := 5) rfl) rfl⟩
set_option maxRecDepth 40000 in
theorem cb_116 : ceB 116 1 := ⟨by decide +kernel, by decide +kernel, by decide +kernel, by decide +kernel, mALL (in_t4 (i := 12) rfl) rfl, mALL (in_t1 (i := 1) rfl) rfl⟩
set_option maxRecDepth 40000 in
theorem cv_116 : ceV 116 := ⟨mALL (in_t4 (i := 10) rfl) rfl, mALL (in_t4 (i := 11) rfl) rfl⟩
set_option maxRecDepth 40000 in
theorem cb_117 : ceB 117 2 := ⟨by decide +kernel, by decide +kernel, by decide +kernel, by decide +kernel, mALL (in_t4 (i := 21) rfl) rfl, mALL (in_t1 (i := 1) rfl) rfl⟩
set_option maxRecDepth 40000 in
theorem cv_117 : ceV 117 := ⟨mALL (in_t4 (i := 19) rfl) rfl, mALL (in_t4 (i := 20) rfl) rfl⟩
set_option maxRecDepth 40000 in
theorem cb_118 : ceB 118 2 := ⟨by decide +kernel, by decide +kernel, by decide +kernel, by decide +kernel, mALL (in_t4 (i := 25) rfl) rfl, mALL (in_t1 (i := 1) rfl) rfl⟩
set_option maxRecDepth 40000 in
theorem cv_118 : ceV 118 := ⟨mALL (in_t4 (i := 23) rfl) rfl, mALL (in_t4 (i := 24) rfl) rfl⟩
set_option maxRecDepth 40000 in
theorem cb_119 : ceB 119 0 := ⟨by decide +kernel, by decide +kernel, by decide +kernel, by decide +kernel, mALL (in_t4 (i := 36) rfl) rfl, mALL (in_t1 (i := 1) rfl) rfl⟩
set_option maxRecDepth 40000 in
theorem cv_119 : ceV 119 := ⟨mALL (in_t4 (i := 34) rfl) rfl, mALL (in_t4 (i := 35) rfl) rfl⟩
set_option maxRecDepth 40000 in
theorem cb_120 : ceB 120 0 := ⟨by decide +kernel, by decide +kernel, by decide +kernel, by decide +kernel, mALL (in_t4 (i := 44) rfl) rfl, mALL (in_t1 (i := 1) rfl) rfl⟩
set_option maxRecDepth 40000 in
theorem cv_120 : ceV 120 := ⟨mALL (in_t4 (i := 42) rfl) rfl, mALL (in_t4 (i := 43) rfl) rfl⟩
set_option maxRecDepth 40000 in
theorem cb_121 : ceB 121 0 := ⟨by decide +kernel, by decide +kernel, by decide +kernel, by decide +kernel, mALL (in_t4 (i := 70) rfl) rfl, mALL (in_t1 (i := 1) rfl) rfl⟩
set_option maxRecDepth 40000 in
theorem cv_121 : ceV 121 := ⟨mALL (in_t4 (i := 68) rfl) rfl, mALL (in_t4 (i := 69) rfl) rfl⟩
set_option maxRecDepth 40000 in
theorem cb_122 : ceB 122 3 := ⟨by decide +kernel, by decide +kernel, by decide +kernel, by decide +kernel, mALL (in_t4 (i := 78) rfl) rfl, mALL (in_t1 (i := 1) rfl) rfl⟩
set_option maxRecDepth 40000 in
theorem cv_122 : ceV 122 := ⟨mALL (in_t4 (i := 76) rfl) rfl, mALL (in_t4 (i := 77) rfl) rfl⟩
set_option maxRecDepth 40000 in
theorem cb_123 : ceB 123 0 := ⟨by decide +kernel, by decide +kernel, by decide +kernel, by decide +kernel, mALL (in_t4 (i := 82) rfl) rfl, mALL (in_t1 (i := 1) rfl) rfl⟩
set_option maxRecDepth 40000 in
theorem cv_123 : ceV 123 := ⟨mALL (in_t4 (i := 80) rfl) rfl, mALL (in_t4 (i := 81) rfl) rfl⟩
set_option maxRecDepth 40000 in
theorem cb_124 : ceB 124 0 := ⟨by decide +kernel, by decide +kernel, by decide +kernel, by decide +kernel, mALL (in_t4 (i := 86) rfl) rfl, mALL (in_t1 (i := 1) rfl) rfl⟩
set_option maxRecDepth 40000 in
theorem cv_124 : ceV 124 := ⟨mALL (in_t4 (i := 84) rfl) rfl, mALL (in_t4 (i := 85) rfl) rfl⟩
set_option maxRecDepth 40000 in
theorem cb_125 : ceB 125 0 := ⟨by decide +kernel, by decide +kernel, by decide +kernel, by decide +kernel, mALL (in_t4 (i := 106) rfl) rfl, mALL (in_t1 (i := 1) rfl) rfl⟩
set_option maxRecDepth 40000 in
theorem cv_125 : ceV 125 := ⟨mALL (in_t4 (i := 104) rfl) rfl, mALL (in_t4 (i := 105) rfl) rfl⟩
set_option maxRecDepth 40000 in
theorem cb_126 : ceB 126 2 := ⟨by decide +kernel, by decide +kernel, by decide +kernel, by decide +kernel, mALL (in_t4 (i := 114) rfl) rfl, mALL (in_t1 (i := 1) rfl) rfl⟩
set_option maxRecDepth 40000 in
theorem cv_126 : ceV 126 := ⟨mALL (in_t4 (i := 112) rfl) rfl, mALL (in_t4 (i := 113) rfl) rfl⟩
set_option maxRecDepth 40000 in
theorem cb_127 : ceB 127 3 := ⟨by decide +kernel, by decide +kernel, by decide +kernel, by decide +kernel, mALL (in_t4 (i := 123) rfl) rfl, mALL (in_t1 (i := 1) rfl) rfl⟩
set_option maxRecDepth 40000 in
theorem cv_127 : ceV 127 := ⟨mALL (in_t4 (i := 121) rfl) rfl, mALL (in_t4 (i := 122) rfl) rfl⟩
set_option maxRecDepth 40000 in
theorem cb_128 : ceB 128 1 := ⟨by decide +kernel, by decide +kernel, by decide +kernel, by decide +kernel, mALL (in_t4 (i := 130) rfl) rfl, mALL (in_t1 (i := 1) rfl) rfl⟩
set_option maxRecDepth 40000 in
theorem cv_128 : ceV 128 := ⟨mALL (in_t4 (i := 128) rfl) rfl, mALL (in_t4 (i := 129) rfl) rfl⟩
set_option maxRecDepth 40000 in
theorem cb_129 : ceB 129 0 := ⟨by decide +kernel, by decide +kernel, by decide +kernel, by decide +kernel, mALL (in_t4 (i := 140) rfl) rfl, mALL (in_t1 (i := 1) rfl) rfl⟩
set_option maxRecDepth 40000 in
theorem cv_129 : ceV 129 := ⟨mALL (in_t4 (i := 138) rfl) rfl, mALL (in_t4 (i := 139) rfl) rfl⟩
set_option maxRecDepth 40000 in
theorem cb_130 : ceB 130 2 := ⟨by decide +kernel, by decide +kernel, by decide +kernel, by decide +kernel, mALL (in_t4 (i := 148) rfl) rfl, mALL (in_t1 (i := 1) rfl) rfl⟩
set_option maxRecDepth 40000 in
theorem cv_130 : ceV 130 := ⟨mALL (in_t4 (i := 146) rfl) rfl, mALL (in_t4 (i := 147) rfl) rfl⟩
set_option maxRecDepth 40000 in
theorem cb_131 : ceB 131 1 := ⟨by decide +kernel, by decide +kernel, by decide +kernel, by decide +kernel, mALL (in_t4 (i := 166) rfl) rfl, mALL (in_t1 (i := 1) rfl) rfl⟩
set_option maxRecDepth 40000 in
theorem cv_131 : ceV 131 := ⟨mALL (in_t4 (i := 164) rfl) rfl, mALL (in_t4 (i := 165) rfl) rfl⟩
set_option maxRecDepth 40000 in
theorem cb_132 : ceB 132 1 := ⟨by decide +kernel, by decide +kernel, by decide +kernel, by decide +kernel, mALL (in_t4 (i := 174) rfl) rfl, mALL (in_t1 (i := 1) rfl) rfl⟩
set_option maxRecDepth 40000 in
theorem cv_132 : ceV 132 := ⟨mALL (in_t4 (i := 172) rfl) rfl, mALL (in_t4 (i := 173) rfl) rfl⟩
set_option maxRecDepth 40000 in
theorem cb_133 : ceB 133 1 := ⟨by decide +kernel, by decide +kernel, by decide +kernel, by decide +kernel, mALL (in_t4 (i := 178) rfl) rfl, mALL (in_t1 (i := 1) rfl) rfl⟩
set_option maxRecDepth 40000 in
theorem cv_133 : ceV 133 := ⟨mALL (in_t4 (i := 176) rfl) rfl, mALL (in_t4 (i := 177) rfl) rfl⟩
set_option maxRecDepth 40000 in
theorem cb_134 : ceB 134 1 := ⟨by decide +kernel, by decide +kernel, by decide +kernel, by decide +kernel, mALL (in_t5 (i := 36) rfl) rfl, mALL (in_t1 (i := 1) rfl) rfl⟩
set_option maxRecDepth 40000 in
theorem cv_134 : ceV 134 := ⟨mALL (in_t5 (i := 34) rfl) rfl, mALL (in_t5 (i := 35) rfl) rfl⟩
set_option maxRecDepth 40000 in
theorem cb_135 : ceB 135 1 := ⟨by decide +kernel, by decide +kernel, by decide +kernel, by decide +kernel, mALL (in_t2 (i := 95) rfl) rfl, mALL (in_t1 (i := 1) rfl) rfl⟩
set_option maxRecDepth 40000 in
theorem cv_135 : ceV 135 := ⟨mALL (in_t2 (i := 94) rfl) rfl, mSEL (in_sel (i := 10) rfl) rfl⟩
set_option maxRecDepth 40000 in
theorem cb_136 : ceB 136 1 := ⟨by decide +kernel, by decide +kernel, by decide +kernel, by decide +kernel, mALL (in_t2 (i := 100) rfl) rfl, mALL (in_t1 (i := 1) rfl) rfl⟩
set_option maxRecDepth 40000 in
theorem cv_136 : ceV 136 := ⟨mALL (in_t2 (i := 99) rfl) rfl, mSEL (in_sel (i := 11) rfl) rfl⟩
set_option maxRecDepth 40000 in
theorem cb_137 : ceB 137 0 := ⟨by decide +kernel, by decide +kernel, by decide +kernel, by decide +kernel, mALL (in_t2 (i := 135) rfl) rfl, mALL (in_t1 (i := 1) rfl) rfl⟩
set_option maxRecDepth 40000 in
theorem cv_137 : ceV 137 := ⟨mALL (in_t2 (i := 134) rfl) rfl, mSEL (in_sel (i := 17) rfl) rfl⟩
set_option maxRecDepth 40000 in
theorem cb_138 : ceB 138 1 := ⟨by decide +kernel, by decide +kernel, by decide +kernel, by decide +kernel, mALL (in_t3 (i := 70) rfl) rfl, mALL (in_t1 (i := 1) rfl) rfl⟩
set_option maxRecDepth 40000 in
theorem cv_138 : ceV 138 := ⟨mALL (in_t3 (i := 69) rfl) rfl, mSEL (in_sel (i := 46) rfl) rfl⟩
set_option maxRecDepth 40000 in
theorem cb_139 : ceB 139 3 := ⟨by decide +kernel, by decide +kernel, by decide +kernel, by decide +kernel, mALL (in_t3 (i := 76) rfl) rfl, mALL (in_t1 (i := 1) rfl) rfl⟩
set_option maxRecDepth 40000 in
theorem cs_139 : ceS 139 := mALL (in_t3 (i := 75) rfl) rfl
set_option maxRecDepth 40000 in
theorem cb_140 : ceB 140 1 := ⟨by decide +kernel, by decide +kernel, by decide +kernel, by decide +kernel, mALL (in_t3 (i := 73) rfl) rfl, mALL (in_t1 (i := 1) rfl) rfl⟩
set_option maxRecDepth 40000 in
theorem cs_140 : ceS 140 := mALL (in_t3 (i := 72) rfl) rfl
set_option maxRecDepth 40000 in
theorem cb_141 : ceB 141 1 := ⟨by decide +kernel, by decide +kernel, by decide +kernel, by decide +kernel, mALL (in_t3 (i := 80) rfl) rfl, mALL (in_t1 (i := 1) rfl) rfl⟩
set_option maxRecDepth 40000 in
theorem cv_141 : ceV 141 := ⟨mALL (in_t3 (i := 79) rfl) rfl, mSEL (in_sel (i := 47) rfl) rfl⟩
set_option maxRecDepth 40000 in
theorem cb_142 : ceB 142 1 := ⟨by decide +kernel, by decide +kernel, by decide +kernel, by decide +kernel, mALL (in_t1 (i := 229) rfl) rfl, mALL (in_t1 (i := 1) rfl) rfl⟩
set_option maxRecDepth 40000 in
theorem cs_142 : ceS 142 := mALL (in_t1 (i := 228) rfl) rfl
set_option maxRecDepth 40000 in
theorem cb_143 : ceB 143 1 := ⟨by decide +kernel, by decide +kernel, by decide +kernel, by decide +kernel, mALL (in_t2 (i := 107) rfl) rfl, mALL (in_t1 (i := 1) rfl) rfl⟩
set_option maxRecDepth 40000 in
theorem cs_143 : ceS 143 := mALL (in_t2 (i := 106) rfl) rfl
set_option maxRecDepth 40000 in
theorem cb_144 : ceB 144 1 := ⟨by decide +kernel, by decide +kernel, by decide +kernel, by decide +kernel, mALL (in_t2 (i := 115) rfl) rfl, mALL (in_t1 (i := 1) rfl) rfl⟩
set_option maxRecDepth 40000 in
theorem cs_144 : ceS 144 := mALL (in_t2 (i := 114) rfl) rfl
set_option maxRecDepth 40000 in
theorem cb_145 : ceB 145 2 := ⟨by decide +kernel, by decide +kernel, by decide +kernel, by decide +kernel, mALL (in_t2 (i := 195) rfl) rfl, mALL (in_t1 (i := 1) rfl) rfl⟩
set_option maxRecDepth 40000 in
theorem cs_145 : ceS 145 := mALL (in_t2 (i := 194) rfl) rfl
set_option maxRecDepth 40000 in
theorem cb_146 : ceB 146 1 := ⟨by decide +kernel, by decide +kernel, by decide +kernel, by decide +kernel, mALL (in_t4 (i := 170) rfl) rfl, mALL (in_t1 (i := 1) rfl) rfl⟩
set_option maxRecDepth 40000 in
theorem cv_146 : ceV 146 := ⟨mALL (in_t4 (i := 169) rfl) rfl, mSEL (in_sel (i := 79) rfl) rfl⟩
set_option maxRecDepth 40000 in
theorem cb_147 : ceB 147 3 := ⟨by decide +kernel, by decide +kernel, by decide +kernel, by decide +kernel, mALL (in_t3 (i := 157) rfl) rfl, mALL (in_t1 (i := 1) rfl) rfl⟩
set_option maxRecDepth 40000 in
theorem cv_147 : ceV 147 := ⟨mALL (in_t3 (i := 156) rfl) rfl, mSEL (in_sel (i := 52) rfl) rfl⟩
set_option maxRecDepth 40000 in
theorem cb_148 : ceB 148 1 := ⟨by decide +kernel, by decide +kernel, by decide +kernel, by decide +kernel, mALL (in_t3 (i := 215) rfl) rfl, mALL (in_t1 (i := 1) rfl) rfl⟩
set_option maxRecDepth 40000 in
theorem cv_148 : ceV 148 := ⟨mALL (in_t3 (i := 214) rfl) rfl, mSEL (in_sel (i := 61) rfl) rfl⟩
set_option maxRecDepth 40000 in
theorem cb_149 : ceB 149 0 := ⟨by decide +kernel, by decide +kernel, by decide +kernel, by decide +kernel, mALL (in_t3 (i := 231) rfl) rfl, mALL (in_t1 (i := 1) rfl) rfl⟩
set_option maxRecDepth 40000 in
theorem cv_149 : ceV 149 := ⟨mALL (in_t3 (i := 230) rfl) rfl, mSEL (in_sel (i := 63) rfl) rfl⟩
set_option maxRecDepth 40000 in
theorem cb_150 : ceB 150 1 := ⟨by decide +kernel, by decide +kernel, by decide +kernel, by decide +kernel, mALL (in_t4 (i := 144) rfl) rfl, mALL (in_t1 (i := 1) rfl) rfl⟩
set_option maxRecDepth 40000 in
theorem cv_150 : ceV 150 := ⟨mALL (in_t4 (i := 143) rfl) rfl, mSEL (in_sel (i := 75) rfl) rfl⟩
set_option maxRecDepth 40000 in
theorem cb_151 : ceB 151 0 := ⟨by decide +kernel, by decide +kernel, by decide +kernel, by decide +kernel, mALL (in_t4 (i := 152) rfl) rfl, mALL (in_t1 (i := 1) rfl) rfl⟩
set_option maxRecDepth 40000 in
theorem cv_151 : ceV 151 := ⟨mALL (in_t4 (i := 151) rfl) rfl, mSEL (in_sel (i := 76) rfl) rfl⟩
set_option maxRecDepth 40000 in
theorem cb_152 : ceB 152 1 := ⟨by decide +kernel, by decide +kernel, by decide +kernel, by decide +kernel, mALL (in_t4 (i := 156) rfl) rfl, mALL (in_t1 (i := 1) rfl) rfl⟩
set_option maxRecDepth 40000 in
theorem cv_152 : ceV 152 := ⟨mALL (in_t4 (i := 155) rfl) rfl, mSEL (in_sel (i := 77) rfl) rfl⟩
set_option maxRecDepth 40000 in
theorem cb_153 : ceB 153 0 := ⟨by decide +kernel, by decide +kernel, by decide +kernel, by decide +kernel, mALL (in_t4 (i := 187) rfl) rfl, mALL (in_t1 (i := 1) rfl) rfl⟩
set_option maxRecDepth 40000 in
theorem cv_153 : ceV 153 := ⟨mALL (in_t4 (i := 186) rfl) rfl, mSEL (in_sel (i := 81) rfl) rfl⟩
set_option maxRecDepth 40000 in
theorem cb_154 : ceB 154 0 := ⟨by decide +kernel, by decide +kernel, by decide +kernel, by decide +kernel, mALL (in_t4 (i := 191) rfl) rfl, mALL (in_t1 (i := 1) rfl) rfl⟩
set_option maxRecDepth 40000 in
theorem cv_154 : ceV 154 := ⟨mALL (in_t4 (i := 190) rfl) rfl, mSEL (in_sel (i := 82) rfl) rfl⟩
set_option maxRecDepth 40000 in
theorem cb_155 : ceB 155 1 := ⟨by decide +kernel, by decide +kernel, by decide +kernel, by decide +kernel, mALL (in_t4 (i := 74) rfl) rfl, mALL (in_t1 (i := 1) rfl) rfl⟩
set_option maxRecDepth 40000 in
theorem cv_155 : ceV 155 := ⟨mALL (in_t4 (i := 73) rfl) rfl, mSEL (in_sel (i := 71) rfl) rfl⟩
set_option maxRecDepth 40000 in
theorem cb_156 : ceB 156 1 := ⟨by decide +kernel, by decide +kernel, by decide +kernel, by decide +kernel, mALL (in_t4 (i := 28) rfl) rfl, mALL (in_t1 (i := 1) rfl) rfl⟩
set_option maxRecDepth 40000 in
theorem cs_156 : ceS 156 := mALL (in_t4 (i := 27) rfl) rfl
set_option maxRecDepth 40000 in
theorem cb_157 : ceB 157 0 := ⟨by decide +kernel, by decide +kernel, by decide +kernel, by decide +kernel, mALL (in_t4 (i := 48) rfl) rfl, mALL (in_t1 (i := 1) rfl) rfl⟩
set_option maxRecDepth 40000 in
theorem cv_157 : ceV 157 := ⟨mALL (in_t4 (i := 47) rfl) rfl, mSEL (in_sel (i := 66) rfl) rfl⟩
set_option maxRecDepth 40000 in
theorem cb_158 : ceB 158 1 := ⟨by decide +kernel, by decide +kernel, by decide +kernel, by decide +kernel, mALL (in_t4 (i := 52) rfl) rfl, mALL (in_t1 (i := 1) rfl) rfl⟩
set_option maxRecDepth 40000 in
theorem cv_158 : ceV 158 := ⟨mALL (in_t4 (i := 51) rfl) rfl, mSEL (in_sel (i := 67) rfl) rfl⟩
set_option maxRecDepth 40000 in
theorem cb_159 : ceB 159 3 := ⟨by decide +kernel, by decide +kernel, by decide +kernel, by decide +kernel, mALL (in_t4 (i := 64) rfl) rfl, mALL (in_t1 (i := 1) rfl) rfl⟩
set_option maxRecDepth 40000 in
theorem cv_159 : ceV 159 := ⟨mALL (in_t4 (i := 63) rfl) rfl, mSEL (in_sel (i := 70) rfl) rfl⟩
set_option maxRecDepth 40000 in
theorem cb_160 : ceB 160 2 := ⟨by decide +kernel, by decide +kernel, by decide +kernel, by decide +kernel, mALL (in_t4 (i := 117) rfl) rfl, mALL (in_t1 (i := 1) rfl) rfl⟩
set_option maxRecDepth 40000 in
theorem cs_160 : ceS 160 := mALL (in_t4 (i := 116) rfl) rfl
set_option maxRecDepth 40000 in
theorem cb_161 : ceB 161 3 := ⟨by decide +kernel, by decide +kernel, by decide +kernel, by decide +kernel, mALL (in_t4 (i := 133) rfl) rfl, mALL (in_t1 (i := 1) rfl) rfl⟩
set_option maxRecDepth 40000 in
theorem cs_161 : ceS 161 := mALL (in_t4 (i := 132) rfl) rfl
set_option maxRecDepth 40000 in
theorem cb_162 : ceB 162 3 := ⟨by decide +kernel, by decide +kernel, by decide +kernel, by decide +kernel, mALL (in_t4 (i := 136) rfl) rfl, mALL (in_t1 (i := 1) rfl) rfl⟩
set_option maxRecDepth 40000 in
theorem cs_162 : ceS 162 := mALL (in_t4 (i := 135) rfl) rfl
set_option maxRecDepth 40000 in
theorem cb_163 : ceB 163 1 := ⟨by decide +kernel, by decide +kernel, by decide +kernel, by decide +kernel, mALL (in_t4 (i := 15) rfl) rfl, mALL (in_t1 (i := 1) rfl) rfl⟩
set_option maxRecDepth 40000 in
theorem cs_163 : ceS 163 := mALL (in_t4 (i := 14) rfl) rfl
set_option maxRecDepth 40000 in
theorem cb_164 : ceB 164 2 := ⟨by decide +kernel, by decide +kernel, by decide +kernel, by decide +kernel, mALL (in_t4 (i := 126) rfl) rfl, mALL (in_t1 (i := 1) rfl) rfl⟩
set_option maxRecDepth 40000 in
theorem cs_164 : ceS 164 := mALL (in_t4 (i := 125) rfl) rfl
set_option maxRecDepth 40000 in
theorem cb_165 : ceB 165 0 := ⟨by decide +kernel, by decide +kernel, by decide +kernel, by decide +kernel, mALL (in_t5 (i := 51) rfl) rfl, mALL (in_t1 (i := 11) rfl) rfl⟩
set_option maxRecDepth 40000 in
theorem ci_165 : ceI 165 := ⟨mALL (in_t5 (i := 50) rfl) rfl, by decide +kernel, by decide +kernel⟩
set_option maxRecDepth 40000 in
theorem cb_166 : ceB 166 0 := ⟨by decide +kernel, by decide +kernel, by decide +kernel, by decide +kernel, mALL (in_t5 (i := 180) rfl) rfl, mALL (in_t1 (i := 11) rfl) rfl⟩
set_option maxRecDepth 40000 in
theorem cv_166 : ceV 166 := ⟨mALL (in_t5 (i := 178) rfl) rfl, mALL (in_t5 (i := 179) rfl) rfl⟩
set_option maxRecDepth 40000 in
theorem cb_167 : ceB 167 3 := ⟨by decide +kernel, by decide +kernel, by decide +kernel, by decide +kernel, mALL (in_t5 (i := 191) rfl) rfl, mALL (in_t1 (i := 11) rfl) rfl⟩
set_option maxRecDepth 40000 in
theorem cs_167 : ceS 167 := mALL (in_t5 (i := 190) rfl) rfl
set_option maxRecDepth 40000 in
theorem cb_168 : ceB 168 2 := ⟨by decide +kernel, by decide +kernel, by decide +kernel, by decide +kernel, mALL (in_t7 (i := 20) rfl) rfl, mALL (in_t1 (i := 11) rfl) rfl⟩
set_option maxRecDepth 40000 in
theorem cs_168 : ceS 168 := mALL (in_t7 (i := 19) rfl) rfl
set_option maxRecDepth 40000 in
theorem cb_169 : ceB 169 0 := ⟨by decide +kernel, by decide +kernel, by decide +kernel, by decide +kernel, mALL (in_t6 (i := 34) rfl) rfl, mALL (in_t1 (i := 11) rfl) rfl⟩
set_option maxRecDepth 40000 in
theorem cv_169 : ceV 169 := ⟨mALL (in_t6 (i := 33) rfl) rfl, mSEL (in_sel (i := 103) rfl) rfl⟩
set_option maxRecDepth 40000 in
theorem cb_170 : ceB 170 1 := ⟨by decide +kernel, by decide +kernel, by decide +kernel, by decide +kernel, mALL (in_t6 (i := 115) rfl) rfl, mALL (in_t1 (i := 11) rfl) rfl⟩
set_option maxRecDepth 40000 in
theorem cv_170 : ceV 170 := ⟨mALL (in_t6 (i := 114) rfl) rfl, mSEL (in_sel (i := 114) rfl) rfl⟩
set_option maxRecDepth 40000 in
theorem cb_171 : ceB 171 1 := ⟨by decide +kernel, by decide +kernel, by decide +kernel, by decide +kernel, mALL (in_t6 (i := 30) rfl) rfl, mALL (in_t1 (i := 11) rfl) rfl⟩
set_option maxRecDepth 40000 in
theorem cv_171 : ceV 171 := ⟨mALL (in_t6 (i := 29) rfl) rfl, mSEL (in_sel (i := 102) rfl) rfl⟩
set_option maxRecDepth 40000 in
theorem cb_172 : ceB 172 2 := ⟨by decide +kernel, by decide +kernel, by decide +kernel, by decide +kernel, mALL (in_t6 (i := 45) rfl) rfl, mALL (in_t1 (i := 11) rfl) rfl⟩
set_option maxRecDepth 40000 in
theorem cv_172 : ceV 172 := ⟨mALL (in_t6 (i := 44) rfl) rfl, mSEL (in_sel (i := 104) rfl) rfl⟩
set_option maxRecDepth 40000 in
theorem cb_173 : ceB 173 1 := ⟨by decide +kernel, by decide +kernel, by decide +kernel, by decide +kernel, mALL (in_t6 (i := 126) rfl) rfl, mALL (in_t1 (i := 11) rfl) rfl⟩
set_option maxRecDepth 40000 in
theorem cs_173 : ceS 173 := mALL (in_t6 (i := 125) rfl) rfl
set_option maxRecDepth 40000 in
theorem cb_174 : ceB 174 0 := ⟨by decide +kernel, by decide +kernel, by decide +kernel, by decide +kernel, mALL (in_t7 (i := 17) rfl) rfl, mALL (in_t1 (i := 11) rfl) rfl⟩
set_option maxRecDepth 40000 in
theorem cv_174 : ceV 174 := ⟨mALL (in_t7 (i := 16) rfl) rfl, mSEL (in_sel (i := 126) rfl) rfl⟩
set_option maxRecDepth 40000 in
theorem cb_175 : ceB 175 3 := ⟨by decide +kernel, by decide +kernel, by decide +kernel, by decide +kernel, mALL (in_t6 (i := 37) rfl) rfl, mALL (in_t1 (i := 11) rfl) rfl⟩
set_option maxRecDepth 40000 in
theorem cs_175 : ceS 175 := mALL (in_t6 (i := 36) rfl) rfl
set_option maxRecDepth 40000 in
theorem cb_176 : ceB 176 2 := ⟨by decide +kernel, by decide +kernel, by decide +kernel, by decide +kernel, mALL (in_t6 (i := 52) rfl) rfl, mALL (in_t1 (i := 11) rfl) rfl⟩
set_option maxRecDepth 40000 in
theorem cs_176 : ceS 176 := mALL (in_t6 (i := 51) rfl) rfl
set_option maxRecDepth 40000 in
theorem cb_177 : ceB 177 1 := ⟨by decide +kernel, by decide +kernel, by decide +kernel, by decide +kernel, mALL (in_t5 (i := 184) rfl) rfl, mALL (in_t1 (i := 11) rfl) rfl⟩
set_option maxRecDepth 40000 in
theorem cv_177 : ceV 177 := ⟨mALL (in_t5 (i := 182) rfl) rfl, mALL (in_t5 (i := 183) rfl) rfl⟩
set_option maxRecDepth 40000 in
theorem cb_178 : ceB 178 1 := ⟨by decide +kernel, by decide +kernel, by decide +kernel, by decide +kernel, mALL (in_t5 (i := 188) rfl) rfl, mALL (in_t1 (i := 11) rfl) rfl⟩
set_option maxRecDepth 40000 in
theorem cv_178 : ceV 178 := ⟨mALL (in_t5 (i := 186) rfl) rfl, mALL (in_t5 (i := 187) rfl) rfl⟩
set_option maxRecDepth 40000 in
theorem cb_179 : ceB 179 3 := ⟨by decide +kernel, by decide +kernel, by decide +kernel, by decide +kernel, mALL (in_t5 (i := 203) rfl) rfl, mALL (in_t1 (i := 11) rfl) rfl⟩
set_option maxRecDepth 40000 in
theorem cv_179 : ceV 179 := ⟨mALL (in_t5 (i := 202) rfl) rfl, mSEL (in_sel (i := 88) rfl) rfl⟩
set_option maxRecDepth 40000 in
theorem cb_180 : ceB 180 1 := ⟨by decide +kernel, by decide +kernel, by decide +kernel, by decide +kernel, mALL (in_t5 (i := 199) rfl) rfl, mALL (in_t1 (i := 11) rfl) rfl⟩
set_option maxRecDepth 40000 in
theorem cv_180 : ceV 180 := ⟨mALL (in_t5 (i := 198) rfl) rfl, mSEL (in_sel (i := 87) rfl) rfl⟩
set_option maxRecDepth 40000 in
theorem cb_181 : ceB 181 0 := ⟨by decide +kernel, by decide +kernel, by decide +kernel, by decide +kernel, mALL (in_t5 (i := 219) rfl) rfl, mALL (in_t1 (i := 11) rfl) rfl⟩
set_option maxRecDepth 40000 in
theorem cv_181 : ceV 181 := ⟨mALL (in_t5 (i := 218) rfl) rfl, mSEL (in_sel (i := 92) rfl) rfl⟩
set_option maxRecDepth 40000 in
theorem cb_182 : ceB 182 0 := ⟨by decide +kernel, by decide +kernel, by decide +kernel, by decide +kernel, mALL (in_t5 (i := 207) rfl) rfl, mALL (in_t1 (i := 11) rfl) rfl⟩
set_option maxRecDepth 40000 in
theorem cv_182 : ceV 182 := ⟨mALL (in_t5 (i := 206) rfl) rfl, mSEL (in_sel (i := 89) rfl) rfl⟩
set_option maxRecDepth 40000 in
theorem cb_183 : ceB 183 1 := ⟨by decide +kernel, by decide +kernel, by decide +kernel, by decide +kernel, mALL (in_t5 (i := 211) rfl) rfl, mALL (in_t1 (i := 11) rfl) rfl⟩
set_option maxRecDepth 40000 in
theorem cv_183 : ceV 183 := ⟨mALL (in_t5 (i := 210) rfl) rfl, mSEL (in_sel (i := 90) rfl) rfl⟩
set_option maxRecDepth 40000 in
theorem cb_184 : ceB 184 1 := ⟨by decide +kernel, by decide +kernel, by decide +kernel, by decide +kernel, mALL (in_t5 (i := 223) rfl) rfl, mALL (in_t1 (i := 11) rfl) rfl⟩
set_option maxRecDepth 40000 in
theorem cv_184 : ceV 184 := ⟨mALL (in_t5 (i := 222) rfl) rfl, mSEL (in_sel (i := 93) rfl) rfl⟩
set_option maxRecDepth 40000 in
theorem cb_185 : ceB 185 1 := ⟨by decide +kernel, by decide +kernel, by decide +kernel, by decide +kernel, mALL (in_t6 (i := 15) rfl) rfl, mALL (in_t1 (i := 11) rfl) rfl⟩
set_option maxRecDepth 40000 in
theorem cv_185 : ceV 185 := ⟨mALL (in_t6 (i := 14) rfl) rfl, mSEL (in_sel (i := 100) rfl) rfl⟩
set_option maxRecDepth 40000 in
theorem cb_186 : ceB 186 2 := ⟨by decide +kernel, by decide +kernel, by decide +kernel, by decide +kernel, mALL (in_t5 (i := 215) rfl) rfl, mALL (in_t1 (i := 11) rfl) rfl⟩
set_option maxRecDepth 40000 in
theorem cv_186 : ceV 186 := ⟨mALL (in_t5 (i := 214) rfl) rfl, mSEL (in_sel (i := 91) rfl) rfl⟩
set_option maxRecDepth 40000 in
theorem cb_187 : ceB 187 1 := ⟨by decide +kernel, by decide +kernel, by decide +kernel, by decide +kernel, mALL (in_t6 (i := 19) rfl) rfl, mALL (in_t1 (i := 11) rfl) rfl⟩
set_option maxRecDepth 40000 in
theorem cv_187 : ceV 187 := ⟨mALL (in_t6 (i := 18) rfl) rfl, mSEL (in_sel (i := 101) rfl) rfl⟩
set_option maxRecDepth 40000 in
theorem cb_188 : ceB 188 0 := ⟨by decide +kernel, by decide +kernel, by decide +kernel, by decide +kernel, mALL (in_t5 (i := 227) rfl) rfl, mALL (in_t1 (i := 11) rfl) rfl⟩
set_option maxRecDepth 40000 in
theorem cv_188 : ceV 188 := ⟨mALL (in_t5 (i := 226) rfl) rfl, mSEL (in_sel (i := 94) rfl) rfl⟩
set_option maxRecDepth 40000 in
theorem cb_189 : ceB 189 0 := ⟨by decide +kernel, by decide +kernel, by decide +kernel, by decide +kernel, mALL (in_t5 (i := 195) rfl) rfl, mALL (in_t1 (i := 11) rfl) rfl⟩
set_option maxRecDepth 40000 in
theorem cv_189 : ceV 189 := ⟨mALL (in_t5 (i := 193) rfl) rfl, mALL (in_t5 (i := 194) rfl) rfl⟩
set_option maxRecDepth 40000 in
theorem cb_190 : ceB 190 1 := ⟨by decide +kernel, by decide +kernel, by decide +kernel, by decide +kernel, mALL (in_t5 (i := 239) rfl) rfl, mALL (in_t1 (i := 11) rfl) rfl⟩
set_option maxRecDepth 40000 in
theorem cv_190 : ceV 190 := ⟨mALL (in_t5 (i := 238) rfl) rfl, mSEL (in_sel (i := 96) rfl) rfl⟩
set_option maxRecDepth 40000 in
theorem cb_191 : ceB 191 1 := ⟨by decide +kernel, by decide +kernel, by decide +kernel, by decide +kernel, mALL (in_t6 (i := 3) rfl) rfl, mALL (in_t1 (i := 11) rfl) rfl⟩
set_option maxRecDepth 40000 in
theorem cv_191 : ceV 191 := ⟨mALL (in_t6 (i := 2) rfl) rfl, mSEL (in_sel (i := 97) rfl) rfl⟩
set_option maxRecDepth 40000 in
theorem cb_192 : ceB 192 1 := ⟨by decide +kernel, by decide +kernel, by decide +kernel, by decide +kernel, mALL (in_t6 (i := 7) rfl) rfl, mALL (in_t1 (i := 11) rfl) rfl⟩
set_option maxRecDepth 40000 in
theorem cv_192 : ceV 192 := ⟨mALL (in_t6 (i := 6) rfl) rfl, mSEL (in_sel (i := 98) rfl) rfl⟩
set_option maxRecDepth 40000 in
theorem cb_193 : ceB 193 1 := ⟨by decide +kernel, by decide +kernel, by decide +kernel, by decide +kernel, mALL (in_t6 (i := 22) rfl) rfl, mALL (in_t1 (i := 11) rfl) rfl⟩
set_option maxRecDepth 40000 in
theorem cs_193 : ceS 193 := mALL (in_t6 (i := 21) rfl) rfl
set_option maxRecDepth 40000 in
theorem cb_194 : ceB 194 1 := ⟨by decide +kernel, by decide +kernel, by decide +kernel, by decide +kernel, mALL (in_t6 (i := 11) rfl) rfl, mALL (in_t1 (i := 11) rfl) rfl⟩
set_option maxRecDepth 40000 in
theorem cv_194 : ceV 194 := ⟨mALL (in_t6 (i := 10) rfl) rfl, mSEL (in_sel (i := 99) rfl) rfl⟩
set_option maxRecDepth 40000 in
theorem cb_195 : ceB 195 0 := ⟨by decide +kernel, by decide +kernel, by decide +kernel, by decide +kernel, mALL (in_t5 (i := 235) rfl) rfl, mALL (in_t1 (i := 11) rfl) rfl⟩
set_option maxRecDepth 40000 in
theorem cv_195 : ceV 195 := ⟨mALL (in_t5 (i := 234) rfl) rfl, mSEL (in_sel (i := 95) rfl) rfl⟩
set_option maxRecDepth 40000 in
theorem cb_196 : ceB 196 0 := ⟨by decide +kernel, by decide +kernel, by decide +kernel, by decide +kernel, mALL (in_t5 (i := 231) rfl) rfl, mALL (in_t1 (i := 11) rfl) rfl⟩
set_option maxRecDepth 40000 in
theorem cv_196 : ceV 196 := ⟨mALL (in_t5 (i := 229) rfl) rfl, mALL (in_t5 (i := 230) rfl) rfl⟩
set_option maxRecDepth 40000 in
theorem cb_197 : ceB 197 3 := ⟨by decide +kernel, by decide +kernel, by decide +kernel, by decide +kernel, mALL (in_t6 (i := 49) rfl) rfl, mALL (in_t1 (i := 11) rfl) rfl⟩
set_option maxRecDepth 40000 in
theorem cv_197 : ceV 197 := ⟨mALL (in_t6 (i := 48) rfl) rfl, mSEL (in_sel (i := 105) rfl) rfl⟩
set_option maxRecDepth 40000 in
theorem cb_198 : ceB 198 2 := ⟨by decide +kernel, by decide +kernel, by decide +kernel, by decide +kernel, mALL (in_t6 (i := 26) rfl) rfl, mALL (in_t1 (i := 11) rfl) rfl⟩
set_option maxRecDepth 40000 in
theorem cv_198 : ceV 198 := ⟨mALL (in_t6 (i := 24) rfl) rfl, mALL (in_t6 (i := 25) rfl) rfl⟩
set_option maxRecDepth 40000 in
theorem cb_199 : ceB 199 2 := ⟨by decide +kernel, by decide +kernel, by decide +kernel, by decide +kernel, mALL (in_t6 (i := 41) rfl) rfl, mALL (in_t1 (i := 11) rfl) rfl⟩
set_option maxRecDepth 40000 in
theorem cv_199 : ceV 199 := ⟨mALL (in_t6 (i := 39) rfl) rfl, mALL (in_t6 (i := 40) rfl) rfl⟩
set_option maxRecDepth 40000 in
theorem cb_200 : ceB 200 1 := ⟨by decide +kernel, by decide +kernel, by decide +kernel, by decide +kernel, mALL (in_t6 (i := 58) rfl) rfl, mALL (in_t1 (i := 11) rfl) rfl⟩
set_option maxRecDepth 40000 in
theorem cv_200 : ceV 200 := ⟨mALL (in_t6 (i := 56) rfl) rfl, mALL (in_t6 (i := 57) rfl) rfl⟩
set_option maxRecDepth 40000 in
theorem cb_201 : ceB 201 2 := ⟨by decide +kernel, by decide +kernel, by decide +kernel, by decide +kernel, mALL (in_t6 (i := 66) rfl) rfl, mALL (in_t1 (i := 11) rfl) rfl⟩
set_option maxRecDepth 40000 in
theorem cv_201 : ceV 201 := ⟨mALL (in_t6 (i := 65) rfl) rfl, mSEL (in_sel (i := 106) rfl) rfl⟩
set_option maxRecDepth 40000 in
theorem cb_202 : ceB 202 4 := ⟨by decide +kernel, by decide +kernel, by decide +kernel, by decide +kernel, mALL (in_t6 (i := 62) rfl) rfl, mALL (in_t1 (i := 11) rfl) rfl⟩
set_option maxRecDepth 40000 in
theorem cv_202 : ceV 202 := ⟨mALL (in_t6 (i := 60) rfl) rfl, mALL (in_t6 (i := 61) rfl) rfl⟩
set_option maxRecDepth 40000 in
theorem cb_203 : ceB 203 3 := ⟨by decide +kernel, by decide +kernel, by decide +kernel, by decide +kernel, mALL (in_t6 (i := 84) rfl) rfl, mALL (in_t1 (i := 11) rfl) rfl⟩
set_option maxRecDepth 40000 in
theorem cs_203 : ceS 203 := mALL (in_t6 (i := 83) rfl) rfl
set_option maxRecDepth 40000 in
theorem cb_204 : ceB 204 1 := ⟨by decide +kernel, by decide +kernel, by decide +kernel, by decide +kernel, mALL (in_t6 (i := 81) rfl) rfl, mALL (in_t1 (i := 11) rfl) rfl⟩
set_option maxRecDepth 40000 in
theorem cv_204 : ceV 204 := ⟨mALL (in_t6 (i := 80) rfl) rfl, mSEL (in_sel (i := 108) rfl) rfl⟩
set_option maxRecDepth 40000 in
theorem cb_205 : ceB 205 2 := ⟨by decide +kernel, by decide +kernel, by decide +kernel, by decide +kernel, mALL (in_t6 (i := 91) rfl) rfl, mALL (in_t1 (i := 11) rfl) rfl⟩
set_option maxRecDepth 40000 in
theorem cs_205 : ceS 205 := mALL (in_t6 (i := 90) rfl) rfl
set_option maxRecDepth 40000 in
theorem cb_206 : ceB 206 3 := ⟨by decide +kernel, by decide +kernel, by decide +kernel, by decide +kernel, mALL (in_t6 (i := 74) rfl) rfl, mALL (in_t1 (i := 11) rfl) rfl⟩
set_option maxRecDepth 40000 in
theorem cv_206 : ceV 206 := ⟨mALL (in_t6 (i := 73) rfl) rfl, mSEL (in_sel (i := 107) rfl) rfl⟩
set_option maxRecDepth 40000 in
theorem cb_207 : ceB 207 3 := ⟨by decide +kernel, by decide +kernel, by decide +kernel, by decide +kernel, mALL (in_t6 (i := 88) rfl) rfl, mALL (in_t1 (i := 11) rfl) rfl⟩
set_option maxRecDepth 40000 in
theorem cv_207 : ceV 207 := ⟨mALL (in_t6 (i := 87) rfl) rfl, mSEL (in_sel (i := 109) rfl) rfl⟩
set_option maxRecDepth 40000 in
theorem cb_208 : ceB 208 2 := ⟨by decide +kernel, by decide +kernel, by decide +kernel, by decide +kernel, mALL (in_t6 (i := 70) rfl) rfl, mALL (in_t1 (i := 11) rfl) rfl⟩
set_option maxRecDepth 40000 in
theorem cv_208 : ceV 208 := ⟨mALL (in_t6 (i := 68) rfl) rfl, mALL (in_t6 (i := 69) rfl) rfl⟩
set_option maxRecDepth 40000 in
theorem cb_209 : ceB 209 2 := ⟨by decide +kernel, by decide +kernel, by decide +kernel, by decide +kernel, mALL (in_t6 (i := 107) rfl) rfl, mALL (in_t1 (i := 11) rfl) rfl⟩
set_option maxRecDepth 40000 in
theorem cv_209 : ceV 209 := ⟨mALL (in_t6 (i := 106) rfl) rfl, mSEL (in_sel (i := 112) rfl) rfl⟩
set_option maxRecDepth 40000 in
theorem cb_210 : ceB 210 1 := ⟨by decide +kernel, by decide +kernel, by decide +kernel, by decide +kernel, mALL (in_t6 (i := 103) rfl) rfl, mALL (in_t1 (i := 11) rfl) rfl⟩
set_option maxRecDepth 40000 in
theorem cv_210 : ceV 210 := ⟨mALL (in_t6 (i := 102) rfl) rfl, mSEL (in_sel (i := 111) rfl) rfl⟩
set_option maxRecDepth 40000 in
theorem cb_211 : ceB 211 2 := ⟨by decide +kernel, by decide +kernel, by decide +kernel, by decide +kernel, mALL (in_t6 (i := 99) rfl) rfl, mALL (in_t1 (i := 11) rfl) rfl⟩
set_option maxRecDepth 40000 in
theorem cv_211 : ceV 211 := ⟨mALL (in_t6 (i := 98) rfl) rfl, mSEL (in_sel (i := 110) rfl) rfl⟩
set_option maxRecDepth 40000 in
theorem cb_212 : ceB 212 2 := ⟨by decide +kernel, by decide +kernel, by decide +kernel, by decide +kernel, mALL (in_t6 (i := 111) rfl) rfl, mALL (in_t1 (i := 11) rfl) rfl⟩
set_option maxRecDepth 40000 in
theorem cv_212 : ceV 212 := ⟨mALL (in_t6 (i := 110) rfl) rfl, mSEL (in_sel (i := 113) rfl) rfl⟩
set_option maxRecDepth 40000 in
theorem cb_213 : ceB 213 1 := ⟨by decide +kernel, by decide +kernel, by decide +kernel, by decide +kernel, mALL (in_t6 (i := 95) rfl) rfl, mALL (in_t1 (i := 11) rfl) rfl⟩
set_option maxRecDepth 40000 in
theorem cv_213 : ceV 213 := ⟨mALL (in_t6 (i := 93) rfl) rfl, mALL (in_t6 (i := 94) rfl) rfl⟩
set_option maxRecDepth 40000 in
theorem cb_214 : ceB 214 4 := ⟨by decide +kernel, by decide +kernel, by decide +kernel, by decide +kernel, mALL (in_t6 (i := 123) rfl) rfl, mALL (in_t1 (i := 11) rfl) rfl⟩
set_option maxRecDepth 40000 in
theorem cv_214 : ceV 214 := ⟨mALL (in_t6 (i := 122) rfl) rfl, mSEL (in_sel (i := 115) rfl) rfl⟩
set_option maxRecDepth 40000 in
theorem cb_215 : ceB 215 4 := ⟨by decide +kernel, by decide +kernel, by decide +kernel, by decide +kernel, mALL (in_t6 (i := 129) rfl) rfl, mALL (in_t1 (i := 11) rfl) rfl⟩
set_option maxRecDepth 40000 in
theorem cs_215 : ceS 215 := mALL (in_t6 (i := 128) rfl) rfl
set_option maxRecDepth 40000 in
theorem cb_216 : ceB 216 3 := ⟨by decide +kernel, by decide +kernel, by decide +kernel, by decide +kernel, mALL (in_t6 (i := 119) rfl) rfl, mALL (in_t1 (i := 11) rfl) rfl⟩
set_option maxRecDepth 40000 in
theorem cv_216 : ceV 216 := ⟨mALL (in_t6 (i := 117) rfl) rfl, mALL (in_t6 (i := 118) rfl) rfl⟩
set_option maxRecDepth 40000 in
theorem cb_217 : ceB 217 2 := ⟨by decide +kernel, by decide +kernel, by decide +kernel, by decide +kernel, mALL (in_t6 (i := 137) rfl) rfl, mALL (in_t1 (i := 11) rfl) rfl⟩
set_option maxRecDepth 40000 in
theorem cv_217 : ceV 217 := ⟨mALL (in_t6 (i := 136) rfl) rfl, mSEL (in_sel (i := 116) rfl) rfl⟩
set_option maxRecDepth 40000 in
theorem cb_218 : ceB 218 2 := ⟨by decide +kernel, by decide +kernel, by decide +kernel, by decide +kernel, mALL (in_t6 (i := 141) rfl) rfl, mALL (in_t1 (i := 11) rfl) rfl⟩
set_option maxRecDepth 40000 in
theorem cv_218 : ceV 218 := ⟨mALL (in_t6 (i := 140) rfl) rfl, mSEL (in_sel (i := 117) rfl) rfl⟩
set_option maxRecDepth 40000 in
theorem cb_219 : ceB 219 2 := ⟨by decide +kernel, by decide +kernel, by decide +kernel, by decide +kernel, mALL (in_t6 (i := 133) rfl) rfl, mALL (in_t1 (i := 11) rfl) rfl⟩
set_option maxRecDepth 40000 in
theorem cv_219 : ceV 219 := ⟨mALL (in_t6 (i := 131) rfl) rfl, mALL (in_t6 (i := 132) rfl) rfl⟩
set_option maxRecDepth 40000 in
theorem cb_220 : ceB 220 0 := ⟨by decide +kernel, by decide +kernel, by decide +kernel, by decide +kernel, mALL (in_t6 (i := 145) rfl) rfl, mALL (in_t1 (i := 11) rfl) rfl⟩
set_option maxRecDepth 40000 in
theorem cv_220 : ceV 220 := ⟨mALL (in_t6 (i := 143) rfl) rfl, mALL (in_t6 (i := 144) rfl) rfl⟩
set_option maxRecDepth 40000 in
theorem cb_221 : ceB 221 1 := ⟨by decide +kernel, by decide +kernel, by decide +kernel, by decide +kernel, mALL (in_t6 (i := 149) rfl) rfl, mALL (in_t1 (i := 11) rfl) rfl⟩
set_option maxRecDepth 40000 in
theorem cv_221 : ceV 221 := ⟨mALL (in_t6 (i := 148) rfl) rfl, mSEL (in_sel (i := 118) rfl) rfl⟩
set_option maxRecDepth 40000 in
theorem cb_222 : ceB 222 1 := ⟨by decide +kernel, by decide +kernel, by decide +kernel, by decide +kernel, mALL (in_t6 (i := 153) rfl) rfl, mALL (in_t1 (i := 11) rfl) rfl⟩
set_option maxRecDepth 40000 in
theorem cv_222 : ceV 222 := ⟨mALL (in_t6 (i := 152) rfl) rfl, mSEL (in_sel (i := 119) rfl) rfl⟩
set_option maxRecDepth 40000 in
theorem cb_223 : ceB 223 0 := ⟨by decide +kernel, by decide +kernel, by decide +kernel, by decide +kernel, mALL (in_t6 (i := 157) rfl) rfl, mALL (in_t1 (i := 11) rfl) rfl⟩
set_option maxRecDepth 40000 in
theorem cv_223 : ceV 223 := ⟨mALL (in_t6 (i := 155) rfl) rfl, mALL (in_t6 (i := 156) rfl) rfl⟩
set_option maxRecDepth 40000 in
theorem cb_224 : ceB 224 1 := ⟨by decide +kernel, by decide +kernel, by decide +kernel, by decide +kernel, mALL (in_t6 (i := 161) rfl) rfl, mALL (in_t1 (i := 11) rfl) rfl⟩
set_option maxRecDepth 40000 in
theorem cv_224 : ceV 224 := ⟨mALL (in_t6 (i := 159) rfl) rfl, mALL (in_t6 (i := 160) rfl) rfl⟩
set_option maxRecDepth 40000 in
theorem cb_225 : ceB 225 2 := ⟨by decide +kernel, by decide +kernel, by decide +kernel, by decide +kernel, mALL (in_t6 (i := 172) rfl) rfl, mALL (in_t1 (i := 11) rfl) rfl⟩
set_option maxRecDepth 40000 in
theorem cs_225 : ceS 225 := mALL (in_t6 (i := 171) rfl) rfl
set_option maxRecDepth 40000 in
theorem cb_226 : ceB 226 2 := ⟨by decide +kernel, by decide +kernel, by decide +kernel, by decide +kernel, mALL (in_t6 (i := 169) rfl) rfl, mALL (in_t1 (i := 11) rfl) rfl⟩
set_option maxRecDepth 40000 in
theorem cv_226 : ceV 226 := ⟨mALL (in_t6 (i := 168) rfl) rfl, mSEL (in_sel (i := 120) rfl) rfl⟩
set_option maxRecDepth 40000 in
theorem cb_227 : ceB 227 1 := ⟨by decide +kernel, by decide +kernel, by decide +kernel, by decide +kernel, mALL (in_t6 (i := 165) rfl) rfl, mALL (in_t1 (i := 11) rfl) rfl⟩
set_option maxRecDepth 40000 in
theorem cv_227 : ceV 227 := ⟨mALL (in_t6 (i := 163) rfl) rfl, mALL (in_t6 (i := 164) rfl) rfl⟩
set_option maxRecDepth 40000 in
theorem cb_228 : ceB 228 2 := ⟨by decide +kernel, by decide +kernel, by decide +kernel, by decide +kernel, mALL (in_t6 (i := 176) rfl) rfl, mALL (in_t1 (i := 11) rfl) rfl⟩
set_option maxRecDepth 40000 in
theorem cv_228 : ceV 228 := ⟨mALL (in_t6 (i := 174) rfl) rfl, mALL (in_t6 (i := 175) rfl) rfl⟩
set_option maxRecDepth 40000 in
theorem cb_229 : ceB 229 2 := ⟨by decide +kernel, by decide +kernel, by decide +kernel, by decide +kernel, mALL (in_t6 (i := 183) rfl) rfl, mALL (in_t1 (i := 11) rfl) rfl⟩
set_option maxRecDepth 40000 in
theorem cs_229 : ceS 229 := mALL (in_t6 (i := 182) rfl) rfl
set_option maxRecDepth 40000 in
theorem cb_230 : ceB 230 1 := ⟨by decide +kernel, by decide +kernel, by decide +kernel, by decide +kernel, mALL (in_t6 (i := 180) rfl) rfl, mALL (in_t1 (i := 11) rfl) rfl⟩
set_option maxRecDepth 40000 in
theorem cv_230 : ceV 230 := ⟨mALL (in_t6 (i := 178) rfl) rfl, mALL (in_t6 (i := 179) rfl) rfl⟩
set_option maxRecDepth 40000 in
theorem cb_231 : ceB 231 0 := ⟨by decide +kernel, by decide +kernel, by decide +kernel, by decide +kernel, mALL (in_t6 (i := 187) rfl) rfl, mALL (in_t1 (i := 11) rfl) rfl⟩
set_option maxRecDepth 40000 in
theorem cv_231 : ceV 231 := ⟨mALL (in_t6 (i := 185) rfl) rfl, mALL (in_t6 (i := 186) rfl) rfl⟩
set_option maxRecDepth 40000 in
theorem cb_232 : ceB 232 0 := ⟨by decide +kernel, by decide +kernel, by decide +kernel, by decide +kernel, mALL (in_t6 (i := 193) rfl) rfl, mALL (in_t1 (i := 11) rfl) rfl⟩
set_option maxRecDepth 40000 in
theorem cv_232 : ceV 232 := ⟨mALL (in_t6 (i := 191) rfl) rfl, mALL (in_t6 (i := 192) rfl) rfl⟩
set_option maxRecDepth 40000 in
theorem cb_233 : ceB 233 1 := ⟨by decide +kernel, by decide +kernel, by decide +kernel, by decide +kernel, mALL (in_t6 (i := 197) rfl) rfl, mALL (in_t1 (i := 11) rfl) rfl⟩
set_option maxRecDepth 40000 in
theorem cv_233 : ceV 233 := ⟨mALL (in_t6 (i := 195) rfl) rfl, mALL (in_t6 (i := 196) rfl) rfl⟩
set_option maxRecDepth 40000 in
theorem cb_234 : ceB 234 1 := ⟨by decide +kernel, by decide +kernel, by decide +kernel, by decide +kernel, mALL (in_t6 (i := 201) rfl) rfl, mALL (in_t1 (i := 11) rfl) rfl⟩
set_option maxRecDepth 40000 in
theorem cv_234 : ceV 234 := ⟨mALL (in_t6 (i := 199) rfl) rfl, mALL (in_t6 (i := 200) rfl) rfl⟩
set_option maxRecDepth 40000 in
theorem cb_235 : ceB 235 3 := ⟨by decide +kernel, by decide +kernel, by decide +kernel, by decide +kernel, mALL (in_t6 (i := 205) rfl) rfl, mALL (in_t1 (i := 11) rfl) rfl⟩
set_option maxRecDepth 40000 in
theorem cv_235 : ceV 235 := ⟨mALL (in_t6 (i := 203) rfl) rfl, mALL (in_t6 (i := 204) rfl) rfl⟩
set_option maxRecDepth 40000 in
theorem cb_236 : ceB 236 1 := ⟨by decide +kernel, by decide +kernel, by decide +kernel, by decide +kernel, mALL (in_t6 (i := 209) rfl) rfl, mALL (in_t1 (i := 11) rfl) rfl⟩
set_option maxRecDepth 40000 in
theorem cv_236 : ceV 236 := ⟨mALL (in_t6 (i := 207) rfl) rfl, mALL (in_t6 (i := 208) rfl) rfl⟩
set_option maxRecDepth 40000 in
theorem cb_237 : ceB 237 2 := ⟨by decide +kernel, by decide +kernel, by decide +kernel, by decide +kernel, mALL (in_t6 (i := 213) rfl) rfl, mALL (in_t1 (i := 11) rfl) rfl⟩
set_option maxRecDepth 40000 in
theorem cv_237 : ceV 237 := ⟨mALL (in_t6 (i := 211) rfl) rfl, mALL (in_t6 (i := 212) rfl) rfl⟩
set_option maxRecDepth 40000 in
theorem cb_238 : ceB 238 2 := ⟨by decide +kernel, by decide +kernel, by decide +kernel, by decide +kernel, mALL (in_t6 (i := 217) rfl) rfl, mALL (in_t1 (i := 11) rfl) rfl⟩
set_option maxRecDepth 40000 in
theorem cv_238 : ceV 238 := ⟨mALL (in_t6 (i := 215) rfl) rfl, mALL (in_t6 (i := 216) rfl) rfl⟩
set_option maxRecDepth 40000 in
theorem cb_239 : ceB 239 1 := ⟨by decide +kernel, by decide +kernel, by decide +kernel, by decide +kernel, mALL (in_t6 (i := 233) rfl) rfl, mALL (in_t1 (i := 11) rfl) rfl⟩
set_option maxRecDepth 40000 in
theorem cv_239 : ceV 239 := ⟨mALL (in_t6 (i := 232) rfl) rfl, mSEL (in_sel (i := 123) rfl) rfl⟩
set_option maxRecDepth 40000 in
theorem cb_240 : ceB 240 2 := ⟨by decide +kernel, by decide +kernel, by decide +kernel, by decide +kernel, mALL (in_t6 (i := 237) rfl) rfl, mALL (in_t1 (i := 11) rfl) rfl⟩
set_option maxRecDepth 40000 in
theorem cv_240 : ceV 240 := ⟨mALL (in_t6 (i := 236) rfl) rfl, mSEL (in_sel (i := 124) rfl) rfl⟩
set_option maxRecDepth 40000 in
theorem cb_241 : ceB 241 4 := ⟨by decide +kernel, by decide +kernel, by decide +kernel, by decide +kernel, mALL (in_t6 (i := 229) rfl) rfl, mALL (in_t1 (i := 11) rfl) rfl⟩
set_option maxRecDepth 40000 in
theorem cv_241 : ceV 241 := ⟨mALL (in_t6 (i := 228) rfl) rfl, mSEL (in_sel (i := 122) rfl) rfl⟩
set_option maxRecDepth 40000 in
theorem cb_242 : ceB 242 2 := ⟨by decide +kernel, by decide +kernel, by decide +kernel, by decide +kernel, mALL (in_t6 (i := 225) rfl) rfl, mALL (in_t1 (i := 11) rfl) rfl⟩
set_option maxRecDepth 40000 in
theorem cv_242 : ceV 242 := ⟨mALL (in_t6 (i := 224) rfl) rfl, mSEL (in_sel (i := 121) rfl) rfl⟩
set_option maxRecDepth 40000 in
theorem cb_243 : ceB 243 2 := ⟨by decide +kernel, by decide +kernel, by decide +kernel, by decide +kernel, mALL (in_t6 (i := 221) rfl) rfl, mALL (in_t1 (i := 11) rfl) rfl⟩
set_option maxRecDepth 40000 in
theorem cv_243 : ceV 243 := ⟨mALL (in_t6 (i := 219) rfl) rfl, mALL (in_t6 (i := 220) rfl) rfl⟩
set_option maxRecDepth 40000 in
theorem cb_244 : ceB 244 0 := ⟨by decide +kernel, by decide +kernel, by decide +kernel, by decide +kernel, mALL (in_t7 (i := 1) rfl) rfl, mALL (in_t1 (i := 11) rfl) rfl⟩
set_option maxRecDepth 40000 in
theorem cv_244 : ceV 244 := ⟨mALL (in_t6 (i := 239) rfl) rfl, mALL (in_t7 (i := 0) rfl) rfl⟩
set_option maxRecDepth 40000 in
theorem cb_245 : ceB 245 1 := ⟨by decide +kernel, by decide +kernel, by decide +kernel, by decide +kernel, mALL (in_t7 (i := 9) rfl) rfl, mALL (in_t1 (i := 11) rfl) rfl⟩
set_option maxRecDepth 40000 in
theorem cv_245 : ceV 245 := ⟨mALL (in_t7 (i := 8) rfl) rfl, mSEL (in_sel (i := 125) rfl) rfl⟩
set_option maxRecDepth 40000 in
theorem cb_246 : ceB 246 1 := ⟨by decide +kernel, by decide +kernel, by decide +kernel, by decide +kernel, mALL (in_t7 (i := 5) rfl) rfl, mALL (in_t1 (i := 11) rfl) rfl⟩
set_option maxRecDepth 40000 in
theorem cv_246 : ceV 246 := ⟨mALL (in_t7 (i := 3) rfl) rfl, mALL (in_t7 (i := 4) rfl) rfl⟩
set_option maxRecDepth 40000 in
theorem cb_247 : ceB 247 1 := ⟨by decide +kernel, by decide +kernel, by decide +kernel, by decide +kernel, mALL (in_t7 (i := 13) rfl) rfl, mALL (in_t1 (i := 11) rfl) rfl⟩
set_option maxRecDepth 40000 in
theorem cv_247 : ceV 247 := ⟨mALL (in_t7 (i := 11) rfl) rfl, mALL (in_t7 (i := 12) rfl) rfl⟩
set_option maxRecDepth 40000 in
theorem cb_248 : ceB 248 1 := ⟨by decide +kernel, by decide +kernel, by decide +kernel, by decide +kernel, mALL (in_t7 (i := 29) rfl) rfl, mALL (in_t1 (i := 11) rfl) rfl⟩
set_option maxRecDepth 40000 in
theorem cv_248 : ceV 248 := ⟨mALL (in_t7 (i := 28) rfl) rfl, mSEL (in_sel (i := 127) rfl) rfl⟩
set_option maxRecDepth 40000 in
theorem cb_249 : ceB 249 0 := ⟨by decide +kernel, by decide +kernel, by decide +kernel, by decide +kernel, mALL (in_t7 (i := 25) rfl) rfl, mALL (in_t1 (i := 11) rfl) rfl⟩
set_option maxRecDepth 40000 in
theorem cv_249 : ceV 249 := ⟨mALL (in_t7 (i := 23) rfl) rfl, mALL (in_t7 (i := 24) rfl) rfl⟩
set_option maxRecDepth 40000 in
theorem cb_250 : ceB 250 1 := ⟨by decide +kernel, by decide +kernel, by decide +kernel, by decide +kernel, mALL (in_t7 (i := 36) rfl) rfl, mALL (in_t1 (i := 11) rfl) rfl⟩
set_option maxRecDepth 40000 in
theorem cs_250 : ceS 250 := mALL (in_t7 (i := 35) rfl) rfl
set_option maxRecDepth 40000 in
theorem cb_251 : ceB 251 1 := ⟨by decide +kernel, by decide +kernel, by decide +kernel, by decide +kernel, mALL (in_t7 (i := 33) rfl) rfl, mALL (in_t1 (i := 11) rfl) rfl⟩
set_option maxRecDepth 40000 in
theorem cv_251 : ceV 251 := ⟨mALL (in_t7 (i := 31) rfl) rfl, mALL (in_t7 (i := 32) rfl) rfl⟩
set_option maxRecDepth 40000 in
theorem cb_252 : ceB 252 2 := ⟨by decide +kernel, by decide +kernel, by decide +kernel, by decide +kernel, mALL (in_t7 (i := 40) rfl) rfl, mALL (in_t1 (i := 11) rfl) rfl⟩
set_option maxRecDepth 40000 in
theorem cv_252 : ceV 252 := ⟨mALL (in_t7 (i := 38) rfl) rfl, mALL (in_t7 (i := 39) rfl) rfl⟩
set_option maxRecDepth 40000 in
theorem cb_253 : ceB 253 2 := ⟨by decide +kernel, by decide +kernel, by decide +kernel, by decide +kernel, mALL (in_t7 (i := 44) rfl) rfl, mALL (in_t1 (i := 11) rfl) rfl⟩
set_option maxRecDepth 40000 in
theorem cv_253 : ceV 253 := ⟨mALL (in_t7 (i := 42) rfl) rfl, mALL (in_t7 (i := 43) rfl) rfl⟩
set_option maxRecDepth 40000 in
theorem cb_254 : ceB 254 0 := ⟨by decide +kernel, by decide +kernel, by decide +kernel, by decide +kernel, mALL (in_t7 (i := 48) rfl) rfl, mALL (in_t1 (i := 11) rfl) rfl⟩
set_option maxRecDepth 40000 in
theorem cv_254 : ceV 254 := ⟨mALL (in_t7 (i := 46) rfl) rfl, mALL (in_t7 (i := 47) rfl) rfl⟩
set_option maxRecDepth 40000 in
theorem cb_255 : ceB 255 3 := ⟨by decide +kernel, by decide +kernel, by decide +kernel, by decide +kernel, mALL (in_t7 (i := 60) rfl) rfl, mALL (in_t1 (i := 11) rfl) rfl⟩
set_option maxRecDepth 40000 in
theorem cv_255 : ceV 255 := ⟨mALL (in_t7 (i := 59) rfl) rfl, mSEL (in_sel (i := 129) rfl) rfl⟩
set_option maxRecDepth 40000 in
theorem cb_256 : ceB 256 0 := ⟨by decide +kernel, by decide +kernel, by decide +kernel, by decide +kernel, mALL (in_t7 (i := 56) rfl) rfl, mALL (in_t1 (i := 11) rfl) rfl⟩
set_option maxRecDepth 40000 in
theorem cv_256 : ceV 256 := ⟨mALL (in_t7 (i := 55) rfl) rfl, mSEL (in_sel (i := 128) rfl) rfl⟩
set_option maxRecDepth 40000 in
theorem cb_257 : ceB 257 0 := ⟨by decide +kernel, by decide +kernel, by decide +kernel, by decide +kernel, mALL (in_t7 (i := 52) rfl) rfl, mALL (in_t1 (i := 11) rfl) rfl⟩
set_option maxRecDepth 40000 in
theorem cv_257 : ceV 257 := ⟨mALL (in_t7 (i := 50) rfl) rfl, mALL (in_t7 (i := 51) rfl) rfl⟩
set_option maxRecDepth 40000 in
theorem cb_258 : ceB 258 0 := ⟨by decide +kernel, by decide +kernel, by decide +kernel, by decide +kernel, mALL (in_t7 (i := 64) rfl) rfl, mALL (in_t1 (i := 11) rfl) rfl⟩
set_option maxRecDepth 40000 in
theorem cv_258 : ceV 258 := ⟨mALL (in_t7 (i := 62) rfl) rfl, mALL (in_t7 (i := 63) rfl) rfl⟩
set_option maxRecDepth 40000 in
theorem cb_259 : ceB 259 3 := ⟨by decide +kernel, by decide +kernel, by decide +kernel, by decide +kernel, mALL (in_t7 (i := 68) rfl) rfl, mALL (in_t1 (i := 11) rfl) rfl⟩
set_option maxRecDepth 40000 in
theorem cv_259 : ceV 259 := ⟨mALL (in_t7 (i := 66) rfl) rfl, mALL (in_t7 (i := 67) rfl) rfl⟩
set_option maxRecDepth 40000 in
theorem cb_260 : ceB 260 0 := ⟨by decide +kernel, by decide +kernel, by decide +kernel, by decide +kernel, mALL (in_t7 (i := 72) rfl) rfl, mALL (in_t1 (i := 11) rfl) rfl⟩
set_option maxRecDepth 40000 in
theorem cv_260 : ceV 260 := ⟨mALL (in_t7 (i := 70) rfl) rfl, mALL (in_t7 (i := 71) rfl) rfl⟩
set_option maxRecDepth 40000 in
theorem cb_261 : ceB 261 4 := ⟨by decide +kernel, by decide +kernel, by decide +kernel, by decide +kernel, mALL (in_t7 (i := 83) rfl) rfl, mALL (in_t1 (i := 11) rfl) rfl⟩
set_option maxRecDepth 40000 in
theorem cs_261 : ceS 261 := mALL (in_t7 (i := 82) rfl) rfl
set_option maxRecDepth 40000 in
theorem cb_262 : ceB 262 2 := ⟨by decide +kernel, by decide +kernel, by decide +kernel, by decide +kernel, mALL (in_t7 (i := 80) rfl) rfl, mALL (in_t1 (i := 11) rfl) rfl⟩
set_option maxRecDepth 40000 in
theorem cv_262 : ceV 262 := ⟨mALL (in_t7 (i := 79) rfl) rfl, mSEL (in_sel (i := 130) rfl) rfl⟩
set_option maxRecDepth 40000 in
theorem cb_263 : ceB 263 0 := ⟨by decide +kernel, by decide +kernel, by decide +kernel, by decide +kernel, mALL (in_t7 (i := 76) rfl) rfl, mALL (in_t1 (i := 11) rfl) rfl⟩
set_option maxRecDepth 40000 in
theorem cv_263 : ceV 263 := ⟨mALL (in_t7 (i := 74) rfl) rfl, mALL (in_t7 (i := 75) rfl) rfl⟩
set_option maxRecDepth 40000 in
theorem cb_264 : ceB 264 2 := ⟨by decide +kernel, by decide +kernel, by decide +kernel, by decide +kernel, mALL (in_t7 (i := 91) rfl) rfl, mALL (in_t1 (i := 11) rfl) rfl⟩
set_option maxRecDepth 40000 in
theorem cv_264 : ceV 264 := ⟨mALL (in_t7 (i := 90) rfl) rfl, mSEL (in_sel (i := 131) rfl) rfl⟩
set_option maxRecDepth 40000 in
theorem cb_265 : ceB 265 0 := ⟨by decide +kernel, by decide +kernel, by decide +kernel, by decide +kernel, mALL (in_t7 (i := 87) rfl) rfl, mALL (in_t1 (i := 11) rfl) rfl⟩
set_option maxRecDepth 40000 in
theorem cv_265 : ceV 265 := ⟨mALL (in_t7 (i := 85) rfl) rfl, mALL (in_t7 (i := 86) rfl) rfl⟩
set_option maxRecDepth 40000 in
theorem cb_266 : ceB 266 2 := ⟨by decide +kernel, by decide +kernel, by decide +kernel, by decide +kernel, mALL (in_t7 (i := 103) rfl) rfl, mALL (in_t1 (i := 11) rfl) rfl⟩
set_option maxRecDepth 40000 in
theorem cv_266 : ceV 266 := ⟨mALL (in_t7 (i := 102) rfl) rfl, mSEL (in_sel (i := 133) rfl) rfl⟩
set_option maxRecDepth 40000 in
theorem cb_267 : ceB 267 2 := ⟨by decide +kernel, by decide +kernel, by decide +kernel, by decide +kernel, mALL (in_t7 (i := 99) rfl) rfl, mALL (in_t1 (i := 11) rfl) rfl⟩
set_option maxRecDepth 40000 in
theorem cv_267 : ceV 267 := ⟨mALL (in_t7 (i := 98) rfl) rfl, mSEL (in_sel (i := 132) rfl) rfl⟩
set_option maxRecDepth 40000 in
theorem cb_268 : ceB 268 2 := ⟨by decide +kernel, by decide +kernel, by decide +kernel, by decide +kernel, mALL (in_t7 (i := 95) rfl) rfl, mALL (in_t1 (i := 11) rfl) rfl⟩
set_option maxRecDepth 40000 in
theorem cv_268 : ceV 268 := ⟨mALL (in_t7 (i := 93) rfl) rfl, mALL (in_t7 (i := 94) rfl) rfl⟩
set_option maxRecDepth 40000 in
theorem cb_269 : ceB 269 2 := ⟨by decide +kernel, by decide +kernel, by decide +kernel, by decide +kernel, mALL (in_t7 (i := 110) rfl) rfl, mALL (in_t1 (i := 11) rfl) rfl⟩
set_option maxRecDepth 40000 in
theorem cs_269 : ceS 269 := mALL (in_t7 (i := 109) rfl) rfl
set_option maxRecDepth 40000 in
theorem cb_270 : ceB 270 3 := ⟨by decide +kernel, by decide +kernel, by decide +kernel, by decide +kernel, mALL (in_t7 (i := 107) rfl) rfl, mALL (in_t1 (i := 11) rfl) rfl⟩
set_option maxRecDepth 40000 in
theorem cv_270 : ceV 270 := ⟨mALL (in_t7 (i := 105) rfl) rfl, mALL (in_t7 (i := 106) rfl) rfl⟩
set_option maxRecDepth 40000 in
theorem cb_271 : ceB 271 3 := ⟨by decide +kernel, by decide +kernel, by decide +kernel, by decide +kernel, mALL (in_t7 (i := 121) rfl) rfl, mALL (in_t1 (i := 11) rfl) rfl⟩
set_option maxRecDepth 40000 in
theorem cs_271 : ceS 271 := mALL (in_t7 (i := 120) rfl) rfl
set_option maxRecDepth 40000 in
theorem cb_272 : ceB 272 3 := ⟨by decide +kernel, by decide +kernel, by decide +kernel, by decide +kernel, mALL (in_t7 (i := 118) rfl) rfl, mALL (in_t1 (i := 11) rfl) rfl⟩
set_option maxRecDepth 40000 in
theorem cs_272 : ceS 272 := mALL (in_t7 (i := 117) rfl) rfl
set_option maxRecDepth 40000 in
theorem cb_273 : ceB 273 1 := ⟨by decide +kernel, by decide +kernel, by decide +kernel, by decide +kernel, mALL (in_t7 (i := 115) rfl) rfl, mALL (in_t1 (i := 11) rfl) rfl⟩
set_option maxRecDepth 40000 in
theorem cv_273 : ceV 273 := ⟨mALL (in_t7 (i := 113) rfl) rfl, mALL (in_t7 (i := 114) rfl) rfl⟩
set_option maxRecDepth 40000 in
theorem cb_274 : ceB 274 0 := ⟨by decide +kernel, by decide +kernel, by decide +kernel, by decide +kernel, mALL (in_t7 (i := 129) rfl) rfl, mALL (in_t1 (i := 11) rfl) rfl⟩
set_option maxRecDepth 40000 in
theorem cv_274 : ceV 274 := ⟨mALL (in_t7 (i := 128) rfl) rfl, mSEL (in_sel (i := 134) rfl) rfl⟩
set_option maxRecDepth 40000 in
theorem cb_275 : ceB 275 0 := ⟨by decide +kernel, by decide +kernel, by decide +kernel, by decide +kernel, mALL (in_t7 (i := 125) rfl) rfl, mALL (in_t1 (i := 11) rfl) rfl⟩
set_option maxRecDepth 40000 in
theorem cv_275 : ceV 275 := ⟨mALL (in_t7 (i := 123) rfl) rfl, mALL (in_t7 (i := 124) rfl) rfl⟩
set_option maxRecDepth 40000 in
theorem cb_276 : ceB 276 1 := ⟨by decide +kernel, by decide +kernel, by decide +kernel, by decide +kernel, mALL (in_t7 (i := 137) rfl) rfl, mALL (in_t1 (i := 11) rfl) rfl⟩
set_option maxRecDepth 40000 in
theorem cv_276 : ceV 276 := ⟨mALL (in_t7 (i := 136) rfl) rfl, mSEL (in_sel (i := 135) rfl) rfl⟩
set_option maxRecDepth 40000 in
theorem cb_277 : ceB 277 2 := ⟨by decide +kernel, by decide +kernel, by decide +kernel, by decide +kernel, mALL (in_t7 (i := 133) rfl) rfl, mALL (in_t1 (i := 11) rfl) rfl⟩
set_option maxRecDepth 40000 in
theorem cv_277 : ceV 277 := ⟨mALL (in_t7 (i := 131) rfl) rfl, mALL (in_t7 (i := 132) rfl) rfl⟩
set_option maxRecDepth 40000 in
theorem cb_278 : ceB 278 1 := ⟨by decide +kernel, by decide +kernel, by decide +kernel, by decide +kernel, mALL (in_t7 (i := 142) rfl) rfl, mALL (in_t1 (i := 11) rfl) rfl⟩
set_option maxRecDepth 40000 in
theorem cv_278 : ceV 278 := ⟨mALL (in_t7 (i := 140) rfl) rfl, mALL (in_t7 (i := 141) rfl) rfl⟩
set_option maxRecDepth 40000 in
theorem cb_279 : ceB 279 1 := ⟨by decide +kernel, by decide +kernel, by decide +kernel, by decide +kernel, mALL (in_t7 (i := 146) rfl) rfl, mALL (in_t1 (i := 11) rfl) rfl⟩
set_option maxRecDepth 40000 in
theorem cv_279 : ceV 279 := ⟨mALL (in_t7 (i := 144) rfl) rfl, mALL (in_t7 (i := 145) rfl) rfl⟩
set_option maxRecDepth 40000 in
theorem cb_280 : ceB 280 0 := ⟨by decide +kernel, by decide +kernel, by decide +kernel, by decide +kernel, mALL (in_t7 (i := 154) rfl) rfl, mALL (in_t1 (i := 11) rfl) rfl⟩
set_option maxRecDepth 40000 in
theorem cv_280 : ceV 280 := ⟨mALL (in_t7 (i := 153) rfl) rfl, mSEL (in_sel (i := 136) rfl) rfl⟩
set_option maxRecDepth 40000 in
theorem cb_281 : ceB 281 0 := ⟨by decide +kernel, by decide +kernel, by decide +kernel, by decide +kernel, mALL (in_t7 (i := 158) rfl) rfl, mALL (in_t1 (i := 11) rfl) rfl⟩
set_option maxRecDepth 40000 in
theorem cv_281 : ceV 281 := ⟨mALL (in_t7 (i := 157) rfl) rfl, mSEL (in_sel (i := 137) rfl) rfl⟩
set_option maxRecDepth 40000 in
theorem cb_282 : ceB 282 1 := ⟨by decide +kernel, by decide +kernel, by decide +kernel, by decide +kernel, mALL (in_t7 (i := 150) rfl) rfl, mALL (in_t1 (i := 11) rfl) rfl⟩
set_option maxRecDepth 40000 in
theorem cv_282 : ceV 282 := ⟨mALL (in_t7 (i := 148) rfl) rfl, mALL (in_t7 (i := 149) rfl) rfl⟩
set_option maxRecDepth 40000 in
theorem cb_283 : ceB 283 1 := ⟨by decide +kernel, by decide +kernel, by decide +kernel, by decide +kernel, mALL (in_t7 (i := 162) rfl) rfl, mALL (in_t1 (i := 11) rfl) rfl⟩
set_option maxRecDepth 40000 in
theorem cv_283 : ceV 283 := ⟨mALL (in_t7 (i := 160) rfl) rfl, mALL (in_t7 (i := 161) rfl) rfl⟩
set_option maxRecDepth 40000 in
theorem cb_284 : ceB 284 2 := ⟨by decide +kernel, by decide +kernel, by decide +kernel, by decide +kernel, mALL (in_t6 (i := 77) rfl) rfl, mALL (in_t1 (i := 17) rfl) rfl⟩
set_option maxRecDepth 40000 in
theorem cs_284 : ceS 284 := mALL (in_t6 (i := 76) rfl) rfl
set_option maxRecDepth 40000 in
theorem cb_285 : ceB 285 1 := ⟨by decide +kernel, by decide +kernel, by decide +kernel, by decide +kernel, mALL (in_t3 (i := 238) rfl) rfl, mALL (in_t1 (i := 17) rfl) rfl⟩
set_option maxRecDepth 40000 in
theorem cs_285 : ceS 285 := mALL (in_t3 (i := 237) rfl) rfl
set_option maxRecDepth 40000 in
theorem cb_286 : ceB 286 2 := ⟨by decide +kernel, by decide +kernel, by decide +kernel, by decide +kernel, mALL (in_t3 (i := 16) rfl) rfl, mALL (in_t1 (i := 10) rfl) rfl⟩
set_option maxRecDepth 40000 in
theorem cs_286 : ceS 286 := mALL (in_t3 (i := 15) rfl) rfl
set_option maxRecDepth 40000 in
theorem cb_287 : ceB 287 1 := ⟨by decide +kernel, by decide +kernel, by decide +kernel, by decide +kernel, mALL (in_t3 (i := 132) rfl) rfl, mALL (in_t1 (i := 10) rfl) rfl⟩
set_option maxRecDepth 40000 in
theorem cs_287 : ceS 287 := mALL (in_t3 (i := 131) rfl) rfl
set_option maxRecDepth 40000 in
theorem cb_288 : ceB 288 2 := ⟨by decide +kernel, by decide +kernel, by decide +kernel, by decide +kernel, mALL (in_t2 (i := 184) rfl) rfl, mALL (in_t1 (i := 10) rfl) rfl⟩
set_option maxRecDepth 40000 in
theorem cs_288 : ceS 288 := mALL (in_t2 (i := 183) rfl) rfl
set_option maxRecDepth 40000 in
theorem cb_289 : ceB 289 2 := ⟨by decide +kernel, by decide +kernel, by decide +kernel, by decide +kernel, mALL (in_t1 (i := 222) rfl) rfl, mALL (in_t1 (i := 10) rfl) rfl⟩
set_option maxRecDepth 40000 in
theorem cs_289 : ceS 289 := mALL (in_t1 (i := 221) rfl) rfl
-- no code word of ('StruckColoursLaw', 'ship', '(LStruckColours;II[J)I')
-- no code word of ('StruckColoursLaw', 'row', '(LStruckColours;I[J)I')
set_option maxRecDepth 40000 in
theorem ca_0_13 : cOK (0, 13, 2, 2, 2) := callOk_of cb_2 (Or.inr (Or.inl ⟨Or.inl rfl, cs_2⟩)) (Or.inl ⟨rfl, mALL (in_t4 (i := 91) rfl) rfl⟩)
set_option maxRecDepth 40000 in
theorem ca_0_26 : cOK (0, 26, 8, 1, 1) := callOk_of cb_8 (Or.inl ⟨Or.inr rfl, cv_8⟩) (Or.inr ⟨rfl, in_t4 (i := 94) rfl⟩)
set_option maxRecDepth 40000 in
theorem ca_0_30 : cOK (0, 30, 9, 1, 1) := callOk_of cb_9 (Or.inl ⟨Or.inr rfl, cv_9⟩) (Or.inr ⟨rfl, in_t4 (i := 95) rfl⟩)
set_option maxRecDepth 40000 in
theorem ca_0_33 : cOK (0, 33, 4, 3, 2) := callOk_of cb_4 (Or.inr (Or.inl ⟨Or.inl rfl, cs_4⟩)) (Or.inl ⟨rfl, mALL (in_t4 (i := 96) rfl) rfl⟩)
set_option maxRecDepth 40000 in
theorem ca_0_37 : cOK (0, 37, 10, 1, 1) := callOk_of cb_10 (Or.inl ⟨Or.inr rfl, cv_10⟩) (Or.inr ⟨rfl, in_t4 (i := 99) rfl⟩)
set_option maxRecDepth 40000 in
theorem ca_2_17 : cOK (2, 17, 39, 0, 5) := callOk_of cb_39 (Or.inr (Or.inr ⟨Or.inr rfl, ci_39⟩)) (Or.inr ⟨rfl, in_t1 (i := 105) rfl⟩)
set_option maxRecDepth 40000 in
theorem ca_2_25 : cOK (2, 25, 286, 2, 2) := callOk_of cb_286 (Or.inr (Or.inl ⟨Or.inl rfl, cs_286⟩)) (Or.inl ⟨rfl, mALL (in_t3 (i := 14) rfl) rfl⟩)
set_option maxRecDepth 40000 in
theorem ca_2_31 : cOK (2, 31, 13, 1, 0) := callOk_of cb_13 (Or.inl ⟨Or.inl rfl, cv_13⟩) (Or.inl ⟨rfl, mALL (in_t3 (i := 10) rfl) rfl⟩)
set_option maxRecDepth 40000 in
theorem ca_2_35 : cOK (2, 35, 40, 1, 1) := callOk_of cb_40 (Or.inl ⟨Or.inr rfl, cv_40⟩) (Or.inr ⟨rfl, in_t3 (i := 17) rfl⟩)
set_option maxRecDepth 40000 in
theorem ca_3_17 : cOK (3, 17, 20, 2, 2) := callOk_of cb_20 (Or.inr (Or.inl ⟨Or.inl rfl, cs_20⟩)) (Or.inl ⟨rfl, mALL (in_t3 (i := 104) rfl) rfl⟩)
set_option maxRecDepth 40000 in
theorem ca_3_21 : cOK (3, 21, 18, 1, 0) := callOk_of cb_18 (Or.inl ⟨Or.inl rfl, cv_18⟩) (Or.inl ⟨rfl, mALL (in_t3 (i := 107) rfl) rfl⟩)
set_option maxRecDepth 40000 in
theorem ca_3_25 : cOK (3, 25, 21, 1, 0) := callOk_of cb_21 (Or.inl ⟨Or.inl rfl, cv_21⟩) (Or.inl ⟨rfl, mALL (in_t5 (i := 46) rfl) rfl⟩)
set_option maxRecDepth 40000 in
theorem ca_4_42 : cOK (4, 42, 289, 2, 2) := callOk_of cb_289 (Or.inr (Or.inl ⟨Or.inl rfl, cs_289⟩)) (Or.inl ⟨rfl, mALL (in_t1 (i := 220) rfl) rfl⟩)
set_option maxRecDepth 40000 in
theorem ca_4_48 : cOK (4, 48, 25, 1, 0) := callOk_of cb_25 (Or.inl ⟨Or.inl rfl, cv_25⟩) (Or.inl ⟨rfl, mALL (in_t1 (i := 223) rfl) rfl⟩)
set_option maxRecDepth 40000 in
theorem ca_4_52 : cOK (4, 52, 26, 1, 0) := callOk_of cb_26 (Or.inl ⟨Or.inl rfl, cv_26⟩) (Or.inl ⟨rfl, mALL (in_t2 (i := 1) rfl) rfl⟩)
set_option maxRecDepth 40000 in
theorem ca_4_55 : cOK (4, 55, 33, 1, 0) := callOk_of cb_33 (Or.inl ⟨Or.inl rfl, cv_33⟩) (Or.inl ⟨rfl, mALL (in_t2 (i := 13) rfl) rfl⟩)
set_option maxRecDepth 40000 in
theorem ca_4_59 : cOK (4, 59, 142, 1, 3) := callOk_of cb_142 (Or.inr (Or.inl ⟨Or.inr rfl, cs_142⟩)) (Or.inr ⟨rfl, in_t1 (i := 227) rfl⟩)
set_option maxRecDepth 40000 in
theorem ca_4_62 : cOK (4, 62, 31, 1, 0) := callOk_of cb_31 (Or.inl ⟨Or.inl rfl, cv_31⟩) (Or.inl ⟨rfl, mALL (in_t1 (i := 230) rfl) rfl⟩)
set_option maxRecDepth 40000 in
theorem ca_4_65 : cOK (4, 65, 29, 1, 2) := callOk_of cb_29 (Or.inr (Or.inl ⟨Or.inl rfl, cs_29⟩)) (Or.inl ⟨rfl, mALL (in_t1 (i := 234) rfl) rfl⟩)
set_option maxRecDepth 40000 in
theorem ca_4_68 : cOK (4, 68, 32, 1, 0) := callOk_of cb_32 (Or.inl ⟨Or.inl rfl, cv_32⟩) (Or.inl ⟨rfl, mALL (in_t1 (i := 237) rfl) rfl⟩)
set_option maxRecDepth 40000 in
theorem ca_4_72 : cOK (4, 72, 27, 1, 0) := callOk_of cb_27 (Or.inl ⟨Or.inl rfl, cv_27⟩) (Or.inl ⟨rfl, mALL (in_t2 (i := 5) rfl) rfl⟩)
set_option maxRecDepth 40000 in
theorem ca_4_76 : cOK (4, 76, 28, 0, 0) := callOk_of cb_28 (Or.inl ⟨Or.inl rfl, cv_28⟩) (Or.inl ⟨rfl, mALL (in_t2 (i := 9) rfl) rfl⟩)
set_option maxRecDepth 40000 in
theorem ca_4_80 : cOK (4, 80, 30, 1, 2) := callOk_of cb_30 (Or.inr (Or.inl ⟨Or.inl rfl, cs_30⟩)) (Or.inl ⟨rfl, mALL (in_t2 (i := 17) rfl) rfl⟩)
set_option maxRecDepth 40000 in
theorem ca_4_84 : cOK (4, 84, 35, 2, 0) := callOk_of cb_35 (Or.inl ⟨Or.inl rfl, cv_35⟩) (Or.inl ⟨rfl, mALL (in_t2 (i := 148) rfl) rfl⟩)
set_option maxRecDepth 40000 in
theorem ca_4_87 : cOK (4, 87, 38, 4, 2) := callOk_of cb_38 (Or.inr (Or.inl ⟨Or.inl rfl, cs_38⟩)) (Or.inl ⟨rfl, mALL (in_t2 (i := 152) rfl) rfl⟩)
set_option maxRecDepth 40000 in
theorem ca_4_91 : cOK (4, 91, 36, 2, 0) := callOk_of cb_36 (Or.inl ⟨Or.inl rfl, cv_36⟩) (Or.inl ⟨rfl, mALL (in_t2 (i := 175) rfl) rfl⟩)
set_option maxRecDepth 40000 in
theorem ca_4_94 : cOK (4, 94, 37, 3, 2) := callOk_of cb_37 (Or.inr (Or.inl ⟨Or.inl rfl, cs_37⟩)) (Or.inl ⟨rfl, mALL (in_t2 (i := 179) rfl) rfl⟩)
set_option maxRecDepth 40000 in
theorem ca_4_98 : cOK (4, 98, 44, 1, 1) := callOk_of cb_44 (Or.inl ⟨Or.inr rfl, cv_44⟩) (Or.inr ⟨rfl, in_t2 (i := 155) rfl⟩)
set_option maxRecDepth 40000 in
theorem ca_4_104 : cOK (4, 104, 45, 1, 1) := callOk_of cb_45 (Or.inl ⟨Or.inr rfl, cv_45⟩) (Or.inr ⟨rfl, in_t2 (i := 159) rfl⟩)
set_option maxRecDepth 40000 in
theorem ca_4_107 : cOK (4, 107, 48, 2, 1) := callOk_of cb_48 (Or.inl ⟨Or.inr rfl, cv_48⟩) (Or.inr ⟨rfl, in_t2 (i := 163) rfl⟩)
set_option maxRecDepth 40000 in
theorem ca_4_110 : cOK (4, 110, 46, 1, 1) := callOk_of cb_46 (Or.inl ⟨Or.inr rfl, cv_46⟩) (Or.inr ⟨rfl, in_t2 (i := 167) rfl⟩)
set_option maxRecDepth 40000 in
theorem ca_4_113 : cOK (4, 113, 47, 1, 1) := callOk_of cb_47 (Or.inl ⟨Or.inr rfl, cv_47⟩) (Or.inr ⟨rfl, in_t2 (i := 171) rfl⟩)
set_option maxRecDepth 40000 in
theorem ca_5_46 : cOK (5, 46, 41, 1, 0) := callOk_of cb_41 (Or.inl ⟨Or.inl rfl, cv_41⟩) (Or.inl ⟨rfl, mALL (in_t2 (i := 120) rfl) rfl⟩)
set_option maxRecDepth 40000 in
theorem ca_5_50 : cOK (5, 50, 144, 1, 3) := callOk_of cb_144 (Or.inr (Or.inl ⟨Or.inr rfl, cs_144⟩)) (Or.inr ⟨rfl, in_t2 (i := 113) rfl⟩)
set_option maxRecDepth 40000 in
theorem ca_5_53 : cOK (5, 53, 45, 1, 0) := callOk_of cb_45 (Or.inl ⟨Or.inl rfl, cv_45⟩) (Or.inl ⟨rfl, mALL (in_t2 (i := 231) rfl) rfl⟩)
set_option maxRecDepth 40000 in
theorem ca_5_57 : cOK (5, 57, 48, 2, 0) := callOk_of cb_48 (Or.inl ⟨Or.inl rfl, cv_48⟩) (Or.inl ⟨rfl, mALL (in_t2 (i := 237) rfl) rfl⟩)
set_option maxRecDepth 40000 in
theorem ca_5_61 : cOK (5, 61, 51, 1, 0) := callOk_of cb_51 (Or.inl ⟨Or.inl rfl, cv_51⟩) (Or.inl ⟨rfl, mALL (in_t2 (i := 206) rfl) rfl⟩)
set_option maxRecDepth 40000 in
theorem ca_5_64 : cOK (5, 64, 44, 1, 0) := callOk_of cb_44 (Or.inl ⟨Or.inl rfl, cv_44⟩) (Or.inl ⟨rfl, mALL (in_t2 (i := 210) rfl) rfl⟩)
set_option maxRecDepth 40000 in
theorem ca_5_67 : cOK (5, 67, 53, 2, 0) := callOk_of cb_53 (Or.inl ⟨Or.inl rfl, cv_53⟩) (Or.inl ⟨rfl, mALL (in_t3 (i := 39) rfl) rfl⟩)
set_option maxRecDepth 40000 in
theorem ca_5_70 : cOK (5, 70, 46, 1, 0) := callOk_of cb_46 (Or.inl ⟨Or.inl rfl, cv_46⟩) (Or.inl ⟨rfl, mALL (in_t4 (i := 162) rfl) rfl⟩)
set_option maxRecDepth 40000 in
theorem ca_5_73 : cOK (5, 73, 47, 1, 0) := callOk_of cb_47 (Or.inl ⟨Or.inl rfl, cv_47⟩) (Or.inl ⟨rfl, mALL (in_t4 (i := 183) rfl) rfl⟩)
set_option maxRecDepth 40000 in
theorem ca_5_76 : cOK (5, 76, 287, 1, 2) := callOk_of cb_287 (Or.inr (Or.inl ⟨Or.inl rfl, cs_287⟩)) (Or.inl ⟨rfl, mALL (in_t3 (i := 130) rfl) rfl⟩)
set_option maxRecDepth 40000 in
theorem ca_5_81 : cOK (5, 81, 58, 2, 0) := callOk_of cb_58 (Or.inl ⟨Or.inl rfl, cv_58⟩) (Or.inl ⟨rfl, mALL (in_t2 (i := 116) rfl) rfl⟩)
set_option maxRecDepth 40000 in
theorem ca_5_85 : cOK (5, 85, 289, 2, 2) := callOk_of cb_289 (Or.inr (Or.inl ⟨Or.inl rfl, cs_289⟩)) (Or.inl ⟨rfl, mALL (in_t2 (i := 200) rfl) rfl⟩)
set_option maxRecDepth 40000 in
theorem ca_5_88 : cOK (5, 88, 288, 2, 2) := callOk_of cb_288 (Or.inr (Or.inl ⟨Or.inl rfl, cs_288⟩)) (Or.inl ⟨rfl, mALL (in_t2 (i := 201) rfl) rfl⟩)
set_option maxRecDepth 40000 in
theorem ca_5_91 : cOK (5, 91, 42, 2, 0) := callOk_of cb_42 (Or.inl ⟨Or.inl rfl, cv_42⟩) (Or.inl ⟨rfl, mALL (in_t2 (i := 230) rfl) rfl⟩)
set_option maxRecDepth 40000 in
theorem ca_5_95 : cOK (5, 95, 34, 3, 1) := callOk_of cb_34 (Or.inl ⟨Or.inr rfl, cv_34⟩) (Or.inr ⟨rfl, in_t2 (i := 232) rfl⟩)
set_option maxRecDepth 40000 in
theorem ca_5_101 : cOK (5, 101, 62, 3, 0) := callOk_of cb_62 (Or.inl ⟨Or.inl rfl, cv_62⟩) (Or.inl ⟨rfl, mALL (in_t2 (i := 226) rfl) rfl⟩)
set_option maxRecDepth 40000 in
theorem ca_5_105 : cOK (5, 105, 64, 3, 0) := callOk_of cb_64 (Or.inl ⟨Or.inl rfl, cv_64⟩) (Or.inl ⟨rfl, mALL (in_t2 (i := 233) rfl) rfl⟩)
set_option maxRecDepth 40000 in
theorem ca_5_109 : cOK (5, 109, 60, 4, 0) := callOk_of cb_60 (Or.inl ⟨Or.inl rfl, cv_60⟩) (Or.inl ⟨rfl, mALL (in_t2 (i := 238) rfl) rfl⟩)
set_option maxRecDepth 40000 in
theorem ca_5_113 : cOK (5, 113, 61, 1, 0) := callOk_of cb_61 (Or.inl ⟨Or.inl rfl, cv_61⟩) (Or.inl ⟨rfl, mALL (in_t3 (i := 2) rfl) rfl⟩)
set_option maxRecDepth 40000 in
theorem ca_5_117 : cOK (5, 117, 59, 2, 0) := callOk_of cb_59 (Or.inl ⟨Or.inl rfl, cv_59⟩) (Or.inl ⟨rfl, mALL (in_t3 (i := 26) rfl) rfl⟩)
set_option maxRecDepth 40000 in
theorem ca_5_120 : cOK (5, 120, 66, 1, 0) := callOk_of cb_66 (Or.inl ⟨Or.inl rfl, cv_66⟩) (Or.inl ⟨rfl, mALL (in_t3 (i := 27) rfl) rfl⟩)
set_option maxRecDepth 40000 in
theorem ca_6_21 : cOK (6, 21, 39, 0, 5) := callOk_of cb_39 (Or.inr (Or.inr ⟨Or.inr rfl, ci_39⟩)) (Or.inr ⟨rfl, in_t1 (i := 124) rfl⟩)
set_option maxRecDepth 40000 in
theorem ca_6_36 : cOK (6, 36, 72, 1, 0) := callOk_of cb_72 (Or.inl ⟨Or.inl rfl, cv_72⟩) (Or.inl ⟨rfl, mALL (in_t3 (i := 178) rfl) rfl⟩)
set_option maxRecDepth 40000 in
theorem ca_6_40 : cOK (6, 40, 40, 1, 1) := callOk_of cb_40 (Or.inl ⟨Or.inr rfl, cv_40⟩) (Or.inr ⟨rfl, in_t3 (i := 182) rfl⟩)
set_option maxRecDepth 40000 in
theorem ca_6_44 : cOK (6, 44, 74, 2, 0) := callOk_of cb_74 (Or.inl ⟨Or.inl rfl, cv_74⟩) (Or.inl ⟨rfl, mALL (in_t3 (i := 183) rfl) rfl⟩)
set_option maxRecDepth 40000 in
theorem ca_6_48 : cOK (6, 48, 75, 1, 0) := callOk_of cb_75 (Or.inl ⟨Or.inl rfl, cv_75⟩) (Or.inl ⟨rfl, mALL (in_t3 (i := 187) rfl) rfl⟩)
set_option maxRecDepth 40000 in
theorem ca_6_52 : cOK (6, 52, 76, 2, 0) := callOk_of cb_76 (Or.inl ⟨Or.inl rfl, cv_76⟩) (Or.inl ⟨rfl, mALL (in_t3 (i := 196) rfl) rfl⟩)
set_option maxRecDepth 40000 in
theorem ca_6_59 : cOK (6, 59, 77, 3, 0) := callOk_of cb_77 (Or.inl ⟨Or.inl rfl, cv_77⟩) (Or.inl ⟨rfl, mALL (in_t3 (i := 201) rfl) rfl⟩)
set_option maxRecDepth 40000 in
theorem ca_6_63 : cOK (6, 63, 62, 3, 1) := callOk_of cb_62 (Or.inl ⟨Or.inr rfl, cv_62⟩) (Or.inr ⟨rfl, in_t3 (i := 205) rfl⟩)
set_option maxRecDepth 40000 in
theorem ca_6_67 : cOK (6, 67, 78, 3, 0) := callOk_of cb_78 (Or.inl ⟨Or.inl rfl, cv_78⟩) (Or.inl ⟨rfl, mALL (in_t3 (i := 206) rfl) rfl⟩)
set_option maxRecDepth 40000 in
theorem ca_6_70 : cOK (6, 70, 79, 1, 2) := callOk_of cb_79 (Or.inr (Or.inl ⟨Or.inl rfl, cs_79⟩)) (Or.inl ⟨rfl, mALL (in_t3 (i := 191) rfl) rfl⟩)
set_option maxRecDepth 40000 in
theorem ca_6_74 : cOK (6, 74, 45, 1, 1) := callOk_of cb_45 (Or.inl ⟨Or.inr rfl, cv_45⟩) (Or.inr ⟨rfl, in_t3 (i := 194) rfl⟩)
set_option maxRecDepth 40000 in
theorem ca_6_78 : cOK (6, 78, 48, 2, 1) := callOk_of cb_48 (Or.inl ⟨Or.inr rfl, cv_48⟩) (Or.inr ⟨rfl, in_t3 (i := 200) rfl⟩)
set_option maxRecDepth 40000 in
theorem ca_6_82 : cOK (6, 82, 64, 3, 1) := callOk_of cb_64 (Or.inl ⟨Or.inr rfl, cv_64⟩) (Or.inr ⟨rfl, in_t3 (i := 210) rfl⟩)
set_option maxRecDepth 40000 in
theorem ca_6_86 : cOK (6, 86, 289, 2, 2) := callOk_of cb_289 (Or.inr (Or.inl ⟨Or.inl rfl, cs_289⟩)) (Or.inl ⟨rfl, mALL (in_t3 (i := 211) rfl) rfl⟩)
set_option maxRecDepth 40000 in
theorem ca_6_91 : cOK (6, 91, 288, 2, 2) := callOk_of cb_288 (Or.inr (Or.inl ⟨Or.inl rfl, cs_288⟩)) (Or.inl ⟨rfl, mALL (in_t3 (i := 195) rfl) rfl⟩)
set_option maxRecDepth 40000 in
theorem ca_8_9 : cOK (8, 9, 80, 0, 5) := callOk_of cb_80 (Or.inr (Or.inr ⟨Or.inr rfl, ci_80⟩)) (Or.inr ⟨rfl, in_t1 (i := 28) rfl⟩)
set_option maxRecDepth 40000 in
theorem ca_8_18 : cOK (8, 18, 16, 0, 5) := callOk_of cb_16 (Or.inr (Or.inr ⟨Or.inr rfl, ci_16⟩)) (Or.inr ⟨rfl, in_t1 (i := 44) rfl⟩)
set_option maxRecDepth 40000 in
theorem ca_8_25 : cOK (8, 25, 39, 0, 5) := callOk_of cb_39 (Or.inr (Or.inr ⟨Or.inr rfl, ci_39⟩)) (Or.inr ⟨rfl, in_t1 (i := 59) rfl⟩)
set_option maxRecDepth 40000 in
theorem ca_8_38 : cOK (8, 38, 11, 0, 5) := callOk_of cb_11 (Or.inr (Or.inr ⟨Or.inr rfl, ci_11⟩)) (Or.inr ⟨rfl, in_t1 (i := 99) rfl⟩)
set_option maxRecDepth 40000 in
theorem ca_8_51 : cOK (8, 51, 69, 0, 5) := callOk_of cb_69 (Or.inr (Or.inr ⟨Or.inr rfl, ci_69⟩)) (Or.inr ⟨rfl, in_t1 (i := 119) rfl⟩)
set_option maxRecDepth 40000 in
theorem ca_8_58 : cOK (8, 58, 5, 0, 5) := callOk_of cb_5 (Or.inr (Or.inr ⟨Or.inr rfl, ci_5⟩)) (Or.inr ⟨rfl, in_t1 (i := 146) rfl⟩)
set_option maxRecDepth 40000 in
theorem ca_8_68 : cOK (8, 68, 0, 0, 5) := callOk_of cb_0 (Or.inr (Or.inr ⟨Or.inr rfl, ci_0⟩)) (Or.inr ⟨rfl, in_t1 (i := 167) rfl⟩)
set_option maxRecDepth 40000 in
theorem ca_8_75 : cOK (8, 75, 23, 0, 5) := callOk_of cb_23 (Or.inr (Or.inr ⟨Or.inr rfl, ci_23⟩)) (Or.inr ⟨rfl, in_t1 (i := 182) rfl⟩)
set_option maxRecDepth 40000 in
theorem ca_8_91 : cOK (8, 91, 24, 2, 1) := callOk_of cb_24 (Or.inl ⟨Or.inr rfl, cv_24⟩) (Or.inr ⟨rfl, in_t1 (i := 216) rfl⟩)
set_option maxRecDepth 40000 in
theorem ca_8_98 : cOK (8, 98, 81, 1, 1) := callOk_of cb_81 (Or.inl ⟨Or.inr rfl, cv_81⟩) (Or.inr ⟨rfl, in_t2 (i := 76) rfl⟩)
set_option maxRecDepth 40000 in
theorem ca_8_102 : cOK (8, 102, 83, 0, 1) := callOk_of cb_83 (Or.inl ⟨Or.inr rfl, cv_83⟩) (Or.inr ⟨rfl, in_t2 (i := 88) rfl⟩)
set_option maxRecDepth 40000 in
theorem ca_8_106 : cOK (8, 106, 135, 1, 0) := callOk_of cb_135 (Or.inl ⟨Or.inl rfl, cv_135⟩) (Or.inl ⟨rfl, mALL (in_t2 (i := 92) rfl) rfl⟩)
set_option maxRecDepth 40000 in
theorem ca_8_110 : cOK (8, 110, 82, 1, 1) := callOk_of cb_82 (Or.inl ⟨Or.inr rfl, cv_82⟩) (Or.inr ⟨rfl, in_t2 (i := 101) rfl⟩)
set_option maxRecDepth 40000 in
theorem ca_8_114 : cOK (8, 114, 57, 2, 1) := callOk_of cb_57 (Or.inl ⟨Or.inr rfl, cv_57⟩) (Or.inr ⟨rfl, in_t2 (i := 109) rfl⟩)
set_option maxRecDepth 40000 in
theorem ca_8_118 : cOK (8, 118, 12, 0, 1) := callOk_of cb_12 (Or.inl ⟨Or.inr rfl, cv_12⟩) (Or.inr ⟨rfl, in_t2 (i := 124) rfl⟩)
set_option maxRecDepth 40000 in
theorem ca_8_124 : cOK (8, 124, 137, 0, 0) := callOk_of cb_137 (Or.inl ⟨Or.inl rfl, cv_137⟩) (Or.inl ⟨rfl, mALL (in_t2 (i := 132) rfl) rfl⟩)
set_option maxRecDepth 40000 in
theorem ca_8_127 : cOK (8, 127, 41, 1, 1) := callOk_of cb_41 (Or.inl ⟨Or.inr rfl, cv_41⟩) (Or.inr ⟨rfl, in_t3 (i := 112) rfl⟩)
set_option maxRecDepth 40000 in
theorem ca_8_138 : cOK (8, 138, 43, 1, 1) := callOk_of cb_43 (Or.inl ⟨Or.inr rfl, cv_43⟩) (Or.inr ⟨rfl, in_t5 (i := 26) rfl⟩)
set_option maxRecDepth 40000 in
theorem ca_8_141 : cOK (8, 141, 44, 1, 1) := callOk_of cb_44 (Or.inl ⟨Or.inr rfl, cv_44⟩) (Or.inr ⟨rfl, in_t3 (i := 95) rfl⟩)
set_option maxRecDepth 40000 in
theorem ca_8_144 : cOK (8, 144, 45, 1, 1) := callOk_of cb_45 (Or.inl ⟨Or.inr rfl, cv_45⟩) (Or.inr ⟨rfl, in_t3 (i := 94) rfl⟩)
set_option maxRecDepth 40000 in
theorem ca_8_147 : cOK (8, 147, 46, 1, 1) := callOk_of cb_46 (Or.inl ⟨Or.inr rfl, cv_46⟩) (Or.inr ⟨rfl, in_t4 (i := 65) rfl⟩)
set_option maxRecDepth 40000 in
theorem ca_8_150 : cOK (8, 150, 47, 1, 1) := callOk_of cb_47 (Or.inl ⟨Or.inr rfl, cv_47⟩) (Or.inr ⟨rfl, in_t4 (i := 66) rfl⟩)
set_option maxRecDepth 40000 in
theorem ca_8_153 : cOK (8, 153, 48, 2, 1) := callOk_of cb_48 (Or.inl ⟨Or.inr rfl, cv_48⟩) (Or.inr ⟨rfl, in_t3 (i := 113) rfl⟩)
set_option maxRecDepth 40000 in
theorem ca_8_157 : cOK (8, 157, 42, 2, 1) := callOk_of cb_42 (Or.inl ⟨Or.inr rfl, cv_42⟩) (Or.inr ⟨rfl, in_t2 (i := 140) rfl⟩)
set_option maxRecDepth 40000 in
theorem ca_8_161 : cOK (8, 161, 34, 3, 1) := callOk_of cb_34 (Or.inl ⟨Or.inr rfl, cv_34⟩) (Or.inr ⟨rfl, in_t2 (i := 144) rfl⟩)
set_option maxRecDepth 40000 in
theorem ca_8_165 : cOK (8, 165, 289, 2, 2) := callOk_of cb_289 (Or.inr (Or.inl ⟨Or.inl rfl, cs_289⟩)) (Or.inl ⟨rfl, mALL (in_t2 (i := 96) rfl) rfl⟩)
set_option maxRecDepth 40000 in
theorem ca_8_170 : cOK (8, 170, 288, 2, 2) := callOk_of cb_288 (Or.inr (Or.inl ⟨Or.inl rfl, cs_288⟩)) (Or.inl ⟨rfl, mALL (in_t2 (i := 182) rfl) rfl⟩)
set_option maxRecDepth 40000 in
theorem ca_8_176 : cOK (8, 176, 145, 2, 2) := callOk_of cb_145 (Or.inr (Or.inl ⟨Or.inl rfl, cs_145⟩)) (Or.inl ⟨rfl, mALL (in_t2 (i := 193) rfl) rfl⟩)
set_option maxRecDepth 40000 in
theorem ca_8_179 : cOK (8, 179, 59, 2, 1) := callOk_of cb_59 (Or.inl ⟨Or.inr rfl, cv_59⟩) (Or.inr ⟨rfl, in_t2 (i := 196) rfl⟩)
set_option maxRecDepth 40000 in
theorem ca_8_182 : cOK (8, 182, 50, 0, 1) := callOk_of cb_50 (Or.inl ⟨Or.inr rfl, cv_50⟩) (Or.inr ⟨rfl, in_t2 (i := 202) rfl⟩)
set_option maxRecDepth 40000 in
theorem ca_8_185 : cOK (8, 185, 40, 1, 1) := callOk_of cb_40 (Or.inl ⟨Or.inr rfl, cv_40⟩) (Or.inr ⟨rfl, in_t2 (i := 215) rfl⟩)
set_option maxRecDepth 40000 in
theorem ca_8_189 : cOK (8, 189, 63, 4, 1) := callOk_of cb_63 (Or.inl ⟨Or.inr rfl, cv_63⟩) (Or.inr ⟨rfl, in_t2 (i := 222) rfl⟩)
set_option maxRecDepth 40000 in
theorem ca_8_193 : cOK (8, 193, 14, 1, 1) := callOk_of cb_14 (Or.inl ⟨Or.inr rfl, cv_14⟩) (Or.inr ⟨rfl, in_t3 (i := 6) rfl⟩)
set_option maxRecDepth 40000 in
theorem ca_8_196 : cOK (8, 196, 65, 1, 1) := callOk_of cb_65 (Or.inl ⟨Or.inr rfl, cv_65⟩) (Or.inr ⟨rfl, in_t3 (i := 22) rfl⟩)
set_option maxRecDepth 40000 in
theorem ca_8_200 : cOK (8, 200, 17, 0, 1) := callOk_of cb_17 (Or.inl ⟨Or.inr rfl, cv_17⟩) (Or.inr ⟨rfl, in_t3 (i := 31) rfl⟩)
set_option maxRecDepth 40000 in
theorem ca_8_201 : cOK (8, 201, 52, 1, 1) := callOk_of cb_52 (Or.inl ⟨Or.inr rfl, cv_52⟩) (Or.inr ⟨rfl, in_t3 (i := 35) rfl⟩)
set_option maxRecDepth 40000 in
theorem ca_8_204 : cOK (8, 204, 18, 1, 1) := callOk_of cb_18 (Or.inl ⟨Or.inr rfl, cv_18⟩) (Or.inr ⟨rfl, in_t3 (i := 43) rfl⟩)
set_option maxRecDepth 40000 in
theorem ca_8_207 : cOK (8, 207, 67, 3, 1) := callOk_of cb_67 (Or.inl ⟨Or.inr rfl, cv_67⟩) (Or.inr ⟨rfl, in_t3 (i := 51) rfl⟩)
set_option maxRecDepth 40000 in
theorem ca_8_211 : cOK (8, 211, 68, 2, 1) := callOk_of cb_68 (Or.inl ⟨Or.inr rfl, cv_68⟩) (Or.inr ⟨rfl, in_t3 (i := 59) rfl⟩)
set_option maxRecDepth 40000 in
theorem ca_8_214 : cOK (8, 214, 138, 1, 0) := callOk_of cb_138 (Or.inl ⟨Or.inl rfl, cv_138⟩) (Or.inl ⟨rfl, mALL (in_t3 (i := 67) rfl) rfl⟩)
set_option maxRecDepth 40000 in
theorem ca_8_217 : cOK (8, 217, 141, 1, 0) := callOk_of cb_141 (Or.inl ⟨Or.inl rfl, cv_141⟩) (Or.inl ⟨rfl, mALL (in_t3 (i := 77) rfl) rfl⟩)
set_option maxRecDepth 40000 in
theorem ca_8_220 : cOK (8, 220, 140, 1, 2) := callOk_of cb_140 (Or.inr (Or.inl ⟨Or.inl rfl, cs_140⟩)) (Or.inl ⟨rfl, mALL (in_t3 (i := 71) rfl) rfl⟩)
set_option maxRecDepth 40000 in
theorem ca_8_227 : cOK (8, 227, 15, 1, 1) := callOk_of cb_15 (Or.inl ⟨Or.inr rfl, cv_15⟩) (Or.inr ⟨rfl, in_t3 (i := 85) rfl⟩)
set_option maxRecDepth 40000 in
theorem ca_8_232 : cOK (8, 232, 144, 1, 2) := callOk_of cb_144 (Or.inr (Or.inl ⟨Or.inl rfl, cs_144⟩)) (Or.inl ⟨rfl, mALL (in_t3 (i := 93) rfl) rfl⟩)
set_option maxRecDepth 40000 in
theorem ca_8_235 : cOK (8, 235, 19, 2, 1) := callOk_of cb_19 (Or.inl ⟨Or.inr rfl, cv_19⟩) (Or.inr ⟨rfl, in_t3 (i := 100) rfl⟩)
set_option maxRecDepth 40000 in
theorem ca_8_239 : cOK (8, 239, 49, 1, 1) := callOk_of cb_49 (Or.inl ⟨Or.inr rfl, cv_49⟩) (Or.inr ⟨rfl, in_t3 (i := 118) rfl⟩)
set_option maxRecDepth 40000 in
theorem ca_8_242 : cOK (8, 242, 56, 2, 1) := callOk_of cb_56 (Or.inl ⟨Or.inr rfl, cv_56⟩) (Or.inr ⟨rfl, in_t3 (i := 126) rfl⟩)
set_option maxRecDepth 40000 in
theorem ca_8_245 : cOK (8, 245, 62, 3, 1) := callOk_of cb_62 (Or.inl ⟨Or.inr rfl, cv_62⟩) (Or.inr ⟨rfl, in_t3 (i := 145) rfl⟩)
set_option maxRecDepth 40000 in
theorem ca_8_249 : cOK (8, 249, 147, 3, 0) := callOk_of cb_147 (Or.inl ⟨Or.inl rfl, cv_147⟩) (Or.inl ⟨rfl, mALL (in_t3 (i := 154) rfl) rfl⟩)
set_option maxRecDepth 40000 in
theorem ca_8_253 : cOK (8, 253, 70, 4, 1) := callOk_of cb_70 (Or.inl ⟨Or.inr rfl, cv_70⟩) (Or.inr ⟨rfl, in_t3 (i := 170) rfl⟩)
set_option maxRecDepth 40000 in
theorem ca_8_257 : cOK (8, 257, 73, 1, 1) := callOk_of cb_73 (Or.inl ⟨Or.inr rfl, cv_73⟩) (Or.inr ⟨rfl, in_t3 (i := 174) rfl⟩)
set_option maxRecDepth 40000 in
theorem ca_8_261 : cOK (8, 261, 148, 1, 0) := callOk_of cb_148 (Or.inl ⟨Or.inl rfl, cv_148⟩) (Or.inl ⟨rfl, mALL (in_t3 (i := 212) rfl) rfl⟩)
set_option maxRecDepth 40000 in
theorem ca_8_264 : cOK (8, 264, 149, 0, 0) := callOk_of cb_149 (Or.inl ⟨Or.inl rfl, cv_149⟩) (Or.inl ⟨rfl, mALL (in_t3 (i := 228) rfl) rfl⟩)
set_option maxRecDepth 40000 in
theorem ca_8_267 : cOK (8, 267, 285, 1, 2) := callOk_of cb_285 (Or.inr (Or.inl ⟨Or.inl rfl, cs_285⟩)) (Or.inl ⟨rfl, mALL (in_t3 (i := 236) rfl) rfl⟩)
set_option maxRecDepth 40000 in
theorem ca_8_272 : cOK (8, 272, 53, 2, 1) := callOk_of cb_53 (Or.inl ⟨Or.inr rfl, cv_53⟩) (Or.inr ⟨rfl, in_t4 (i := 2) rfl⟩)
set_option maxRecDepth 40000 in
theorem ca_8_275 : cOK (8, 275, 51, 1, 1) := callOk_of cb_51 (Or.inl ⟨Or.inr rfl, cv_51⟩) (Or.inr ⟨rfl, in_t4 (i := 7) rfl⟩)
set_option maxRecDepth 40000 in
theorem ca_8_278 : cOK (8, 278, 287, 1, 2) := callOk_of cb_287 (Or.inr (Or.inl ⟨Or.inl rfl, cs_287⟩)) (Or.inl ⟨rfl, mALL (in_t4 (i := 8) rfl) rfl⟩)
set_option maxRecDepth 40000 in
theorem ca_8_281 : cOK (8, 281, 163, 1, 2) := callOk_of cb_163 (Or.inr (Or.inl ⟨Or.inl rfl, cs_163⟩)) (Or.inl ⟨rfl, mALL (in_t4 (i := 13) rfl) rfl⟩)
set_option maxRecDepth 40000 in
theorem ca_8_284 : cOK (8, 284, 156, 1, 2) := callOk_of cb_156 (Or.inr (Or.inl ⟨Or.inl rfl, cs_156⟩)) (Or.inl ⟨rfl, mALL (in_t4 (i := 26) rfl) rfl⟩)
set_option maxRecDepth 40000 in
theorem ca_8_287 : cOK (8, 287, 6, 3, 1) := callOk_of cb_6 (Or.inl ⟨Or.inr rfl, cv_6⟩) (Or.inr ⟨rfl, in_t4 (i := 29) rfl⟩)
set_option maxRecDepth 40000 in
theorem ca_8_290 : cOK (8, 290, 7, 0, 1) := callOk_of cb_7 (Or.inl ⟨Or.inr rfl, cv_7⟩) (Or.inr ⟨rfl, in_t4 (i := 37) rfl⟩)
set_option maxRecDepth 40000 in
theorem ca_8_291 : cOK (8, 291, 157, 0, 0) := callOk_of cb_157 (Or.inl ⟨Or.inl rfl, cv_157⟩) (Or.inl ⟨rfl, mALL (in_t4 (i := 45) rfl) rfl⟩)
set_option maxRecDepth 40000 in
theorem ca_8_294 : cOK (8, 294, 155, 1, 0) := callOk_of cb_155 (Or.inl ⟨Or.inl rfl, cv_155⟩) (Or.inl ⟨rfl, mALL (in_t4 (i := 71) rfl) rfl⟩)
set_option maxRecDepth 40000 in
theorem ca_8_297 : cOK (8, 297, 1, 1, 1) := callOk_of cb_1 (Or.inl ⟨Or.inr rfl, cv_1⟩) (Or.inr ⟨rfl, in_t4 (i := 87) rfl⟩)
set_option maxRecDepth 40000 in
theorem ca_8_304 : cOK (8, 304, 3, 2, 1) := callOk_of cb_3 (Or.inl ⟨Or.inr rfl, cv_3⟩) (Or.inr ⟨rfl, in_t4 (i := 107) rfl⟩)
set_option maxRecDepth 40000 in
theorem ca_8_307 : cOK (8, 307, 160, 2, 2) := callOk_of cb_160 (Or.inr (Or.inl ⟨Or.inl rfl, cs_160⟩)) (Or.inl ⟨rfl, mALL (in_t4 (i := 115) rfl) rfl⟩)
set_option maxRecDepth 40000 in
theorem ca_8_310 : cOK (8, 310, 164, 2, 2) := callOk_of cb_164 (Or.inr (Or.inl ⟨Or.inl rfl, cs_164⟩)) (Or.inl ⟨rfl, mALL (in_t4 (i := 124) rfl) rfl⟩)
set_option maxRecDepth 40000 in
theorem ca_8_314 : cOK (8, 314, 161, 3, 2) := callOk_of cb_161 (Or.inr (Or.inl ⟨Or.inl rfl, cs_161⟩)) (Or.inl ⟨rfl, mALL (in_t4 (i := 131) rfl) rfl⟩)
set_option maxRecDepth 40000 in
theorem ca_8_317 : cOK (8, 317, 150, 1, 0) := callOk_of cb_150 (Or.inl ⟨Or.inl rfl, cv_150⟩) (Or.inl ⟨rfl, mALL (in_t4 (i := 141) rfl) rfl⟩)
set_option maxRecDepth 40000 in
theorem ca_8_324 : cOK (8, 324, 151, 0, 0) := callOk_of cb_151 (Or.inl ⟨Or.inl rfl, cv_151⟩) (Or.inl ⟨rfl, mALL (in_t4 (i := 149) rfl) rfl⟩)
set_option maxRecDepth 40000 in
theorem ca_8_327 : cOK (8, 327, 54, 0, 1) := callOk_of cb_54 (Or.inl ⟨Or.inr rfl, cv_54⟩) (Or.inr ⟨rfl, in_t4 (i := 158) rfl⟩)
set_option maxRecDepth 40000 in
theorem ca_8_330 : cOK (8, 330, 146, 1, 0) := callOk_of cb_146 (Or.inl ⟨Or.inl rfl, cv_146⟩) (Or.inl ⟨rfl, mALL (in_t4 (i := 167) rfl) rfl⟩)
set_option maxRecDepth 40000 in
theorem ca_8_337 : cOK (8, 337, 55, 0, 1) := callOk_of cb_55 (Or.inl ⟨Or.inr rfl, cv_55⟩) (Or.inr ⟨rfl, in_t4 (i := 179) rfl⟩)
set_option maxRecDepth 40000 in
theorem ca_8_341 : cOK (8, 341, 153, 0, 0) := callOk_of cb_153 (Or.inl ⟨Or.inl rfl, cv_153⟩) (Or.inl ⟨rfl, mALL (in_t4 (i := 184) rfl) rfl⟩)
set_option maxRecDepth 40000 in
theorem ca_8_344 : cOK (8, 344, 154, 0, 0) := callOk_of cb_154 (Or.inl ⟨Or.inl rfl, cv_154⟩) (Or.inl ⟨rfl, mALL (in_t4 (i := 188) rfl) rfl⟩)
set_option maxRecDepth 40000 in
theorem ca_8_347 : cOK (8, 347, 21, 1, 1) := callOk_of cb_21 (Or.inl ⟨Or.inr rfl, cv_21⟩) (Or.inr ⟨rfl, in_t5 (i := 37) rfl⟩)
set_option maxRecDepth 40000 in
theorem ca_8_350 : cOK (8, 350, 22, 1, 1) := callOk_of cb_22 (Or.inl ⟨Or.inr rfl, cv_22⟩) (Or.inr ⟨rfl, in_t5 (i := 42) rfl⟩)
set_option maxRecDepth 40000 in
theorem ca_8_353 : cOK (8, 353, 136, 1, 0) := callOk_of cb_136 (Or.inl ⟨Or.inl rfl, cv_136⟩) (Or.inl ⟨rfl, mALL (in_t2 (i := 97) rfl) rfl⟩)
set_option maxRecDepth 40000 in
theorem ca_8_356 : cOK (8, 356, 143, 1, 2) := callOk_of cb_143 (Or.inr (Or.inl ⟨Or.inl rfl, cs_143⟩)) (Or.inl ⟨rfl, mALL (in_t2 (i := 105) rfl) rfl⟩)
set_option maxRecDepth 40000 in
theorem ca_8_360 : cOK (8, 360, 142, 1, 2) := callOk_of cb_142 (Or.inr (Or.inl ⟨Or.inl rfl, cs_142⟩)) (Or.inl ⟨rfl, mALL (in_t2 (i := 108) rfl) rfl⟩)
set_option maxRecDepth 40000 in
theorem ca_8_366 : cOK (8, 366, 139, 3, 2) := callOk_of cb_139 (Or.inr (Or.inl ⟨Or.inl rfl, cs_139⟩)) (Or.inl ⟨rfl, mALL (in_t3 (i := 74) rfl) rfl⟩)
set_option maxRecDepth 40000 in
theorem ca_8_370 : cOK (8, 370, 71, 1, 1) := callOk_of cb_71 (Or.inl ⟨Or.inr rfl, cv_71⟩) (Or.inr ⟨rfl, in_t3 (i := 216) rfl⟩)
set_option maxRecDepth 40000 in
theorem ca_8_373 : cOK (8, 373, 152, 1, 0) := callOk_of cb_152 (Or.inl ⟨Or.inl rfl, cv_152⟩) (Or.inl ⟨rfl, mALL (in_t4 (i := 153) rfl) rfl⟩)
set_option maxRecDepth 40000 in
theorem ca_8_377 : cOK (8, 377, 158, 1, 0) := callOk_of cb_158 (Or.inl ⟨Or.inl rfl, cv_158⟩) (Or.inl ⟨rfl, mALL (in_t4 (i := 49) rfl) rfl⟩)
set_option maxRecDepth 40000 in
theorem ca_8_380 : cOK (8, 380, 8, 1, 1) := callOk_of cb_8 (Or.inl ⟨Or.inr rfl, cv_8⟩) (Or.inr ⟨rfl, in_t4 (i := 53) rfl⟩)
set_option maxRecDepth 40000 in
theorem ca_8_383 : cOK (8, 383, 9, 1, 1) := callOk_of cb_9 (Or.inl ⟨Or.inr rfl, cv_9⟩) (Or.inr ⟨rfl, in_t4 (i := 57) rfl⟩)
set_option maxRecDepth 40000 in
theorem ca_8_386 : cOK (8, 386, 159, 3, 0) := callOk_of cb_159 (Or.inl ⟨Or.inl rfl, cv_159⟩) (Or.inl ⟨rfl, mALL (in_t4 (i := 61) rfl) rfl⟩)
set_option maxRecDepth 40000 in
theorem ca_8_393 : cOK (8, 393, 162, 3, 2) := callOk_of cb_162 (Or.inr (Or.inl ⟨Or.inl rfl, cs_162⟩)) (Or.inl ⟨rfl, mALL (in_t4 (i := 134) rfl) rfl⟩)
set_option maxRecDepth 40000 in
theorem ca_9_95 : cOK (9, 95, 167, 3, 2) := callOk_of cb_167 (Or.inr (Or.inl ⟨Or.inl rfl, cs_167⟩)) (Or.inl ⟨rfl, mALL (in_t5 (i := 189) rfl) rfl⟩)
set_option maxRecDepth 40000 in
theorem ca_9_99 : cOK (9, 99, 171, 1, 0) := callOk_of cb_171 (Or.inl ⟨Or.inl rfl, cv_171⟩) (Or.inl ⟨rfl, mALL (in_t6 (i := 27) rfl) rfl⟩)
set_option maxRecDepth 40000 in
theorem ca_9_103 : cOK (9, 103, 175, 3, 2) := callOk_of cb_175 (Or.inr (Or.inl ⟨Or.inl rfl, cs_175⟩)) (Or.inl ⟨rfl, mALL (in_t6 (i := 35) rfl) rfl⟩)
set_option maxRecDepth 40000 in
theorem ca_9_125 : cOK (9, 125, 179, 3, 0) := callOk_of cb_179 (Or.inl ⟨Or.inl rfl, cv_179⟩) (Or.inl ⟨rfl, mALL (in_t5 (i := 200) rfl) rfl⟩)
set_option maxRecDepth 40000 in
theorem ca_9_129 : cOK (9, 129, 182, 0, 0) := callOk_of cb_182 (Or.inl ⟨Or.inl rfl, cv_182⟩) (Or.inl ⟨rfl, mALL (in_t5 (i := 204) rfl) rfl⟩)
set_option maxRecDepth 40000 in
theorem ca_9_133 : cOK (9, 133, 181, 0, 0) := callOk_of cb_181 (Or.inl ⟨Or.inl rfl, cv_181⟩) (Or.inl ⟨rfl, mALL (in_t5 (i := 216) rfl) rfl⟩)
set_option maxRecDepth 40000 in
theorem ca_9_137 : cOK (9, 137, 184, 1, 0) := callOk_of cb_184 (Or.inl ⟨Or.inl rfl, cv_184⟩) (Or.inl ⟨rfl, mALL (in_t5 (i := 220) rfl) rfl⟩)
set_option maxRecDepth 40000 in
theorem ca_9_141 : cOK (9, 141, 183, 1, 0) := callOk_of cb_183 (Or.inl ⟨Or.inl rfl, cv_183⟩) (Or.inl ⟨rfl, mALL (in_t5 (i := 208) rfl) rfl⟩)
set_option maxRecDepth 40000 in
theorem ca_9_145 : cOK (9, 145, 186, 2, 0) := callOk_of cb_186 (Or.inl ⟨Or.inl rfl, cv_186⟩) (Or.inl ⟨rfl, mALL (in_t5 (i := 212) rfl) rfl⟩)
set_option maxRecDepth 40000 in
theorem ca_9_149 : cOK (9, 149, 180, 1, 0) := callOk_of cb_180 (Or.inl ⟨Or.inl rfl, cv_180⟩) (Or.inl ⟨rfl, mALL (in_t5 (i := 196) rfl) rfl⟩)
set_option maxRecDepth 40000 in
theorem ca_9_152 : cOK (9, 152, 188, 0, 0) := callOk_of cb_188 (Or.inl ⟨Or.inl rfl, cv_188⟩) (Or.inl ⟨rfl, mALL (in_t5 (i := 224) rfl) rfl⟩)
set_option maxRecDepth 40000 in
theorem ca_9_161 : cOK (9, 161, 191, 1, 0) := callOk_of cb_191 (Or.inl ⟨Or.inl rfl, cv_191⟩) (Or.inl ⟨rfl, mALL (in_t6 (i := 0) rfl) rfl⟩)
set_option maxRecDepth 40000 in
theorem ca_9_165 : cOK (9, 165, 192, 1, 0) := callOk_of cb_192 (Or.inl ⟨Or.inl rfl, cv_192⟩) (Or.inl ⟨rfl, mALL (in_t6 (i := 4) rfl) rfl⟩)
set_option maxRecDepth 40000 in
theorem ca_9_168 : cOK (9, 168, 194, 1, 0) := callOk_of cb_194 (Or.inl ⟨Or.inl rfl, cv_194⟩) (Or.inl ⟨rfl, mALL (in_t6 (i := 8) rfl) rfl⟩)
set_option maxRecDepth 40000 in
theorem ca_9_171 : cOK (9, 171, 190, 1, 0) := callOk_of cb_190 (Or.inl ⟨Or.inl rfl, cv_190⟩) (Or.inl ⟨rfl, mALL (in_t5 (i := 236) rfl) rfl⟩)
set_option maxRecDepth 40000 in
theorem ca_9_174 : cOK (9, 174, 185, 1, 0) := callOk_of cb_185 (Or.inl ⟨Or.inl rfl, cv_185⟩) (Or.inl ⟨rfl, mALL (in_t6 (i := 12) rfl) rfl⟩)
set_option maxRecDepth 40000 in
theorem ca_9_178 : cOK (9, 178, 187, 1, 0) := callOk_of cb_187 (Or.inl ⟨Or.inl rfl, cv_187⟩) (Or.inl ⟨rfl, mALL (in_t6 (i := 16) rfl) rfl⟩)
set_option maxRecDepth 40000 in
theorem ca_9_181 : cOK (9, 181, 193, 1, 2) := callOk_of cb_193 (Or.inr (Or.inl ⟨Or.inl rfl, cs_193⟩)) (Or.inl ⟨rfl, mALL (in_t6 (i := 20) rfl) rfl⟩)
set_option maxRecDepth 40000 in
theorem ca_9_188 : cOK (9, 188, 195, 0, 0) := callOk_of cb_195 (Or.inl ⟨Or.inl rfl, cv_195⟩) (Or.inl ⟨rfl, mALL (in_t5 (i := 232) rfl) rfl⟩)
set_option maxRecDepth 40000 in
theorem ca_9_194 : cOK (9, 194, 176, 2, 2) := callOk_of cb_176 (Or.inr (Or.inl ⟨Or.inl rfl, cs_176⟩)) (Or.inl ⟨rfl, mALL (in_t6 (i := 50) rfl) rfl⟩)
set_option maxRecDepth 40000 in
theorem ca_9_198 : cOK (9, 198, 169, 0, 0) := callOk_of cb_169 (Or.inl ⟨Or.inl rfl, cv_169⟩) (Or.inl ⟨rfl, mALL (in_t6 (i := 31) rfl) rfl⟩)
set_option maxRecDepth 40000 in
theorem ca_9_201 : cOK (9, 201, 172, 2, 0) := callOk_of cb_172 (Or.inl ⟨Or.inl rfl, cv_172⟩) (Or.inl ⟨rfl, mALL (in_t6 (i := 42) rfl) rfl⟩)
set_option maxRecDepth 40000 in
theorem ca_9_205 : cOK (9, 205, 197, 3, 0) := callOk_of cb_197 (Or.inl ⟨Or.inl rfl, cv_197⟩) (Or.inl ⟨rfl, mALL (in_t6 (i := 46) rfl) rfl⟩)
set_option maxRecDepth 40000 in
theorem ca_9_208 : cOK (9, 208, 289, 2, 2) := callOk_of cb_289 (Or.inr (Or.inl ⟨Or.inl rfl, cs_289⟩)) (Or.inl ⟨rfl, mALL (in_t6 (i := 53) rfl) rfl⟩)
set_option maxRecDepth 40000 in
theorem ca_9_214 : cOK (9, 214, 288, 2, 2) := callOk_of cb_288 (Or.inr (Or.inl ⟨Or.inl rfl, cs_288⟩)) (Or.inl ⟨rfl, mALL (in_t6 (i := 54) rfl) rfl⟩)
set_option maxRecDepth 40000 in
theorem ca_9_217 : cOK (9, 217, 201, 2, 0) := callOk_of cb_201 (Or.inl ⟨Or.inl rfl, cv_201⟩) (Or.inl ⟨rfl, mALL (in_t6 (i := 63) rfl) rfl⟩)
set_option maxRecDepth 40000 in
theorem ca_9_220 : cOK (9, 220, 203, 3, 2) := callOk_of cb_203 (Or.inr (Or.inl ⟨Or.inl rfl, cs_203⟩)) (Or.inl ⟨rfl, mALL (in_t6 (i := 82) rfl) rfl⟩)
set_option maxRecDepth 40000 in
theorem ca_9_224 : cOK (9, 224, 284, 2, 2) := callOk_of cb_284 (Or.inr (Or.inl ⟨Or.inl rfl, cs_284⟩)) (Or.inl ⟨rfl, mALL (in_t6 (i := 75) rfl) rfl⟩)
set_option maxRecDepth 40000 in
theorem ca_9_229 : cOK (9, 229, 206, 3, 0) := callOk_of cb_206 (Or.inl ⟨Or.inl rfl, cv_206⟩) (Or.inl ⟨rfl, mALL (in_t6 (i := 71) rfl) rfl⟩)
set_option maxRecDepth 40000 in
theorem ca_9_232 : cOK (9, 232, 205, 2, 2) := callOk_of cb_205 (Or.inr (Or.inl ⟨Or.inl rfl, cs_205⟩)) (Or.inl ⟨rfl, mALL (in_t6 (i := 89) rfl) rfl⟩)
set_option maxRecDepth 40000 in
theorem ca_9_236 : cOK (9, 236, 204, 1, 0) := callOk_of cb_204 (Or.inl ⟨Or.inl rfl, cv_204⟩) (Or.inl ⟨rfl, mALL (in_t6 (i := 78) rfl) rfl⟩)
set_option maxRecDepth 40000 in
theorem ca_9_240 : cOK (9, 240, 207, 3, 0) := callOk_of cb_207 (Or.inl ⟨Or.inl rfl, cv_207⟩) (Or.inl ⟨rfl, mALL (in_t6 (i := 85) rfl) rfl⟩)
set_option maxRecDepth 40000 in
theorem ca_9_243 : cOK (9, 243, 209, 2, 0) := callOk_of cb_209 (Or.inl ⟨Or.inl rfl, cv_209⟩) (Or.inl ⟨rfl, mALL (in_t6 (i := 104) rfl) rfl⟩)
set_option maxRecDepth 40000 in
theorem ca_9_246 : cOK (9, 246, 210, 1, 0) := callOk_of cb_210 (Or.inl ⟨Or.inl rfl, cv_210⟩) (Or.inl ⟨rfl, mALL (in_t6 (i := 100) rfl) rfl⟩)
set_option maxRecDepth 40000 in
theorem ca_9_249 : cOK (9, 249, 211, 2, 0) := callOk_of cb_211 (Or.inl ⟨Or.inl rfl, cv_211⟩) (Or.inl ⟨rfl, mALL (in_t6 (i := 96) rfl) rfl⟩)
set_option maxRecDepth 40000 in
theorem ca_9_252 : cOK (9, 252, 212, 2, 0) := callOk_of cb_212 (Or.inl ⟨Or.inl rfl, cv_212⟩) (Or.inl ⟨rfl, mALL (in_t6 (i := 108) rfl) rfl⟩)
set_option maxRecDepth 40000 in
theorem ca_9_255 : cOK (9, 255, 170, 1, 0) := callOk_of cb_170 (Or.inl ⟨Or.inl rfl, cv_170⟩) (Or.inl ⟨rfl, mALL (in_t6 (i := 112) rfl) rfl⟩)
set_option maxRecDepth 40000 in
theorem ca_9_259 : cOK (9, 259, 173, 1, 2) := callOk_of cb_173 (Or.inr (Or.inl ⟨Or.inl rfl, cs_173⟩)) (Or.inl ⟨rfl, mALL (in_t6 (i := 124) rfl) rfl⟩)
set_option maxRecDepth 40000 in
theorem ca_9_262 : cOK (9, 262, 214, 4, 0) := callOk_of cb_214 (Or.inl ⟨Or.inl rfl, cv_214⟩) (Or.inl ⟨rfl, mALL (in_t6 (i := 120) rfl) rfl⟩)
set_option maxRecDepth 40000 in
theorem ca_9_266 : cOK (9, 266, 215, 4, 2) := callOk_of cb_215 (Or.inr (Or.inl ⟨Or.inl rfl, cs_215⟩)) (Or.inl ⟨rfl, mALL (in_t6 (i := 127) rfl) rfl⟩)
set_option maxRecDepth 40000 in
theorem ca_9_270 : cOK (9, 270, 217, 2, 0) := callOk_of cb_217 (Or.inl ⟨Or.inl rfl, cv_217⟩) (Or.inl ⟨rfl, mALL (in_t6 (i := 134) rfl) rfl⟩)
set_option maxRecDepth 40000 in
theorem ca_9_273 : cOK (9, 273, 218, 2, 0) := callOk_of cb_218 (Or.inl ⟨Or.inl rfl, cv_218⟩) (Or.inl ⟨rfl, mALL (in_t6 (i := 138) rfl) rfl⟩)
set_option maxRecDepth 40000 in
theorem ca_9_277 : cOK (9, 277, 221, 1, 0) := callOk_of cb_221 (Or.inl ⟨Or.inl rfl, cv_221⟩) (Or.inl ⟨rfl, mALL (in_t6 (i := 146) rfl) rfl⟩)
set_option maxRecDepth 40000 in
theorem ca_9_280 : cOK (9, 280, 222, 1, 0) := callOk_of cb_222 (Or.inl ⟨Or.inl rfl, cv_222⟩) (Or.inl ⟨rfl, mALL (in_t6 (i := 150) rfl) rfl⟩)
set_option maxRecDepth 40000 in
theorem ca_9_283 : cOK (9, 283, 225, 2, 2) := callOk_of cb_225 (Or.inr (Or.inl ⟨Or.inl rfl, cs_225⟩)) (Or.inl ⟨rfl, mALL (in_t6 (i := 170) rfl) rfl⟩)
set_option maxRecDepth 40000 in
theorem ca_9_287 : cOK (9, 287, 226, 2, 0) := callOk_of cb_226 (Or.inl ⟨Or.inl rfl, cv_226⟩) (Or.inl ⟨rfl, mALL (in_t6 (i := 166) rfl) rfl⟩)
set_option maxRecDepth 40000 in
theorem ca_9_291 : cOK (9, 291, 229, 2, 2) := callOk_of cb_229 (Or.inr (Or.inl ⟨Or.inl rfl, cs_229⟩)) (Or.inl ⟨rfl, mALL (in_t6 (i := 181) rfl) rfl⟩)
set_option maxRecDepth 40000 in
theorem ca_9_295 : cOK (9, 295, 287, 1, 2) := callOk_of cb_287 (Or.inr (Or.inl ⟨Or.inl rfl, cs_287⟩)) (Or.inl ⟨rfl, mALL (in_t6 (i := 189) rfl) rfl⟩)
set_option maxRecDepth 40000 in
theorem ca_9_298 : cOK (9, 298, 239, 1, 0) := callOk_of cb_239 (Or.inl ⟨Or.inl rfl, cv_239⟩) (Or.inl ⟨rfl, mALL (in_t6 (i := 230) rfl) rfl⟩)
set_option maxRecDepth 40000 in
theorem ca_9_301 : cOK (9, 301, 240, 2, 0) := callOk_of cb_240 (Or.inl ⟨Or.inl rfl, cv_240⟩) (Or.inl ⟨rfl, mALL (in_t6 (i := 234) rfl) rfl⟩)
set_option maxRecDepth 40000 in
theorem ca_9_304 : cOK (9, 304, 241, 4, 0) := callOk_of cb_241 (Or.inl ⟨Or.inl rfl, cv_241⟩) (Or.inl ⟨rfl, mALL (in_t6 (i := 226) rfl) rfl⟩)
set_option maxRecDepth 40000 in
theorem ca_9_308 : cOK (9, 308, 242, 2, 0) := callOk_of cb_242 (Or.inl ⟨Or.inl rfl, cv_242⟩) (Or.inl ⟨rfl, mALL (in_t6 (i := 222) rfl) rfl⟩)
set_option maxRecDepth 40000 in
theorem ca_9_311 : cOK (9, 311, 245, 1, 0) := callOk_of cb_245 (Or.inl ⟨Or.inl rfl, cv_245⟩) (Or.inl ⟨rfl, mALL (in_t7 (i := 6) rfl) rfl⟩)
set_option maxRecDepth 40000 in
theorem ca_9_314 : cOK (9, 314, 174, 0, 0) := callOk_of cb_174 (Or.inl ⟨Or.inl rfl, cv_174⟩) (Or.inl ⟨rfl, mALL (in_t7 (i := 14) rfl) rfl⟩)
set_option maxRecDepth 40000 in
theorem ca_9_317 : cOK (9, 317, 168, 2, 2) := callOk_of cb_168 (Or.inr (Or.inl ⟨Or.inl rfl, cs_168⟩)) (Or.inl ⟨rfl, mALL (in_t7 (i := 18) rfl) rfl⟩)
set_option maxRecDepth 40000 in
theorem ca_9_320 : cOK (9, 320, 285, 1, 2) := callOk_of cb_285 (Or.inr (Or.inl ⟨Or.inl rfl, cs_285⟩)) (Or.inl ⟨rfl, mALL (in_t7 (i := 21) rfl) rfl⟩)
set_option maxRecDepth 40000 in
theorem ca_9_323 : cOK (9, 323, 248, 1, 0) := callOk_of cb_248 (Or.inl ⟨Or.inl rfl, cv_248⟩) (Or.inl ⟨rfl, mALL (in_t7 (i := 26) rfl) rfl⟩)
set_option maxRecDepth 40000 in
theorem ca_9_326 : cOK (9, 326, 250, 1, 2) := callOk_of cb_250 (Or.inr (Or.inl ⟨Or.inl rfl, cs_250⟩)) (Or.inl ⟨rfl, mALL (in_t7 (i := 34) rfl) rfl⟩)
set_option maxRecDepth 40000 in
theorem ca_9_333 : cOK (9, 333, 255, 3, 0) := callOk_of cb_255 (Or.inl ⟨Or.inl rfl, cv_255⟩) (Or.inl ⟨rfl, mALL (in_t7 (i := 57) rfl) rfl⟩)
set_option maxRecDepth 40000 in
theorem ca_9_336 : cOK (9, 336, 256, 0, 0) := callOk_of cb_256 (Or.inl ⟨Or.inl rfl, cv_256⟩) (Or.inl ⟨rfl, mALL (in_t7 (i := 53) rfl) rfl⟩)
set_option maxRecDepth 40000 in
theorem ca_9_345 : cOK (9, 345, 261, 4, 2) := callOk_of cb_261 (Or.inr (Or.inl ⟨Or.inl rfl, cs_261⟩)) (Or.inl ⟨rfl, mALL (in_t7 (i := 81) rfl) rfl⟩)
set_option maxRecDepth 40000 in
theorem ca_9_348 : cOK (9, 348, 262, 2, 0) := callOk_of cb_262 (Or.inl ⟨Or.inl rfl, cv_262⟩) (Or.inl ⟨rfl, mALL (in_t7 (i := 77) rfl) rfl⟩)
set_option maxRecDepth 40000 in
theorem ca_9_351 : cOK (9, 351, 264, 2, 0) := callOk_of cb_264 (Or.inl ⟨Or.inl rfl, cv_264⟩) (Or.inl ⟨rfl, mALL (in_t7 (i := 88) rfl) rfl⟩)
set_option maxRecDepth 40000 in
theorem ca_9_354 : cOK (9, 354, 266, 2, 0) := callOk_of cb_266 (Or.inl ⟨Or.inl rfl, cv_266⟩) (Or.inl ⟨rfl, mALL (in_t7 (i := 100) rfl) rfl⟩)
set_option maxRecDepth 40000 in
theorem ca_9_357 : cOK (9, 357, 267, 2, 0) := callOk_of cb_267 (Or.inl ⟨Or.inl rfl, cv_267⟩) (Or.inl ⟨rfl, mALL (in_t7 (i := 96) rfl) rfl⟩)
set_option maxRecDepth 40000 in
theorem ca_9_360 : cOK (9, 360, 269, 2, 2) := callOk_of cb_269 (Or.inr (Or.inl ⟨Or.inl rfl, cs_269⟩)) (Or.inl ⟨rfl, mALL (in_t7 (i := 108) rfl) rfl⟩)
set_option maxRecDepth 40000 in
theorem ca_9_366 : cOK (9, 366, 271, 3, 2) := callOk_of cb_271 (Or.inr (Or.inl ⟨Or.inl rfl, cs_271⟩)) (Or.inl ⟨rfl, mALL (in_t7 (i := 119) rfl) rfl⟩)
set_option maxRecDepth 40000 in
theorem ca_9_370 : cOK (9, 370, 272, 3, 2) := callOk_of cb_272 (Or.inr (Or.inl ⟨Or.inl rfl, cs_272⟩)) (Or.inl ⟨rfl, mALL (in_t7 (i := 116) rfl) rfl⟩)
set_option maxRecDepth 40000 in
theorem ca_9_373 : cOK (9, 373, 274, 0, 0) := callOk_of cb_274 (Or.inl ⟨Or.inl rfl, cv_274⟩) (Or.inl ⟨rfl, mALL (in_t7 (i := 126) rfl) rfl⟩)
set_option maxRecDepth 40000 in
theorem ca_9_380 : cOK (9, 380, 276, 1, 0) := callOk_of cb_276 (Or.inl ⟨Or.inl rfl, cv_276⟩) (Or.inl ⟨rfl, mALL (in_t7 (i := 134) rfl) rfl⟩)
set_option maxRecDepth 40000 in
theorem ca_9_383 : cOK (9, 383, 280, 0, 0) := callOk_of cb_280 (Or.inl ⟨Or.inl rfl, cv_280⟩) (Or.inl ⟨rfl, mALL (in_t7 (i := 151) rfl) rfl⟩)
set_option maxRecDepth 40000 in
theorem ca_9_386 : cOK (9, 386, 281, 0, 0) := callOk_of cb_281 (Or.inl ⟨Or.inl rfl, cv_281⟩) (Or.inl ⟨rfl, mALL (in_t7 (i := 155) rfl) rfl⟩)
set_option maxRecDepth 40000 in
theorem ca_12_7 : cOK (12, 7, 89, 2, 0) := callOk_of cb_89 (Or.inl ⟨Or.inl rfl, cv_89⟩) (Or.inl ⟨rfl, mALL (in_t4 (i := 196) rfl) rfl⟩)
set_option maxRecDepth 40000 in
theorem ca_12_15 : cOK (12, 15, 134, 1, 0) := callOk_of cb_134 (Or.inl ⟨Or.inl rfl, cv_134⟩) (Or.inl ⟨rfl, mALL (in_t5 (i := 33) rfl) rfl⟩)
set_option maxRecDepth 40000 in
theorem ca_12_19 : cOK (12, 19, 84, 0, 4) := callOk_of cb_84 (Or.inr (Or.inr ⟨Or.inl rfl, ci_84⟩)) (Or.inl ⟨rfl, mALL (in_t1 (i := 20) rfl) rfl⟩)
set_option maxRecDepth 40000 in
theorem ca_12_22 : cOK (12, 22, 165, 0, 4) := callOk_of cb_165 (Or.inr (Or.inr ⟨Or.inl rfl, ci_165⟩)) (Or.inl ⟨rfl, mALL (in_t5 (i := 49) rfl) rfl⟩)
set_option maxRecDepth 40000 in
theorem ca_12_23 : cOK (12, 23, 85, 1, 0) := callOk_of cb_85 (Or.inl ⟨Or.inl rfl, cv_85⟩) (Or.inl ⟨rfl, mALL (in_t2 (i := 72) rfl) rfl⟩)
set_option maxRecDepth 40000 in
theorem ca_12_27 : cOK (12, 27, 177, 1, 0) := callOk_of cb_177 (Or.inl ⟨Or.inl rfl, cv_177⟩) (Or.inl ⟨rfl, mALL (in_t5 (i := 181) rfl) rfl⟩)
set_option maxRecDepth 40000 in
theorem ca_12_28 : cOK (12, 28, 86, 1, 0) := callOk_of cb_86 (Or.inl ⟨Or.inl rfl, cv_86⟩) (Or.inl ⟨rfl, mALL (in_t2 (i := 80) rfl) rfl⟩)
set_option maxRecDepth 40000 in
theorem ca_12_32 : cOK (12, 32, 178, 1, 0) := callOk_of cb_178 (Or.inl ⟨Or.inl rfl, cv_178⟩) (Or.inl ⟨rfl, mALL (in_t5 (i := 185) rfl) rfl⟩)
set_option maxRecDepth 40000 in
theorem ca_12_33 : cOK (12, 33, 87, 0, 0) := callOk_of cb_87 (Or.inl ⟨Or.inl rfl, cv_87⟩) (Or.inl ⟨rfl, mALL (in_t2 (i := 84) rfl) rfl⟩)
set_option maxRecDepth 40000 in
theorem ca_12_37 : cOK (12, 37, 189, 0, 0) := callOk_of cb_189 (Or.inl ⟨Or.inl rfl, cv_189⟩) (Or.inl ⟨rfl, mALL (in_t5 (i := 192) rfl) rfl⟩)
set_option maxRecDepth 40000 in
theorem ca_12_38 : cOK (12, 38, 88, 0, 0) := callOk_of cb_88 (Or.inl ⟨Or.inl rfl, cv_88⟩) (Or.inl ⟨rfl, mALL (in_t2 (i := 128) rfl) rfl⟩)
set_option maxRecDepth 40000 in
theorem ca_12_41 : cOK (12, 41, 196, 0, 0) := callOk_of cb_196 (Or.inl ⟨Or.inl rfl, cv_196⟩) (Or.inl ⟨rfl, mALL (in_t5 (i := 228) rfl) rfl⟩)
set_option maxRecDepth 40000 in
theorem ca_12_47 : cOK (12, 47, 198, 2, 0) := callOk_of cb_198 (Or.inl ⟨Or.inl rfl, cv_198⟩) (Or.inl ⟨rfl, mALL (in_t6 (i := 23) rfl) rfl⟩)
set_option maxRecDepth 40000 in
theorem ca_12_48 : cOK (12, 48, 166, 0, 0) := callOk_of cb_166 (Or.inl ⟨Or.inl rfl, cv_166⟩) (Or.inl ⟨rfl, mALL (in_t5 (i := 177) rfl) rfl⟩)
set_option maxRecDepth 40000 in
theorem ca_12_51 : cOK (12, 51, 90, 2, 0) := callOk_of cb_90 (Or.inl ⟨Or.inl rfl, cv_90⟩) (Or.inl ⟨rfl, mALL (in_t2 (i := 136) rfl) rfl⟩)
set_option maxRecDepth 40000 in
theorem ca_12_54 : cOK (12, 54, 199, 2, 0) := callOk_of cb_199 (Or.inl ⟨Or.inl rfl, cv_199⟩) (Or.inl ⟨rfl, mALL (in_t6 (i := 38) rfl) rfl⟩)
set_option maxRecDepth 40000 in
theorem ca_12_55 : cOK (12, 55, 91, 1, 0) := callOk_of cb_91 (Or.inl ⟨Or.inl rfl, cv_91⟩) (Or.inl ⟨rfl, mALL (in_t2 (i := 185) rfl) rfl⟩)
set_option maxRecDepth 40000 in
theorem ca_12_58 : cOK (12, 58, 200, 1, 0) := callOk_of cb_200 (Or.inl ⟨Or.inl rfl, cv_200⟩) (Or.inl ⟨rfl, mALL (in_t6 (i := 55) rfl) rfl⟩)
set_option maxRecDepth 40000 in
theorem ca_12_59 : cOK (12, 59, 92, 4, 0) := callOk_of cb_92 (Or.inl ⟨Or.inl rfl, cv_92⟩) (Or.inl ⟨rfl, mALL (in_t2 (i := 189) rfl) rfl⟩)
set_option maxRecDepth 40000 in
theorem ca_12_63 : cOK (12, 63, 202, 4, 0) := callOk_of cb_202 (Or.inl ⟨Or.inl rfl, cv_202⟩) (Or.inl ⟨rfl, mALL (in_t6 (i := 59) rfl) rfl⟩)
set_option maxRecDepth 40000 in
theorem ca_12_64 : cOK (12, 64, 93, 2, 0) := callOk_of cb_93 (Or.inl ⟨Or.inl rfl, cv_93⟩) (Or.inl ⟨rfl, mALL (in_t2 (i := 211) rfl) rfl⟩)
set_option maxRecDepth 40000 in
theorem ca_12_67 : cOK (12, 67, 208, 2, 0) := callOk_of cb_208 (Or.inl ⟨Or.inl rfl, cv_208⟩) (Or.inl ⟨rfl, mALL (in_t6 (i := 67) rfl) rfl⟩)
set_option maxRecDepth 40000 in
theorem ca_12_68 : cOK (12, 68, 94, 1, 0) := callOk_of cb_94 (Or.inl ⟨Or.inl rfl, cv_94⟩) (Or.inl ⟨rfl, mALL (in_t3 (i := 18) rfl) rfl⟩)
set_option maxRecDepth 40000 in
theorem ca_12_71 : cOK (12, 71, 213, 1, 0) := callOk_of cb_213 (Or.inl ⟨Or.inl rfl, cv_213⟩) (Or.inl ⟨rfl, mALL (in_t6 (i := 92) rfl) rfl⟩)
set_option maxRecDepth 40000 in
theorem ca_12_72 : cOK (12, 72, 95, 3, 0) := callOk_of cb_95 (Or.inl ⟨Or.inl rfl, cv_95⟩) (Or.inl ⟨rfl, mALL (in_t3 (i := 47) rfl) rfl⟩)
set_option maxRecDepth 40000 in
theorem ca_12_76 : cOK (12, 76, 216, 3, 0) := callOk_of cb_216 (Or.inl ⟨Or.inl rfl, cv_216⟩) (Or.inl ⟨rfl, mALL (in_t6 (i := 116) rfl) rfl⟩)
set_option maxRecDepth 40000 in
theorem ca_12_77 : cOK (12, 77, 96, 2, 0) := callOk_of cb_96 (Or.inl ⟨Or.inl rfl, cv_96⟩) (Or.inl ⟨rfl, mALL (in_t3 (i := 55) rfl) rfl⟩)
set_option maxRecDepth 40000 in
theorem ca_12_80 : cOK (12, 80, 219, 2, 0) := callOk_of cb_219 (Or.inl ⟨Or.inl rfl, cv_219⟩) (Or.inl ⟨rfl, mALL (in_t6 (i := 130) rfl) rfl⟩)
set_option maxRecDepth 40000 in
theorem ca_12_81 : cOK (12, 81, 97, 0, 0) := callOk_of cb_97 (Or.inl ⟨Or.inl rfl, cv_97⟩) (Or.inl ⟨rfl, mALL (in_t3 (i := 63) rfl) rfl⟩)
set_option maxRecDepth 40000 in
theorem ca_12_84 : cOK (12, 84, 220, 0, 0) := callOk_of cb_220 (Or.inl ⟨Or.inl rfl, cv_220⟩) (Or.inl ⟨rfl, mALL (in_t6 (i := 142) rfl) rfl⟩)
set_option maxRecDepth 40000 in
theorem ca_12_85 : cOK (12, 85, 98, 0, 0) := callOk_of cb_98 (Or.inl ⟨Or.inl rfl, cv_98⟩) (Or.inl ⟨rfl, mALL (in_t3 (i := 81) rfl) rfl⟩)
set_option maxRecDepth 40000 in
theorem ca_12_88 : cOK (12, 88, 223, 0, 0) := callOk_of cb_223 (Or.inl ⟨Or.inl rfl, cv_223⟩) (Or.inl ⟨rfl, mALL (in_t6 (i := 154) rfl) rfl⟩)
set_option maxRecDepth 40000 in
theorem ca_12_89 : cOK (12, 89, 99, 1, 0) := callOk_of cb_99 (Or.inl ⟨Or.inl rfl, cv_99⟩) (Or.inl ⟨rfl, mALL (in_t3 (i := 89) rfl) rfl⟩)
set_option maxRecDepth 40000 in
theorem ca_12_92 : cOK (12, 92, 224, 1, 0) := callOk_of cb_224 (Or.inl ⟨Or.inl rfl, cv_224⟩) (Or.inl ⟨rfl, mALL (in_t6 (i := 158) rfl) rfl⟩)
set_option maxRecDepth 40000 in
theorem ca_12_93 : cOK (12, 93, 100, 1, 0) := callOk_of cb_100 (Or.inl ⟨Or.inl rfl, cv_100⟩) (Or.inl ⟨rfl, mALL (in_t3 (i := 96) rfl) rfl⟩)
set_option maxRecDepth 40000 in
theorem ca_12_96 : cOK (12, 96, 227, 1, 0) := callOk_of cb_227 (Or.inl ⟨Or.inl rfl, cv_227⟩) (Or.inl ⟨rfl, mALL (in_t6 (i := 162) rfl) rfl⟩)
set_option maxRecDepth 40000 in
theorem ca_12_97 : cOK (12, 97, 101, 2, 0) := callOk_of cb_101 (Or.inl ⟨Or.inl rfl, cv_101⟩) (Or.inl ⟨rfl, mALL (in_t3 (i := 108) rfl) rfl⟩)
set_option maxRecDepth 40000 in
theorem ca_12_100 : cOK (12, 100, 228, 2, 0) := callOk_of cb_228 (Or.inl ⟨Or.inl rfl, cv_228⟩) (Or.inl ⟨rfl, mALL (in_t6 (i := 173) rfl) rfl⟩)
set_option maxRecDepth 40000 in
theorem ca_12_101 : cOK (12, 101, 102, 1, 0) := callOk_of cb_102 (Or.inl ⟨Or.inl rfl, cv_102⟩) (Or.inl ⟨rfl, mALL (in_t3 (i := 114) rfl) rfl⟩)
set_option maxRecDepth 40000 in
theorem ca_12_104 : cOK (12, 104, 230, 1, 0) := callOk_of cb_230 (Or.inl ⟨Or.inl rfl, cv_230⟩) (Or.inl ⟨rfl, mALL (in_t6 (i := 177) rfl) rfl⟩)
set_option maxRecDepth 40000 in
theorem ca_12_105 : cOK (12, 105, 103, 0, 0) := callOk_of cb_103 (Or.inl ⟨Or.inl rfl, cv_103⟩) (Or.inl ⟨rfl, mALL (in_t3 (i := 122) rfl) rfl⟩)
set_option maxRecDepth 40000 in
theorem ca_12_108 : cOK (12, 108, 231, 0, 0) := callOk_of cb_231 (Or.inl ⟨Or.inl rfl, cv_231⟩) (Or.inl ⟨rfl, mALL (in_t6 (i := 184) rfl) rfl⟩)
set_option maxRecDepth 40000 in
theorem ca_12_109 : cOK (12, 109, 104, 0, 0) := callOk_of cb_104 (Or.inl ⟨Or.inl rfl, cv_104⟩) (Or.inl ⟨rfl, mALL (in_t3 (i := 133) rfl) rfl⟩)
set_option maxRecDepth 40000 in
theorem ca_12_112 : cOK (12, 112, 232, 0, 0) := callOk_of cb_232 (Or.inl ⟨Or.inl rfl, cv_232⟩) (Or.inl ⟨rfl, mALL (in_t6 (i := 190) rfl) rfl⟩)
set_option maxRecDepth 40000 in
theorem ca_12_113 : cOK (12, 113, 105, 1, 0) := callOk_of cb_105 (Or.inl ⟨Or.inl rfl, cv_105⟩) (Or.inl ⟨rfl, mALL (in_t3 (i := 137) rfl) rfl⟩)
set_option maxRecDepth 40000 in
theorem ca_12_116 : cOK (12, 116, 233, 1, 0) := callOk_of cb_233 (Or.inl ⟨Or.inl rfl, cv_233⟩) (Or.inl ⟨rfl, mALL (in_t6 (i := 194) rfl) rfl⟩)
set_option maxRecDepth 40000 in
theorem ca_12_117 : cOK (12, 117, 106, 1, 0) := callOk_of cb_106 (Or.inl ⟨Or.inl rfl, cv_106⟩) (Or.inl ⟨rfl, mALL (in_t3 (i := 141) rfl) rfl⟩)
set_option maxRecDepth 40000 in
theorem ca_12_120 : cOK (12, 120, 234, 1, 0) := callOk_of cb_234 (Or.inl ⟨Or.inl rfl, cv_234⟩) (Or.inl ⟨rfl, mALL (in_t6 (i := 198) rfl) rfl⟩)
set_option maxRecDepth 40000 in
theorem ca_12_121 : cOK (12, 121, 107, 3, 0) := callOk_of cb_107 (Or.inl ⟨Or.inl rfl, cv_107⟩) (Or.inl ⟨rfl, mALL (in_t3 (i := 146) rfl) rfl⟩)
set_option maxRecDepth 40000 in
theorem ca_12_124 : cOK (12, 124, 235, 3, 0) := callOk_of cb_235 (Or.inl ⟨Or.inl rfl, cv_235⟩) (Or.inl ⟨rfl, mALL (in_t6 (i := 202) rfl) rfl⟩)
set_option maxRecDepth 40000 in
theorem ca_12_125 : cOK (12, 125, 108, 1, 0) := callOk_of cb_108 (Or.inl ⟨Or.inl rfl, cv_108⟩) (Or.inl ⟨rfl, mALL (in_t3 (i := 150) rfl) rfl⟩)
set_option maxRecDepth 40000 in
theorem ca_12_128 : cOK (12, 128, 236, 1, 0) := callOk_of cb_236 (Or.inl ⟨Or.inl rfl, cv_236⟩) (Or.inl ⟨rfl, mALL (in_t6 (i := 206) rfl) rfl⟩)
set_option maxRecDepth 40000 in
theorem ca_12_129 : cOK (12, 129, 109, 2, 0) := callOk_of cb_109 (Or.inl ⟨Or.inl rfl, cv_109⟩) (Or.inl ⟨rfl, mALL (in_t3 (i := 158) rfl) rfl⟩)
set_option maxRecDepth 40000 in
theorem ca_12_132 : cOK (12, 132, 237, 2, 0) := callOk_of cb_237 (Or.inl ⟨Or.inl rfl, cv_237⟩) (Or.inl ⟨rfl, mALL (in_t6 (i := 210) rfl) rfl⟩)
set_option maxRecDepth 40000 in
theorem ca_12_133 : cOK (12, 133, 110, 2, 0) := callOk_of cb_110 (Or.inl ⟨Or.inl rfl, cv_110⟩) (Or.inl ⟨rfl, mALL (in_t3 (i := 162) rfl) rfl⟩)
set_option maxRecDepth 40000 in
theorem ca_12_136 : cOK (12, 136, 238, 2, 0) := callOk_of cb_238 (Or.inl ⟨Or.inl rfl, cv_238⟩) (Or.inl ⟨rfl, mALL (in_t6 (i := 214) rfl) rfl⟩)
set_option maxRecDepth 40000 in
theorem ca_12_137 : cOK (12, 137, 111, 2, 0) := callOk_of cb_111 (Or.inl ⟨Or.inl rfl, cv_111⟩) (Or.inl ⟨rfl, mALL (in_t3 (i := 166) rfl) rfl⟩)
set_option maxRecDepth 40000 in
theorem ca_12_140 : cOK (12, 140, 243, 2, 0) := callOk_of cb_243 (Or.inl ⟨Or.inl rfl, cv_243⟩) (Or.inl ⟨rfl, mALL (in_t6 (i := 218) rfl) rfl⟩)
set_option maxRecDepth 40000 in
theorem ca_12_141 : cOK (12, 141, 112, 0, 0) := callOk_of cb_112 (Or.inl ⟨Or.inl rfl, cv_112⟩) (Or.inl ⟨rfl, mALL (in_t3 (i := 220) rfl) rfl⟩)
set_option maxRecDepth 40000 in
theorem ca_12_144 : cOK (12, 144, 244, 0, 0) := callOk_of cb_244 (Or.inl ⟨Or.inl rfl, cv_244⟩) (Or.inl ⟨rfl, mALL (in_t6 (i := 238) rfl) rfl⟩)
set_option maxRecDepth 40000 in
theorem ca_12_145 : cOK (12, 145, 113, 1, 0) := callOk_of cb_113 (Or.inl ⟨Or.inl rfl, cv_113⟩) (Or.inl ⟨rfl, mALL (in_t3 (i := 224) rfl) rfl⟩)
set_option maxRecDepth 40000 in
theorem ca_12_148 : cOK (12, 148, 246, 1, 0) := callOk_of cb_246 (Or.inl ⟨Or.inl rfl, cv_246⟩) (Or.inl ⟨rfl, mALL (in_t7 (i := 2) rfl) rfl⟩)
set_option maxRecDepth 40000 in
theorem ca_12_149 : cOK (12, 149, 114, 1, 0) := callOk_of cb_114 (Or.inl ⟨Or.inl rfl, cv_114⟩) (Or.inl ⟨rfl, mALL (in_t3 (i := 232) rfl) rfl⟩)
set_option maxRecDepth 40000 in
theorem ca_12_152 : cOK (12, 152, 247, 1, 0) := callOk_of cb_247 (Or.inl ⟨Or.inl rfl, cv_247⟩) (Or.inl ⟨rfl, mALL (in_t7 (i := 10) rfl) rfl⟩)
set_option maxRecDepth 40000 in
theorem ca_12_153 : cOK (12, 153, 115, 0, 0) := callOk_of cb_115 (Or.inl ⟨Or.inl rfl, cv_115⟩) (Or.inl ⟨rfl, mALL (in_t4 (i := 3) rfl) rfl⟩)
set_option maxRecDepth 40000 in
theorem ca_12_156 : cOK (12, 156, 249, 0, 0) := callOk_of cb_249 (Or.inl ⟨Or.inl rfl, cv_249⟩) (Or.inl ⟨rfl, mALL (in_t7 (i := 22) rfl) rfl⟩)
set_option maxRecDepth 40000 in
theorem ca_12_157 : cOK (12, 157, 116, 1, 0) := callOk_of cb_116 (Or.inl ⟨Or.inl rfl, cv_116⟩) (Or.inl ⟨rfl, mALL (in_t4 (i := 9) rfl) rfl⟩)
set_option maxRecDepth 40000 in
theorem ca_12_160 : cOK (12, 160, 251, 1, 0) := callOk_of cb_251 (Or.inl ⟨Or.inl rfl, cv_251⟩) (Or.inl ⟨rfl, mALL (in_t7 (i := 30) rfl) rfl⟩)
set_option maxRecDepth 40000 in
theorem ca_12_161 : cOK (12, 161, 117, 2, 0) := callOk_of cb_117 (Or.inl ⟨Or.inl rfl, cv_117⟩) (Or.inl ⟨rfl, mALL (in_t4 (i := 18) rfl) rfl⟩)
set_option maxRecDepth 40000 in
theorem ca_12_164 : cOK (12, 164, 252, 2, 0) := callOk_of cb_252 (Or.inl ⟨Or.inl rfl, cv_252⟩) (Or.inl ⟨rfl, mALL (in_t7 (i := 37) rfl) rfl⟩)
set_option maxRecDepth 40000 in
theorem ca_12_165 : cOK (12, 165, 118, 2, 0) := callOk_of cb_118 (Or.inl ⟨Or.inl rfl, cv_118⟩) (Or.inl ⟨rfl, mALL (in_t4 (i := 22) rfl) rfl⟩)
set_option maxRecDepth 40000 in
theorem ca_12_168 : cOK (12, 168, 253, 2, 0) := callOk_of cb_253 (Or.inl ⟨Or.inl rfl, cv_253⟩) (Or.inl ⟨rfl, mALL (in_t7 (i := 41) rfl) rfl⟩)
set_option maxRecDepth 40000 in
theorem ca_12_169 : cOK (12, 169, 119, 0, 0) := callOk_of cb_119 (Or.inl ⟨Or.inl rfl, cv_119⟩) (Or.inl ⟨rfl, mALL (in_t4 (i := 33) rfl) rfl⟩)
set_option maxRecDepth 40000 in
theorem ca_12_172 : cOK (12, 172, 254, 0, 0) := callOk_of cb_254 (Or.inl ⟨Or.inl rfl, cv_254⟩) (Or.inl ⟨rfl, mALL (in_t7 (i := 45) rfl) rfl⟩)
set_option maxRecDepth 40000 in
theorem ca_12_173 : cOK (12, 173, 120, 0, 0) := callOk_of cb_120 (Or.inl ⟨Or.inl rfl, cv_120⟩) (Or.inl ⟨rfl, mALL (in_t4 (i := 41) rfl) rfl⟩)
set_option maxRecDepth 40000 in
theorem ca_12_176 : cOK (12, 176, 257, 0, 0) := callOk_of cb_257 (Or.inl ⟨Or.inl rfl, cv_257⟩) (Or.inl ⟨rfl, mALL (in_t7 (i := 49) rfl) rfl⟩)
set_option maxRecDepth 40000 in
theorem ca_12_177 : cOK (12, 177, 121, 0, 0) := callOk_of cb_121 (Or.inl ⟨Or.inl rfl, cv_121⟩) (Or.inl ⟨rfl, mALL (in_t4 (i := 67) rfl) rfl⟩)
set_option maxRecDepth 40000 in
theorem ca_12_180 : cOK (12, 180, 258, 0, 0) := callOk_of cb_258 (Or.inl ⟨Or.inl rfl, cv_258⟩) (Or.inl ⟨rfl, mALL (in_t7 (i := 61) rfl) rfl⟩)
set_option maxRecDepth 40000 in
theorem ca_12_181 : cOK (12, 181, 122, 3, 0) := callOk_of cb_122 (Or.inl ⟨Or.inl rfl, cv_122⟩) (Or.inl ⟨rfl, mALL (in_t4 (i := 75) rfl) rfl⟩)
set_option maxRecDepth 40000 in
theorem ca_12_184 : cOK (12, 184, 259, 3, 0) := callOk_of cb_259 (Or.inl ⟨Or.inl rfl, cv_259⟩) (Or.inl ⟨rfl, mALL (in_t7 (i := 65) rfl) rfl⟩)
set_option maxRecDepth 40000 in
theorem ca_12_185 : cOK (12, 185, 123, 0, 0) := callOk_of cb_123 (Or.inl ⟨Or.inl rfl, cv_123⟩) (Or.inl ⟨rfl, mALL (in_t4 (i := 79) rfl) rfl⟩)
set_option maxRecDepth 40000 in
theorem ca_12_188 : cOK (12, 188, 260, 0, 0) := callOk_of cb_260 (Or.inl ⟨Or.inl rfl, cv_260⟩) (Or.inl ⟨rfl, mALL (in_t7 (i := 69) rfl) rfl⟩)
set_option maxRecDepth 40000 in
theorem ca_12_189 : cOK (12, 189, 124, 0, 0) := callOk_of cb_124 (Or.inl ⟨Or.inl rfl, cv_124⟩) (Or.inl ⟨rfl, mALL (in_t4 (i := 83) rfl) rfl⟩)
set_option maxRecDepth 40000 in
theorem ca_12_192 : cOK (12, 192, 263, 0, 0) := callOk_of cb_263 (Or.inl ⟨Or.inl rfl, cv_263⟩) (Or.inl ⟨rfl, mALL (in_t7 (i := 73) rfl) rfl⟩)
set_option maxRecDepth 40000 in
theorem ca_12_193 : cOK (12, 193, 125, 0, 0) := callOk_of cb_125 (Or.inl ⟨Or.inl rfl, cv_125⟩) (Or.inl ⟨rfl, mALL (in_t4 (i := 103) rfl) rfl⟩)
set_option maxRecDepth 40000 in
theorem ca_12_196 : cOK (12, 196, 265, 0, 0) := callOk_of cb_265 (Or.inl ⟨Or.inl rfl, cv_265⟩) (Or.inl ⟨rfl, mALL (in_t7 (i := 84) rfl) rfl⟩)
set_option maxRecDepth 40000 in
theorem ca_12_197 : cOK (12, 197, 126, 2, 0) := callOk_of cb_126 (Or.inl ⟨Or.inl rfl, cv_126⟩) (Or.inl ⟨rfl, mALL (in_t4 (i := 111) rfl) rfl⟩)
set_option maxRecDepth 40000 in
theorem ca_12_200 : cOK (12, 200, 268, 2, 0) := callOk_of cb_268 (Or.inl ⟨Or.inl rfl, cv_268⟩) (Or.inl ⟨rfl, mALL (in_t7 (i := 92) rfl) rfl⟩)
set_option maxRecDepth 40000 in
theorem ca_12_201 : cOK (12, 201, 127, 3, 0) := callOk_of cb_127 (Or.inl ⟨Or.inl rfl, cv_127⟩) (Or.inl ⟨rfl, mALL (in_t4 (i := 120) rfl) rfl⟩)
set_option maxRecDepth 40000 in
theorem ca_12_204 : cOK (12, 204, 270, 3, 0) := callOk_of cb_270 (Or.inl ⟨Or.inl rfl, cv_270⟩) (Or.inl ⟨rfl, mALL (in_t7 (i := 104) rfl) rfl⟩)
set_option maxRecDepth 40000 in
theorem ca_12_205 : cOK (12, 205, 128, 1, 0) := callOk_of cb_128 (Or.inl ⟨Or.inl rfl, cv_128⟩) (Or.inl ⟨rfl, mALL (in_t4 (i := 127) rfl) rfl⟩)
set_option maxRecDepth 40000 in
theorem ca_12_208 : cOK (12, 208, 273, 1, 0) := callOk_of cb_273 (Or.inl ⟨Or.inl rfl, cv_273⟩) (Or.inl ⟨rfl, mALL (in_t7 (i := 112) rfl) rfl⟩)
set_option maxRecDepth 40000 in
theorem ca_12_209 : cOK (12, 209, 129, 0, 0) := callOk_of cb_129 (Or.inl ⟨Or.inl rfl, cv_129⟩) (Or.inl ⟨rfl, mALL (in_t4 (i := 137) rfl) rfl⟩)
set_option maxRecDepth 40000 in
theorem ca_12_212 : cOK (12, 212, 275, 0, 0) := callOk_of cb_275 (Or.inl ⟨Or.inl rfl, cv_275⟩) (Or.inl ⟨rfl, mALL (in_t7 (i := 122) rfl) rfl⟩)
set_option maxRecDepth 40000 in
theorem ca_12_213 : cOK (12, 213, 130, 2, 0) := callOk_of cb_130 (Or.inl ⟨Or.inl rfl, cv_130⟩) (Or.inl ⟨rfl, mALL (in_t4 (i := 145) rfl) rfl⟩)
set_option maxRecDepth 40000 in
theorem ca_12_216 : cOK (12, 216, 277, 2, 0) := callOk_of cb_277 (Or.inl ⟨Or.inl rfl, cv_277⟩) (Or.inl ⟨rfl, mALL (in_t7 (i := 130) rfl) rfl⟩)
set_option maxRecDepth 40000 in
theorem ca_12_217 : cOK (12, 217, 131, 1, 0) := callOk_of cb_131 (Or.inl ⟨Or.inl rfl, cv_131⟩) (Or.inl ⟨rfl, mALL (in_t4 (i := 163) rfl) rfl⟩)
set_option maxRecDepth 40000 in
theorem ca_12_220 : cOK (12, 220, 278, 1, 0) := callOk_of cb_278 (Or.inl ⟨Or.inl rfl, cv_278⟩) (Or.inl ⟨rfl, mALL (in_t7 (i := 139) rfl) rfl⟩)
set_option maxRecDepth 40000 in
theorem ca_12_221 : cOK (12, 221, 132, 1, 0) := callOk_of cb_132 (Or.inl ⟨Or.inl rfl, cv_132⟩) (Or.inl ⟨rfl, mALL (in_t4 (i := 171) rfl) rfl⟩)
set_option maxRecDepth 40000 in
theorem ca_12_224 : cOK (12, 224, 279, 1, 0) := callOk_of cb_279 (Or.inl ⟨Or.inl rfl, cv_279⟩) (Or.inl ⟨rfl, mALL (in_t7 (i := 143) rfl) rfl⟩)
set_option maxRecDepth 40000 in
theorem ca_12_225 : cOK (12, 225, 133, 1, 0) := callOk_of cb_133 (Or.inl ⟨Or.inl rfl, cv_133⟩) (Or.inl ⟨rfl, mALL (in_t4 (i := 175) rfl) rfl⟩)
set_option maxRecDepth 40000 in
theorem ca_12_228 : cOK (12, 228, 282, 1, 0) := callOk_of cb_282 (Or.inl ⟨Or.inl rfl, cv_282⟩) (Or.inl ⟨rfl, mALL (in_t7 (i := 147) rfl) rfl⟩)
set_option maxRecDepth 40000 in
theorem ca_12_232 : cOK (12, 232, 283, 1, 0) := callOk_of cb_283 (Or.inl ⟨Or.inl rfl, cv_283⟩) (Or.inl ⟨rfl, mALL (in_t7 (i := 159) rfl) rfl⟩)
def cT_0 : List (Nat × Nat × Nat × Nat × Nat) := [(0, 13, 2, 2, 2), (0, 26, 8, 1, 1), (0, 30, 9, 1, 1), (0, 33, 4, 3, 2), (0, 37, 10, 1, 1), (2, 17, 39, 0, 5), (2, 25, 286, 2, 2), (2, 31, 13, 1, 0), (2, 35, 40, 1, 1), (3, 17, 20, 2, 2), (3, 21, 18, 1, 0), (3, 25, 21, 1, 0), (4, 42, 289, 2, 2), (4, 48, 25, 1, 0), (4, 52, 26, 1, 0), (4, 55, 33, 1, 0), (4, 59, 142, 1, 3), (4, 62, 31, 1, 0), (4, 65, 29, 1, 2), (4, 68, 32, 1, 0)]
theorem cT_0_ok : ∀ q ∈ cT_0, cOK q := List.forall_mem_cons.mpr ⟨ca_0_13, List.forall_mem_cons.mpr ⟨ca_0_26, List.forall_mem_cons.mpr ⟨ca_0_30, List.forall_mem_cons.mpr ⟨ca_0_33, List.forall_mem_cons.mpr ⟨ca_0_37, List.forall_mem_cons.mpr ⟨ca_2_17, List.forall_mem_cons.mpr ⟨ca_2_25, List.forall_mem_cons.mpr ⟨ca_2_31, List.forall_mem_cons.mpr ⟨ca_2_35, List.forall_mem_cons.mpr ⟨ca_3_17, List.forall_mem_cons.mpr ⟨ca_3_21, List.forall_mem_cons.mpr ⟨ca_3_25, List.forall_mem_cons.mpr ⟨ca_4_42, List.forall_mem_cons.mpr ⟨ca_4_48, List.forall_mem_cons.mpr ⟨ca_4_52, List.forall_mem_cons.mpr ⟨ca_4_55, List.forall_mem_cons.mpr ⟨ca_4_59, List.forall_mem_cons.mpr ⟨ca_4_62, List.forall_mem_cons.mpr ⟨ca_4_65, List.forall_mem_cons.mpr ⟨ca_4_68, fun _ h => absurd h List.not_mem_nil⟩⟩⟩⟩⟩⟩⟩⟩⟩⟩⟩⟩⟩⟩⟩⟩⟩⟩⟩⟩
def cT_1 : List (Nat × Nat × Nat × Nat × Nat) := [(4, 72, 27, 1, 0), (4, 76, 28, 0, 0), (4, 80, 30, 1, 2), (4, 84, 35, 2, 0), (4, 87, 38, 4, 2), (4, 91, 36, 2, 0), (4, 94, 37, 3, 2), (4, 98, 44, 1, 1), (4, 104, 45, 1, 1), (4, 107, 48, 2, 1), (4, 110, 46, 1, 1), (4, 113, 47, 1, 1), (5, 46, 41, 1, 0), (5, 50, 144, 1, 3), (5, 53, 45, 1, 0), (5, 57, 48, 2, 0), (5, 61, 51, 1, 0), (5, 64, 44, 1, 0), (5, 67, 53, 2, 0), (5, 70, 46, 1, 0)]
theorem cT_1_ok : ∀ q ∈ cT_1, cOK q := List.forall_mem_cons.mpr ⟨ca_4_72, List.forall_mem_cons.mpr ⟨ca_4_76, List.forall_mem_cons.mpr ⟨ca_4_80, List.forall_mem_cons.mpr ⟨ca_4_84, List.forall_mem_cons.mpr ⟨ca_4_87, List.forall_mem_cons.mpr ⟨ca_4_91, List.forall_mem_cons.mpr ⟨ca_4_94, List.forall_mem_cons.mpr ⟨ca_4_98, List.forall_mem_cons.mpr ⟨ca_4_104, List.forall_mem_cons.mpr ⟨ca_4_107, List.forall_mem_cons.mpr ⟨ca_4_110, List.forall_mem_cons.mpr ⟨ca_4_113, List.forall_mem_cons.mpr ⟨ca_5_46, List.forall_mem_cons.mpr ⟨ca_5_50, List.forall_mem_cons.mpr ⟨ca_5_53, List.forall_mem_cons.mpr ⟨ca_5_57, List.forall_mem_cons.mpr ⟨ca_5_61, List.forall_mem_cons.mpr ⟨ca_5_64, List.forall_mem_cons.mpr ⟨ca_5_67, List.forall_mem_cons.mpr ⟨ca_5_70, fun _ h => absurd h List.not_mem_nil⟩⟩⟩⟩⟩⟩⟩⟩⟩⟩⟩⟩⟩⟩⟩⟩⟩⟩⟩⟩
def cT_2 : List (Nat × Nat × Nat × Nat × Nat) := [(5, 73, 47, 1, 0), (5, 76, 287, 1, 2), (5, 81, 58, 2, 0), (5, 85, 289, 2, 2), (5, 88, 288, 2, 2), (5, 91, 42, 2, 0), (5, 95, 34, 3, 1), (5, 101, 62, 3, 0), (5, 105, 64, 3, 0), (5, 109, 60, 4, 0), (5, 113, 61, 1, 0), (5, 117, 59, 2, 0), (5, 120, 66, 1, 0), (6, 21, 39, 0, 5), (6, 36, 72, 1, 0), (6, 40, 40, 1, 1), (6, 44, 74, 2, 0), (6, 48, 75, 1, 0), (6, 52, 76, 2, 0), (6, 59, 77, 3, 0)]
theorem cT_2_ok : ∀ q ∈ cT_2, cOK q := List.forall_mem_cons.mpr ⟨ca_5_73, List.forall_mem_cons.mpr ⟨ca_5_76, List.forall_mem_cons.mpr ⟨ca_5_81, List.forall_mem_cons.mpr ⟨ca_5_85, List.forall_mem_cons.mpr ⟨ca_5_88, List.forall_mem_cons.mpr ⟨ca_5_91, List.forall_mem_cons.mpr ⟨ca_5_95, List.forall_mem_cons.mpr ⟨ca_5_101, List.forall_mem_cons.mpr ⟨ca_5_105, List.forall_mem_cons.mpr ⟨ca_5_109, List.forall_mem_cons.mpr ⟨ca_5_113, List.forall_mem_cons.mpr ⟨ca_5_117, List.forall_mem_cons.mpr ⟨ca_5_120, List.forall_mem_cons.mpr ⟨ca_6_21, List.forall_mem_cons.mpr ⟨ca_6_36, List.forall_mem_cons.mpr ⟨ca_6_40, List.forall_mem_cons.mpr ⟨ca_6_44, List.forall_mem_cons.mpr ⟨ca_6_48, List.forall_mem_cons.mpr ⟨ca_6_52, List.forall_mem_cons.mpr ⟨ca_6_59, fun _ h => absurd h List.not_mem_nil⟩⟩⟩⟩⟩⟩⟩⟩⟩⟩⟩⟩⟩⟩⟩⟩⟩⟩⟩⟩
def cT_3 : List (Nat × Nat × Nat × Nat × Nat) := [(6, 63, 62, 3, 1), (6, 67, 78, 3, 0), (6, 70, 79, 1, 2), (6, 74, 45, 1, 1), (6, 78, 48, 2, 1), (6, 82, 64, 3, 1), (6, 86, 289, 2, 2), (6, 91, 288, 2, 2), (8, 9, 80, 0, 5), (8, 18, 16, 0, 5), (8, 25, 39, 0, 5), (8, 38, 11, 0, 5), (8, 51, 69, 0, 5), (8, 58, 5, 0, 5), (8, 68, 0, 0, 5), (8, 75, 23, 0, 5), (8, 91, 24, 2, 1), (8, 98, 81, 1, 1), (8, 102, 83, 0, 1), (8, 106, 135, 1, 0)]
theorem cT_3_ok : ∀ q ∈ cT_3, cOK q := List.forall_mem_cons.mpr ⟨ca_6_63, List.forall_mem_cons.mpr ⟨ca_6_67, List.forall_mem_cons.mpr ⟨ca_6_70, List.forall_mem_cons.mpr ⟨ca_6_74, List.forall_mem_cons.mpr ⟨ca_6_78, List.forall_mem_cons.mpr ⟨ca_6_82, List.forall_mem_cons.mpr ⟨ca_6_86, List.forall_mem_cons.mpr ⟨ca_6_91, List.forall_mem_cons.mpr ⟨ca_8_9, List.forall_mem_cons.mpr ⟨ca_8_18, List.forall_mem_cons.mpr ⟨ca_8_25, List.forall_mem_cons.mpr ⟨ca_8_38, List.forall_mem_cons.mpr ⟨ca_8_51, List.forall_mem_cons.mpr ⟨ca_8_58, List.forall_mem_cons.mpr ⟨ca_8_68, List.forall_mem_cons.mpr ⟨ca_8_75, List.forall_mem_cons.mpr ⟨ca_8_91, List.forall_mem_cons.mpr ⟨ca_8_98, List.forall_mem_cons.mpr ⟨ca_8_102, List.forall_mem_cons.mpr ⟨ca_8_106, fun _ h => absurd h List.not_mem_nil⟩⟩⟩⟩⟩⟩⟩⟩⟩⟩⟩⟩⟩⟩⟩⟩⟩⟩⟩⟩
def cT_4 : List (Nat × Nat × Nat × Nat × Nat) := [(8, 110, 82, 1, 1), (8, 114, 57, 2, 1), (8, 118, 12, 0, 1), (8, 124, 137, 0, 0), (8, 127, 41, 1, 1), (8, 138, 43, 1, 1), (8, 141, 44, 1, 1), (8, 144, 45, 1, 1), (8, 147, 46, 1, 1), (8, 150, 47, 1, 1), (8, 153, 48, 2, 1), (8, 157, 42, 2, 1), (8, 161, 34, 3, 1), (8, 165, 289, 2, 2), (8, 170, 288, 2, 2), (8, 176, 145, 2, 2), (8, 179, 59, 2, 1), (8, 182, 50, 0, 1), (8, 185, 40, 1, 1), (8, 189, 63, 4, 1)]
theorem cT_4_ok : ∀ q ∈ cT_4, cOK q := List.forall_mem_cons.mpr ⟨ca_8_110, List.forall_mem_cons.mpr ⟨ca_8_114, List.forall_mem_cons.mpr ⟨ca_8_118, List.forall_mem_cons.mpr ⟨ca_8_124, List.forall_mem_cons.mpr ⟨ca_8_127, List.forall_mem_cons.mpr ⟨ca_8_138, List.forall_mem_cons.mpr ⟨ca_8_141, List.forall_mem_cons.mpr ⟨ca_8_144, List.forall_mem_cons.mpr ⟨ca_8_147, List.forall_mem_cons.mpr ⟨ca_8_150, List.forall_mem_cons.mpr ⟨ca_8_153, List.forall_mem_cons.mpr ⟨ca_8_157, List.forall_mem_cons.mpr ⟨ca_8_161, List.forall_mem_cons.mpr ⟨ca_8_165, List.forall_mem_cons.mpr ⟨ca_8_170, List.forall_mem_cons.mpr ⟨ca_8_176, List.forall_mem_cons.mpr ⟨ca_8_179, List.forall_mem_cons.mpr ⟨ca_8_182, List.forall_mem_cons.mpr ⟨ca_8_185, List.forall_mem_cons.mpr ⟨ca_8_189, fun _ h => absurd h List.not_mem_nil⟩⟩⟩⟩⟩⟩⟩⟩⟩⟩⟩⟩⟩⟩⟩⟩⟩⟩⟩⟩
def cT_5 : List (Nat × Nat × Nat × Nat × Nat) := [(8, 193, 14, 1, 1), (8, 196, 65, 1, 1), (8, 200, 17, 0, 1), (8, 201, 52, 1, 1), (8, 204, 18, 1, 1), (8, 207, 67, 3, 1), (8, 211, 68, 2, 1), (8, 214, 138, 1, 0), (8, 217, 141, 1, 0), (8, 220, 140, 1, 2), (8, 227, 15, 1, 1), (8, 232, 144, 1, 2), (8, 235, 19, 2, 1), (8, 239, 49, 1, 1), (8, 242, 56, 2, 1), (8, 245, 62, 3, 1), (8, 249, 147, 3, 0), (8, 253, 70, 4, 1), (8, 257, 73, 1, 1), (8, 261, 148, 1, 0)]
theorem cT_5_ok : ∀ q ∈ cT_5, cOK q := List.forall_mem_cons.mpr ⟨ca_8_193, List.forall_mem_cons.mpr ⟨ca_8_196, List.forall_mem_cons.mpr ⟨ca_8_200, List.forall_mem_cons.mpr ⟨ca_8_201, List.forall_mem_cons.mpr ⟨ca_8_204, List.forall_mem_cons.mpr ⟨ca_8_207, List.forall_mem_cons.mpr ⟨ca_8_211, List.forall_mem_cons.mpr ⟨ca_8_214, List.forall_mem_cons.mpr ⟨ca_8_217, List.forall_mem_cons.mpr ⟨ca_8_220, List.forall_mem_cons.mpr ⟨ca_8_227, List.forall_mem_cons.mpr ⟨ca_8_232, List.forall_mem_cons.mpr ⟨ca_8_235, List.forall_mem_cons.mpr ⟨ca_8_239, List.forall_mem_cons.mpr ⟨ca_8_242, List.forall_mem_cons.mpr ⟨ca_8_245, List.forall_mem_cons.mpr ⟨ca_8_249, List.forall_mem_cons.mpr ⟨ca_8_253, List.forall_mem_cons.mpr ⟨ca_8_257, List.forall_mem_cons.mpr ⟨ca_8_261, fun _ h => absurd h List.not_mem_nil⟩⟩⟩⟩⟩⟩⟩⟩⟩⟩⟩⟩⟩⟩⟩⟩⟩⟩⟩⟩
def cT_6 : List (Nat × Nat × Nat × Nat × Nat) := [(8, 264, 149, 0, 0), (8, 267, 285, 1, 2), (8, 272, 53, 2, 1), (8, 275, 51, 1, 1), (8, 278, 287, 1, 2), (8, 281, 163, 1, 2), (8, 284, 156, 1, 2), (8, 287, 6, 3, 1), (8, 290, 7, 0, 1), (8, 291, 157, 0, 0), (8, 294, 155, 1, 0), (8, 297, 1, 1, 1), (8, 304, 3, 2, 1), (8, 307, 160, 2, 2), (8, 310, 164, 2, 2), (8, 314, 161, 3, 2), (8, 317, 150, 1, 0), (8, 324, 151, 0, 0), (8, 327, 54, 0, 1), (8, 330, 146, 1, 0)]
theorem cT_6_ok : ∀ q ∈ cT_6, cOK q := List.forall_mem_cons.mpr ⟨ca_8_264, List.forall_mem_cons.mpr ⟨ca_8_267, List.forall_mem_cons.mpr ⟨ca_8_272, List.forall_mem_cons.mpr ⟨ca_8_275, List.forall_mem_cons.mpr ⟨ca_8_278, List.forall_mem_cons.mpr ⟨ca_8_281, List.forall_mem_cons.mpr ⟨ca_8_284, List.forall_mem_cons.mpr ⟨ca_8_287, List.forall_mem_cons.mpr ⟨ca_8_290, List.forall_mem_cons.mpr ⟨ca_8_291, List.forall_mem_cons.mpr ⟨ca_8_294, List.forall_mem_cons.mpr ⟨ca_8_297, List.forall_mem_cons.mpr ⟨ca_8_304, List.forall_mem_cons.mpr ⟨ca_8_307, List.forall_mem_cons.mpr ⟨ca_8_310, List.forall_mem_cons.mpr ⟨ca_8_314, List.forall_mem_cons.mpr ⟨ca_8_317, List.forall_mem_cons.mpr ⟨ca_8_324, List.forall_mem_cons.mpr ⟨ca_8_327, List.forall_mem_cons.mpr ⟨ca_8_330, fun _ h => absurd h List.not_mem_nil⟩⟩⟩⟩⟩⟩⟩⟩⟩⟩⟩⟩⟩⟩⟩⟩⟩⟩⟩⟩
def cT_7 : List (Nat × Nat × Nat × Nat × Nat) := [(8, 337, 55, 0, 1), (8, 341, 153, 0, 0), (8, 344, 154, 0, 0), (8, 347, 21, 1, 1), (8, 350, 22, 1, 1), (8, 353, 136, 1, 0), (8, 356, 143, 1, 2), (8, 360, 142, 1, 2), (8, 366, 139, 3, 2), (8, 370, 71, 1, 1), (8, 373, 152, 1, 0), (8, 377, 158, 1, 0), (8, 380, 8, 1, 1), (8, 383, 9, 1, 1), (8, 386, 159, 3, 0), (8, 393, 162, 3, 2), (9, 95, 167, 3, 2), (9, 99, 171, 1, 0), (9, 103, 175, 3, 2), (9, 125, 179, 3, 0)]
theorem cT_7_ok : ∀ q ∈ cT_7, cOK q := List.forall_mem_cons.mpr ⟨ca_8_337, List.forall_mem_cons.mpr ⟨ca_8_341, List.forall_mem_cons.mpr ⟨ca_8_344, List.forall_mem_cons.mpr ⟨ca_8_347, List.forall_mem_cons.mpr ⟨ca_8_350, List.forall_mem_cons.mpr ⟨ca_8_353, List.forall_mem_cons.mpr ⟨ca_8_356, List.forall_mem_cons.mpr ⟨ca_8_360, List.forall_mem_cons.mpr ⟨ca_8_366, List.forall_mem_cons.mpr ⟨ca_8_370, List.forall_mem_cons.mpr ⟨ca_8_373, List.forall_mem_cons.mpr ⟨ca_8_377, List.forall_mem_cons.mpr ⟨ca_8_380, List.forall_mem_cons.mpr ⟨ca_8_383, List.forall_mem_cons.mpr ⟨ca_8_386, List.forall_mem_cons.mpr ⟨ca_8_393, List.forall_mem_cons.mpr ⟨ca_9_95, List.forall_mem_cons.mpr ⟨ca_9_99, List.forall_mem_cons.mpr ⟨ca_9_103, List.forall_mem_cons.mpr ⟨ca_9_125, fun _ h => absurd h List.not_mem_nil⟩⟩⟩⟩⟩⟩⟩⟩⟩⟩⟩⟩⟩⟩⟩⟩⟩⟩⟩⟩
def cT_8 : List (Nat × Nat × Nat × Nat × Nat) := [(9, 129, 182, 0, 0), (9, 133, 181, 0, 0), (9, 137, 184, 1, 0), (9, 141, 183, 1, 0), (9, 145, 186, 2, 0), (9, 149, 180, 1, 0), (9, 152, 188, 0, 0), (9, 161, 191, 1, 0), (9, 165, 192, 1, 0), (9, 168, 194, 1, 0), (9, 171, 190, 1, 0), (9, 174, 185, 1, 0), (9, 178, 187, 1, 0), (9, 181, 193, 1, 2), (9, 188, 195, 0, 0), (9, 194, 176, 2, 2), (9, 198, 169, 0, 0), (9, 201, 172, 2, 0), (9, 205, 197, 3, 0), (9, 208, 289, 2, 2)]
theorem cT_8_ok : ∀ q ∈ cT_8, cOK q := List.forall_mem_cons.mpr ⟨ca_9_129, List.forall_mem_cons.mpr ⟨ca_9_133, List.forall_mem_cons.mpr ⟨ca_9_137, List.forall_mem_cons.mpr ⟨ca_9_141, List.forall_mem_cons.mpr ⟨ca_9_145, List.forall_mem_cons.mpr ⟨ca_9_149, List.forall_mem_cons.mpr ⟨ca_9_152, List.forall_mem_cons.mpr ⟨ca_9_161, List.forall_mem_cons.mpr ⟨ca_9_165, List.forall_mem_cons.mpr ⟨ca_9_168, List.forall_mem_cons.mpr ⟨ca_9_171, List.forall_mem_cons.mpr ⟨ca_9_174, List.forall_mem_cons.mpr ⟨ca_9_178, List.forall_mem_cons.mpr ⟨ca_9_181, List.forall_mem_cons.mpr ⟨ca_9_188, List.forall_mem_cons.mpr ⟨ca_9_194, List.forall_mem_cons.mpr ⟨ca_9_198, List.forall_mem_cons.mpr ⟨ca_9_201, List.forall_mem_cons.mpr ⟨ca_9_205, List.forall_mem_cons.mpr ⟨ca_9_208, fun _ h => absurd h List.not_mem_nil⟩⟩⟩⟩⟩⟩⟩⟩⟩⟩⟩⟩⟩⟩⟩⟩⟩⟩⟩⟩
def cT_9 : List (Nat × Nat × Nat × Nat × Nat) := [(9, 214, 288, 2, 2), (9, 217, 201, 2, 0), (9, 220, 203, 3, 2), (9, 224, 284, 2, 2), (9, 229, 206, 3, 0), (9, 232, 205, 2, 2), (9, 236, 204, 1, 0), (9, 240, 207, 3, 0), (9, 243, 209, 2, 0), (9, 246, 210, 1, 0), (9, 249, 211, 2, 0), (9, 252, 212, 2, 0), (9, 255, 170, 1, 0), (9, 259, 173, 1, 2), (9, 262, 214, 4, 0), (9, 266, 215, 4, 2), (9, 270, 217, 2, 0), (9, 273, 218, 2, 0), (9, 277, 221, 1, 0), (9, 280, 222, 1, 0)]
theorem cT_9_ok : ∀ q ∈ cT_9, cOK q := List.forall_mem_cons.mpr ⟨ca_9_214, List.forall_mem_cons.mpr ⟨ca_9_217, List.forall_mem_cons.mpr ⟨ca_9_220, List.forall_mem_cons.mpr ⟨ca_9_224, List.forall_mem_cons.mpr ⟨ca_9_229, List.forall_mem_cons.mpr ⟨ca_9_232, List.forall_mem_cons.mpr ⟨ca_9_236, List.forall_mem_cons.mpr ⟨ca_9_240, List.forall_mem_cons.mpr ⟨ca_9_243, List.forall_mem_cons.mpr ⟨ca_9_246, List.forall_mem_cons.mpr ⟨ca_9_249, List.forall_mem_cons.mpr ⟨ca_9_252, List.forall_mem_cons.mpr ⟨ca_9_255, List.forall_mem_cons.mpr ⟨ca_9_259, List.forall_mem_cons.mpr ⟨ca_9_262, List.forall_mem_cons.mpr ⟨ca_9_266, List.forall_mem_cons.mpr ⟨ca_9_270, List.forall_mem_cons.mpr ⟨ca_9_273, List.forall_mem_cons.mpr ⟨ca_9_277, List.forall_mem_cons.mpr ⟨ca_9_280, fun _ h => absurd h List.not_mem_nil⟩⟩⟩⟩⟩⟩⟩⟩⟩⟩⟩⟩⟩⟩⟩⟩⟩⟩⟩⟩
def cT_10 : List (Nat × Nat × Nat × Nat × Nat) := [(9, 283, 225, 2, 2), (9, 287, 226, 2, 0), (9, 291, 229, 2, 2), (9, 295, 287, 1, 2), (9, 298, 239, 1, 0), (9, 301, 240, 2, 0), (9, 304, 241, 4, 0), (9, 308, 242, 2, 0), (9, 311, 245, 1, 0), (9, 314, 174, 0, 0), (9, 317, 168, 2, 2), (9, 320, 285, 1, 2), (9, 323, 248, 1, 0), (9, 326, 250, 1, 2), (9, 333, 255, 3, 0), (9, 336, 256, 0, 0), (9, 345, 261, 4, 2), (9, 348, 262, 2, 0), (9, 351, 264, 2, 0), (9, 354, 266, 2, 0)]
theorem cT_10_ok : ∀ q ∈ cT_10, cOK q := List.forall_mem_cons.mpr ⟨ca_9_283, List.forall_mem_cons.mpr ⟨ca_9_287, List.forall_mem_cons.mpr ⟨ca_9_291, List.forall_mem_cons.mpr ⟨ca_9_295, List.forall_mem_cons.mpr ⟨ca_9_298, List.forall_mem_cons.mpr ⟨ca_9_301, List.forall_mem_cons.mpr ⟨ca_9_304, List.forall_mem_cons.mpr ⟨ca_9_308, List.forall_mem_cons.mpr ⟨ca_9_311, List.forall_mem_cons.mpr ⟨ca_9_314, List.forall_mem_cons.mpr ⟨ca_9_317, List.forall_mem_cons.mpr ⟨ca_9_320, List.forall_mem_cons.mpr ⟨ca_9_323, List.forall_mem_cons.mpr ⟨ca_9_326, List.forall_mem_cons.mpr ⟨ca_9_333, List.forall_mem_cons.mpr ⟨ca_9_336, List.forall_mem_cons.mpr ⟨ca_9_345, List.forall_mem_cons.mpr ⟨ca_9_348, List.forall_mem_cons.mpr ⟨ca_9_351, List.forall_mem_cons.mpr ⟨ca_9_354, fun _ h => absurd h List.not_mem_nil⟩⟩⟩⟩⟩⟩⟩⟩⟩⟩⟩⟩⟩⟩⟩⟩⟩⟩⟩⟩
def cT_11 : List (Nat × Nat × Nat × Nat × Nat) := [(9, 357, 267, 2, 0), (9, 360, 269, 2, 2), (9, 366, 271, 3, 2), (9, 370, 272, 3, 2), (9, 373, 274, 0, 0), (9, 380, 276, 1, 0), (9, 383, 280, 0, 0), (9, 386, 281, 0, 0), (12, 7, 89, 2, 0), (12, 15, 134, 1, 0), (12, 19, 84, 0, 4), (12, 22, 165, 0, 4), (12, 23, 85, 1, 0), (12, 27, 177, 1, 0), (12, 28, 86, 1, 0), (12, 32, 178, 1, 0), (12, 33, 87, 0, 0), (12, 37, 189, 0, 0), (12, 38, 88, 0, 0), (12, 41, 196, 0, 0)]
theorem cT_11_ok : ∀ q ∈ cT_11, cOK q := List.forall_mem_cons.mpr ⟨ca_9_357, List.forall_mem_cons.mpr ⟨ca_9_360, List.forall_mem_cons.mpr ⟨ca_9_366, List.forall_mem_cons.mpr ⟨ca_9_370, List.forall_mem_cons.mpr ⟨ca_9_373, List.forall_mem_cons.mpr ⟨ca_9_380, List.forall_mem_cons.mpr ⟨ca_9_383, List.forall_mem_cons.mpr ⟨ca_9_386, List.forall_mem_cons.mpr ⟨ca_12_7, List.forall_mem_cons.mpr ⟨ca_12_15, List.forall_mem_cons.mpr ⟨ca_12_19, List.forall_mem_cons.mpr ⟨ca_12_22, List.forall_mem_cons.mpr ⟨ca_12_23, List.forall_mem_cons.mpr ⟨ca_12_27, List.forall_mem_cons.mpr ⟨ca_12_28, List.forall_mem_cons.mpr ⟨ca_12_32, List.forall_mem_cons.mpr ⟨ca_12_33, List.forall_mem_cons.mpr ⟨ca_12_37, List.forall_mem_cons.mpr ⟨ca_12_38, List.forall_mem_cons.mpr ⟨ca_12_41, fun _ h => absurd h List.not_mem_nil⟩⟩⟩⟩⟩⟩⟩⟩⟩⟩⟩⟩⟩⟩⟩⟩⟩⟩⟩⟩
def cT_12 : List (Nat × Nat × Nat × Nat × Nat) := [(12, 47, 198, 2, 0), (12, 48, 166, 0, 0), (12, 51, 90, 2, 0), (12, 54, 199, 2, 0), (12, 55, 91, 1, 0), (12, 58, 200, 1, 0), (12, 59, 92, 4, 0), (12, 63, 202, 4, 0), (12, 64, 93, 2, 0), (12, 67, 208, 2, 0), (12, 68, 94, 1, 0), (12, 71, 213, 1, 0), (12, 72, 95, 3, 0), (12, 76, 216, 3, 0), (12, 77, 96, 2, 0), (12, 80, 219, 2, 0), (12, 81, 97, 0, 0), (12, 84, 220, 0, 0), (12, 85, 98, 0, 0), (12, 88, 223, 0, 0)]
theorem cT_12_ok : ∀ q ∈ cT_12, cOK q := List.forall_mem_cons.mpr ⟨ca_12_47, List.forall_mem_cons.mpr ⟨ca_12_48, List.forall_mem_cons.mpr ⟨ca_12_51, List.forall_mem_cons.mpr ⟨ca_12_54, List.forall_mem_cons.mpr ⟨ca_12_55, List.forall_mem_cons.mpr ⟨ca_12_58, List.forall_mem_cons.mpr ⟨ca_12_59, List.forall_mem_cons.mpr ⟨ca_12_63, List.forall_mem_cons.mpr ⟨ca_12_64, List.forall_mem_cons.mpr ⟨ca_12_67, List.forall_mem_cons.mpr ⟨ca_12_68, List.forall_mem_cons.mpr ⟨ca_12_71, List.forall_mem_cons.mpr ⟨ca_12_72, List.forall_mem_cons.mpr ⟨ca_12_76, List.forall_mem_cons.mpr ⟨ca_12_77, List.forall_mem_cons.mpr ⟨ca_12_80, List.forall_mem_cons.mpr ⟨ca_12_81, List.forall_mem_cons.mpr ⟨ca_12_84, List.forall_mem_cons.mpr ⟨ca_12_85, List.forall_mem_cons.mpr ⟨ca_12_88, fun _ h => absurd h List.not_mem_nil⟩⟩⟩⟩⟩⟩⟩⟩⟩⟩⟩⟩⟩⟩⟩⟩⟩⟩⟩⟩
def cT_13 : List (Nat × Nat × Nat × Nat × Nat) := [(12, 89, 99, 1, 0), (12, 92, 224, 1, 0), (12, 93, 100, 1, 0), (12, 96, 227, 1, 0), (12, 97, 101, 2, 0), (12, 100, 228, 2, 0), (12, 101, 102, 1, 0), (12, 104, 230, 1, 0), (12, 105, 103, 0, 0), (12, 108, 231, 0, 0), (12, 109, 104, 0, 0), (12, 112, 232, 0, 0), (12, 113, 105, 1, 0), (12, 116, 233, 1, 0), (12, 117, 106, 1, 0), (12, 120, 234, 1, 0), (12, 121, 107, 3, 0), (12, 124, 235, 3, 0), (12, 125, 108, 1, 0), (12, 128, 236, 1, 0)]
theorem cT_13_ok : ∀ q ∈ cT_13, cOK q := List.forall_mem_cons.mpr ⟨ca_12_89, List.forall_mem_cons.mpr ⟨ca_12_92, List.forall_mem_cons.mpr ⟨ca_12_93, List.forall_mem_cons.mpr ⟨ca_12_96, List.forall_mem_cons.mpr ⟨ca_12_97, List.forall_mem_cons.mpr ⟨ca_12_100, List.forall_mem_cons.mpr ⟨ca_12_101, List.forall_mem_cons.mpr ⟨ca_12_104, List.forall_mem_cons.mpr ⟨ca_12_105, List.forall_mem_cons.mpr ⟨ca_12_108, List.forall_mem_cons.mpr ⟨ca_12_109, List.forall_mem_cons.mpr ⟨ca_12_112, List.forall_mem_cons.mpr ⟨ca_12_113, List.forall_mem_cons.mpr ⟨ca_12_116, List.forall_mem_cons.mpr ⟨ca_12_117, List.forall_mem_cons.mpr ⟨ca_12_120, List.forall_mem_cons.mpr ⟨ca_12_121, List.forall_mem_cons.mpr ⟨ca_12_124, List.forall_mem_cons.mpr ⟨ca_12_125, List.forall_mem_cons.mpr ⟨ca_12_128, fun _ h => absurd h List.not_mem_nil⟩⟩⟩⟩⟩⟩⟩⟩⟩⟩⟩⟩⟩⟩⟩⟩⟩⟩⟩⟩
def cT_14 : List (Nat × Nat × Nat × Nat × Nat) := [(12, 129, 109, 2, 0), (12, 132, 237, 2, 0), (12, 133, 110, 2, 0), (12, 136, 238, 2, 0), (12, 137, 111, 2, 0), (12, 140, 243, 2, 0), (12, 141, 112, 0, 0), (12, 144, 244, 0, 0), (12, 145, 113, 1, 0), (12, 148, 246, 1, 0), (12, 149, 114, 1, 0), (12, 152, 247, 1, 0), (12, 153, 115, 0, 0), (12, 156, 249, 0, 0), (12, 157, 116, 1, 0), (12, 160, 251, 1, 0), (12, 161, 117, 2, 0), (12, 164, 252, 2, 0), (12, 165, 118, 2, 0), (12, 168, 253, 2, 0)]
theorem cT_14_ok : ∀ q ∈ cT_14, cOK q := List.forall_mem_cons.mpr ⟨ca_12_129, List.forall_mem_cons.mpr ⟨ca_12_132, List.forall_mem_cons.mpr ⟨ca_12_133, List.forall_mem_cons.mpr ⟨ca_12_136, List.forall_mem_cons.mpr ⟨ca_12_137, List.forall_mem_cons.mpr ⟨ca_12_140, List.forall_mem_cons.mpr ⟨ca_12_141, List.forall_mem_cons.mpr ⟨ca_12_144, List.forall_mem_cons.mpr ⟨ca_12_145, List.forall_mem_cons.mpr ⟨ca_12_148, List.forall_mem_cons.mpr ⟨ca_12_149, List.forall_mem_cons.mpr ⟨ca_12_152, List.forall_mem_cons.mpr ⟨ca_12_153, List.forall_mem_cons.mpr ⟨ca_12_156, List.forall_mem_cons.mpr ⟨ca_12_157, List.forall_mem_cons.mpr ⟨ca_12_160, List.forall_mem_cons.mpr ⟨ca_12_161, List.forall_mem_cons.mpr ⟨ca_12_164, List.forall_mem_cons.mpr ⟨ca_12_165, List.forall_mem_cons.mpr ⟨ca_12_168, fun _ h => absurd h List.not_mem_nil⟩⟩⟩⟩⟩⟩⟩⟩⟩⟩⟩⟩⟩⟩⟩⟩⟩⟩⟩⟩
def cT_15 : List (Nat × Nat × Nat × Nat × Nat) := [(12, 169, 119, 0, 0), (12, 172, 254, 0, 0), (12, 173, 120, 0, 0), (12, 176, 257, 0, 0), (12, 177, 121, 0, 0), (12, 180, 258, 0, 0), (12, 181, 122, 3, 0), (12, 184, 259, 3, 0), (12, 185, 123, 0, 0), (12, 188, 260, 0, 0), (12, 189, 124, 0, 0), (12, 192, 263, 0, 0), (12, 193, 125, 0, 0), (12, 196, 265, 0, 0), (12, 197, 126, 2, 0), (12, 200, 268, 2, 0), (12, 201, 127, 3, 0), (12, 204, 270, 3, 0), (12, 205, 128, 1, 0), (12, 208, 273, 1, 0)]
theorem cT_15_ok : ∀ q ∈ cT_15, cOK q := List.forall_mem_cons.mpr ⟨ca_12_169, List.forall_mem_cons.mpr ⟨ca_12_172, List.forall_mem_cons.mpr ⟨ca_12_173, List.forall_mem_cons.mpr ⟨ca_12_176, List.forall_mem_cons.mpr ⟨ca_12_177, List.forall_mem_cons.mpr ⟨ca_12_180, List.forall_mem_cons.mpr ⟨ca_12_181, List.forall_mem_cons.mpr ⟨ca_12_184, List.forall_mem_cons.mpr ⟨ca_12_185, List.forall_mem_cons.mpr ⟨ca_12_188, List.forall_mem_cons.mpr ⟨ca_12_189, List.forall_mem_cons.mpr ⟨ca_12_192, List.forall_mem_cons.mpr ⟨ca_12_193, List.forall_mem_cons.mpr ⟨ca_12_196, List.forall_mem_cons.mpr ⟨ca_12_197, List.forall_mem_cons.mpr ⟨ca_12_200, List.forall_mem_cons.mpr ⟨ca_12_201, List.forall_mem_cons.mpr ⟨ca_12_204, List.forall_mem_cons.mpr ⟨ca_12_205, List.forall_mem_cons.mpr ⟨ca_12_208, fun _ h => absurd h List.not_mem_nil⟩⟩⟩⟩⟩⟩⟩⟩⟩⟩⟩⟩⟩⟩⟩⟩⟩⟩⟩⟩
def cT_16 : List (Nat × Nat × Nat × Nat × Nat) := [(12, 209, 129, 0, 0), (12, 212, 275, 0, 0), (12, 213, 130, 2, 0), (12, 216, 277, 2, 0), (12, 217, 131, 1, 0), (12, 220, 278, 1, 0), (12, 221, 132, 1, 0), (12, 224, 279, 1, 0), (12, 225, 133, 1, 0), (12, 228, 282, 1, 0), (12, 232, 283, 1, 0)]
theorem cT_16_ok : ∀ q ∈ cT_16, cOK q := List.forall_mem_cons.mpr ⟨ca_12_209, List.forall_mem_cons.mpr ⟨ca_12_212, List.forall_mem_cons.mpr ⟨ca_12_213, List.forall_mem_cons.mpr ⟨ca_12_216, List.forall_mem_cons.mpr ⟨ca_12_217, List.forall_mem_cons.mpr ⟨ca_12_220, List.forall_mem_cons.mpr ⟨ca_12_221, List.forall_mem_cons.mpr ⟨ca_12_224, List.forall_mem_cons.mpr ⟨ca_12_225, List.forall_mem_cons.mpr ⟨ca_12_228, List.forall_mem_cons.mpr ⟨ca_12_232, fun _ h => absurd h List.not_mem_nil⟩⟩⟩⟩⟩⟩⟩⟩⟩⟩⟩
def cT : List (Nat × Nat × Nat × Nat × Nat) := cT_0 ++ (cT_1 ++ (cT_2 ++ (cT_3 ++ (cT_4 ++ (cT_5 ++ (cT_6 ++ (cT_7 ++ (cT_8 ++ (cT_9 ++ (cT_10 ++ (cT_11 ++ (cT_12 ++ (cT_13 ++ (cT_14 ++ (cT_15 ++ (cT_16))))))))))))))))
theorem cT_ok : ∀ q ∈ cT, cOK q := List.forall_mem_append.mpr ⟨cT_0_ok, List.forall_mem_append.mpr ⟨cT_1_ok, List.forall_mem_append.mpr ⟨cT_2_ok, List.forall_mem_append.mpr ⟨cT_3_ok, List.forall_mem_append.mpr ⟨cT_4_ok, List.forall_mem_append.mpr ⟨cT_5_ok, List.forall_mem_append.mpr ⟨cT_6_ok, List.forall_mem_append.mpr ⟨cT_7_ok, List.forall_mem_append.mpr ⟨cT_8_ok, List.forall_mem_append.mpr ⟨cT_9_ok, List.forall_mem_append.mpr ⟨cT_10_ok, List.forall_mem_append.mpr ⟨cT_11_ok, List.forall_mem_append.mpr ⟨cT_12_ok, List.forall_mem_append.mpr ⟨cT_13_ok, List.forall_mem_append.mpr ⟨cT_14_ok, List.forall_mem_append.mpr ⟨cT_15_ok, cT_16_ok⟩⟩⟩⟩⟩⟩⟩⟩⟩⟩⟩⟩⟩⟩⟩⟩
def sOK (q : Nat × Nat × Nat) : Prop := sLink (cn q.1) q.2.1 q.2.2 = true
set_option maxRecDepth 40000 in
theorem sl_8_87 : sOK (8, 87, 2) := by unfold sOK; decide +kernel
set_option maxRecDepth 40000 in
theorem sl_8_389 : sOK (8, 389, 4) := by unfold sOK; decide +kernel
set_option maxRecDepth 40000 in
theorem sl_8_396 : sOK (8, 396, 3) := by unfold sOK; decide +kernel
def sT_0 : List (Nat × Nat × Nat) := [(8, 87, 2), (8, 389, 4), (8, 396, 3)]
theorem sT_0_ok : ∀ q ∈ sT_0, sOK q := List.forall_mem_cons.mpr ⟨sl_8_87, List.forall_mem_cons.mpr ⟨sl_8_389, List.forall_mem_cons.mpr ⟨sl_8_396, fun _ h => absurd h List.not_mem_nil⟩⟩⟩
def sT : List (Nat × Nat × Nat) := sT_0
theorem sT_ok : ∀ q ∈ sT, sOK q := sT_0_ok
def pOK (q : Nat × Nat) : Prop := cLink (cn q.1) q.2 = true
set_option maxRecDepth 40000 in
theorem pl_5_40 : pOK (5, 40) := by unfold pOK; decide +kernel
def pT_0 : List (Nat × Nat) := [(5, 40)]
theorem pT_0_ok : ∀ q ∈ pT_0, pOK q := List.forall_mem_cons.mpr ⟨pl_5_40, fun _ h => absurd h List.not_mem_nil⟩
def pT : List (Nat × Nat) := pT_0
theorem pT_ok : ∀ q ∈ pT, pOK q := pT_0_ok
def kOK (q : Nat × Nat × Int) : Prop := inALL [Cond.constant (cn q.1) q.2.1 (Int32.ofInt q.2.2)] = true
set_option maxRecDepth 40000 in
theorem kl_8_376 : kOK (8, 376, 1103515245) := by unfold kOK; decide +kernel
set_option maxRecDepth 40000 in
theorem kl_9_294 : kOK (9, 294, 1000000) := by unfold kOK; decide +kernel
set_option maxRecDepth 40000 in
theorem kl_9_379 : kOK (9, 379, 1103515245) := by unfold kOK; decide +kernel
set_option maxRecDepth 40000 in
theorem kl_10_265 : kOK (10, 265, 1431655765) := by unfold kOK; decide +kernel
set_option maxRecDepth 40000 in
theorem kl_10_266 : kOK (10, 266, 858993459) := by unfold kOK; decide +kernel
set_option maxRecDepth 40000 in
theorem kl_10_267 : kOK (10, 267, 252645135) := by unfold kOK; decide +kernel
def kT_0 : List (Nat × Nat × Int) := [(8, 376, 1103515245), (9, 294, 1000000), (9, 379, 1103515245), (10, 265, 1431655765), (10, 266, 858993459), (10, 267, 252645135)]
theorem kT_0_ok : ∀ q ∈ kT_0, kOK q := List.forall_mem_cons.mpr ⟨kl_8_376, List.forall_mem_cons.mpr ⟨kl_9_294, List.forall_mem_cons.mpr ⟨kl_9_379, List.forall_mem_cons.mpr ⟨kl_10_265, List.forall_mem_cons.mpr ⟨kl_10_266, List.forall_mem_cons.mpr ⟨kl_10_267, fun _ h => absurd h List.not_mem_nil⟩⟩⟩⟩⟩⟩
def kT : List (Nat × Nat × Int) := kT_0
theorem kT_ok : ∀ q ∈ kT, kOK q := kT_0_ok
/-- a field's kind, by a table -/
def kdT : List (Nat × Nat × Nat) := [(0, 0, 3), (0, 1, 0), (1, 0, 3), (1, 1, 3), (1, 2, 3), (1, 3, 0), (2, 0, 3), (2, 1, 0), (2, 2, 0), (3, 0, 3), (3, 1, 0), (4, 0, 3), (4, 1, 3), (4, 2, 3), (4, 3, 0), (4, 4, 0), (4, 5, 0), (4, 6, 0), (4, 7, 0), (4, 8, 1), (5, 0, 0), (5, 1, 0), (5, 2, 0), (5, 3, 3), (5, 4, 3), (5, 5, 3), (5, 6, 3), (5, 7, 3), (5, 8, 3), (6, 0, 3), (6, 1, 3), (6, 2, 2), (6, 3, 0), (6, 4, 0), (6, 5, 0), (7, 0, 3), (7, 1, 0), (8, 0, 3), (8, 1, 3), (8, 2, 3), (8, 3, 3), (8, 4, 3), (8, 5, 3), (8, 6, 3), (8, 7, 3), (8, 8, 3), (8, 9, 3), (8, 10, 3), (8, 11, 3), (8, 12, 2), (8, 13, 2), (8, 14, 0), (8, 15, 0), (8, 16, 0), (9, 0, 3), (9, 1, 0), (9, 2, 0), (9, 3, 3), (9, 4, 3), (9, 5, 0), (9, 6, 3), (9, 7, 0), (9, 8, 0), (9, 9, 2), (9, 10, 0), (9, 11, 0), (9, 12, 0), (9, 13, 0), (9, 14, 3), (9, 15, 2), (9, 16, 2), (9, 17, 0), (9, 18, 1), (9, 19, 3), (9, 20, 3), (9, 21, 0), (9, 22, 3), (9, 23, 3), (9, 24, 3), (9, 25, 3), (9, 26, 3), (9, 27, 3), (9, 28, 3), (9, 29, 3), (9, 30, 0), (9, 31, 3), (9, 32, 3), (9, 33, 0), (9, 34, 0), (9, 35, 3), (9, 36, 0), (9, 37, 0), (9, 38, 3), (9, 39, 3), (9, 40, 3)]
set_option maxRecDepth 40000 in
theorem kdT_ok : ∀ q ∈ kdT, kdOk q.1 q.2.1 q.2.2 = true := by decide +kernel
def mKL : List Nat := [0, 0, 0, 0, 0, 1, 1, 1, 1, 1, 1, 2, 2, 2, 2, 2, 3, 3, 3, 3, 3, 3, 3, 4, 4, 4, 4, 4, 4, 4, 4, 4, 4, 4, 4, 4, 4, 4, 4, 5, 5, 5, 5, 5, 5, 5, 5, 5, 5, 5, 5, 5, 5, 5, 5, 5, 5, 5, 5, 5, 5, 5, 5, 5, 5, 5, 5, 5, 5, 6, 6, 6, 6, 6, 6, 6, 6, 6, 6, 6, 7, 7, 7, 7, 8, 8, 8, 8, 8, 8, 8, 8, 8, 8, 8, 8, 8, 8, 8, 8, 8, 8, 8, 8, 8, 8, 8, 8, 8, 8, 8, 8, 8, 8, 8, 8, 8, 8, 8, 8, 8, 8, 8, 8, 8, 8, 8, 8, 8, 8, 8, 8, 8, 8, 8, 8, 8, 8, 8, 8, 8, 8, 8, 8, 8, 8, 8, 8, 8, 8, 8, 8, 8, 8, 8, 8, 8, 8, 8, 8, 8, 8, 8, 8, 8, 9, 9, 9, 9, 9, 9, 9, 9, 9, 9, 9, 9, 9, 9, 9, 9, 9, 9, 9, 9, 9, 9, 9, 9, 9, 9, 9, 9, 9, 9, 9, 9, 9, 9, 9, 9, 9, 9, 9, 9, 9, 9, 9, 9, 9, 9, 9, 9, 9, 9, 9, 9, 9, 9, 9, 9, 9, 9, 9, 9, 9, 9, 9, 9, 9, 9, 9, 9, 9, 9, 9, 9, 9, 9, 9, 9, 9, 9, 9, 9, 9, 9, 9, 9, 9, 9, 9, 9, 9, 9, 9, 9, 9, 9, 9, 9, 9, 9, 9, 9, 9, 9, 9, 9, 9, 9, 9, 9, 9, 9, 9, 9, 9, 9, 9, 9, 9, 9, 9, 10, 10, 11, 11, 11, 11, 12, 12, 12]
def mK (e : Nat) : Nat := mKL.getD e 99
end
section
/-! what an instruction asks for: the walk as a proposition -/
abbrev Cont : Type := Nat → Nat → List (Nat × TV) → List TV → Tau → Mem → Prop
def pI (st : List TV) (f : Int → List TV → Prop) : Prop := match st with
  | .inl x :: r => f x r
  | _ => False
def pL (st : List TV) (f : Int → List TV → Prop) : Prop := match st with
  | .inr (.inl x) :: r => f x r
  | _ => False
def pR (st : List TV) (f : Int → List TV → Prop) : Prop := match st with
  | .inr (.inr x) :: r => f x r
  | _ => False
/-- a value of one slot -/
def pV (st : List TV) (f : TV → List TV → Prop) : Prop := match st with
  | .inl x :: r => f (.inl x) r
  | .inr (.inr x) :: r => f (.inr (.inr x)) r
  | _ => False
def gI (v : Option TV) (f : Int → Prop) : Prop := match v with
  | some (.inl x) => f x
  | _ => False
def gL' (v : Option TV) (f : Int → Prop) : Prop := match v with
  | some (.inr (.inl x)) => f x
  | _ => False
def gR (v : Option TV) (f : Int → Prop) : Prop := match v with
  | some (.inr (.inr x)) => f x
  | _ => False
theorem pI_e {st : List TV} {f : Int → List TV → Prop} (h : pI st f) : ∃ x r, st = vI x :: r ∧ f x r := by
  unfold pI at h
  split at h
  · exact ⟨_, _, rfl, h⟩
  · exact h.elim
theorem pL_e {st : List TV} {f : Int → List TV → Prop} (h : pL st f) : ∃ x r, st = vL x :: r ∧ f x r := by
  unfold pL at h
  split at h
  · exact ⟨_, _, rfl, h⟩
  · exact h.elim
theorem pR_e {st : List TV} {f : Int → List TV → Prop} (h : pR st f) : ∃ x r, st = vR x :: r ∧ f x r := by
  unfold pR at h
  split at h
  · exact ⟨_, _, rfl, h⟩
  · exact h.elim
theorem pV_e {st : List TV} {f : TV → List TV → Prop} (h : pV st f) : ∃ v r, st = v :: r ∧ catT v = 1 ∧ f v r := by
  unfold pV at h
  split at h
  · exact ⟨_, _, rfl, rfl, h⟩
  · exact ⟨_, _, rfl, rfl, h⟩
  · exact h.elim
theorem gI_e {v : Option TV} {f : Int → Prop} (h : gI v f) : ∃ x, v = some (vI x) ∧ f x := by
  unfold gI at h
  split at h
  · exact ⟨_, rfl, h⟩
  · exact h.elim
theorem gL_e {v : Option TV} {f : Int → Prop} (h : gL' v f) : ∃ x, v = some (vL x) ∧ f x := by
  unfold gL' at h
  split at h
  · exact ⟨_, rfl, h⟩
  · exact h.elim
theorem gR_e {v : Option TV} {f : Int → Prop} (h : gR v f) : ∃ x, v = some (vR x) ∧ f x := by
  unfold gR at h
  split at h
  · exact ⟨_, rfl, h⟩
  · exact h.elim
/-- n values off the stack, the last pushed last; those below take at most 8 -/
def pN : Nat → List TV → List TV → (List TV → List TV → Prop) → Prop
  | 0, as, st, f => (st.map catT).sum ≤ 8 ∧ f as st
  | n + 1, as, v :: st, f => pN n (v :: as) st f
  | _ + 1, _, [], _ => False
theorem pN_e : ∀ (n : Nat) (as st : List TV) (f : List TV → List TV → Prop), pN n as st f → ∃ bs r, st = bs.reverse ++ r ∧ bs.length = n ∧ (r.map catT).sum ≤ 8 ∧ f (bs ++ as) r
  | 0, as, st, f, h => ⟨[], st, rfl, rfl, h.1, h.2⟩
  | n + 1, as, v :: st, f, h => by
    obtain ⟨bs, r, h1, h2, h3, h4⟩ := pN_e n (v :: as) st f h
    refine ⟨bs ++ [v], r, ?_, by simp [h2], h3, by simpa using h4⟩
    rw [h1]
    simp
  | _ + 1, _, [], _, h => h.elim
def swL (x : Int) (d : Prop) : List (Int × Prop) → Prop
  | [] => d
  | (k, p) :: r => (x = k → p) ∧ (x ≠ k → swL x d r)
def isArr (t : Tau) (x : Int) : Prop := 0 ≤ x ∧ ∃ ty n, ty ≤ 5 ∧ n < 2147483648 ∧ t[x.toNat]? = some (.inr (ty, n))
theorem isArr_T {t : Tau} {x : Int} (h : isArr t x) : ∃ ty, ty ≤ 5 ∧ isT t x ty ∧ lenOf t x < 2147483648 := by
  obtain ⟨h0, ty, n, h1, h2, h3⟩ := h
  have hn : lenOf t x = n := by unfold lenOf; rw [h3]
  exact ⟨ty, h1, ⟨h0, by rw [hn]; exact h3⟩, by rw [hn]; exact h2⟩
def cnd (c : Jvm.ClassFile.Cond) (x y : Int) : Prop := match c with
  | .eq => x = y
  | .ne => x ≠ y
  | .lt => x < y
  | .ge => y ≤ x
  | .gt => y < x
  | .le => x ≤ y
abbrev EC : Type := Nat → List TV → Tau → Mem → Post → Prop
def ex1 (g : GE) (E : EC) (J : Nat → Cont) (Q : Post) (i : Instr) (k : Cont) (kc ks : Nat) (ls : List (Nat × TV)) (st : List TV) (t : Tau) (σ : Mem) : Prop := match i with
  | .iconst n => k kc ks ls (vI n :: st) t σ
  | .ldc2_w n => k kc ks ls (vL n :: st) t σ
  | .aconst_null => k kc ks ls (vR (-1) :: st) t σ
  | .iload j => gI (lget j ls) fun x => k kc ks ls (vI x :: st) t σ
  | .lload j => gL' (lget j ls) fun x => k kc ks ls (vL x :: st) t σ
  | .aload j => gR (lget j ls) fun x => k kc ks ls (vR x :: st) t σ
  | .istore j => pI st fun x r => k kc ks (lset j (vI x) ls) r t σ
  | .lstore j => pL st fun x r => k kc ks (lset j (vL x) ls) r t σ
  | .astore j => pR st fun x r => k kc ks (lset j (vR x) ls) r t σ
  | .iinc j n => gI (lget j ls) fun x => k kc ks (lset j (vI (w32 (x + n))) ls) st t σ
  | .iadd => pI st fun y r => pI r fun x r => k kc ks ls (vI (w32 (x + y)) :: r) t σ
  | .isub => pI st fun y r => pI r fun x r => k kc ks ls (vI (w32 (x - y)) :: r) t σ
  | .imul => pI st fun y r => pI r fun x r => k kc ks ls (vI (w32 (x * y)) :: r) t σ
  | .idiv => pI st fun y r => pI r fun x r => y ≠ 0 ∧ k kc ks ls (vI (w32 (x.tdiv y)) :: r) t σ
  | .irem => pI st fun y r => pI r fun x r => y ≠ 0 ∧ k kc ks ls (vI (w32 (x.tmod y)) :: r) t σ
  | .iand => pI st fun y r => pI r fun x r => k kc ks ls (vI (iand x y) :: r) t σ
  | .ior => pI st fun y r => pI r fun x r => k kc ks ls (vI (ior x y) :: r) t σ
  | .ixor => pI st fun y r => pI r fun x r => k kc ks ls (vI (ixor x y) :: r) t σ
  | .ishl => pI st fun y r => pI r fun x r => k kc ks ls (vI (ishl x y) :: r) t σ
  | .ishr => pI st fun y r => pI r fun x r => k kc ks ls (vI (ishr x y) :: r) t σ
  | .iushr => pI st fun y r => pI r fun x r => k kc ks ls (vI (iushr x y) :: r) t σ
  | .ineg => pI st fun x r => k kc ks ls (vI (w32 (-x)) :: r) t σ
  | .ladd => pL st fun y r => pL r fun x r => k kc ks ls (vL (w64 (x + y)) :: r) t σ
  | .lsub => pL st fun y r => pL r fun x r => k kc ks ls (vL (w64 (x - y)) :: r) t σ
  | .lmul => pL st fun y r => pL r fun x r => k kc ks ls (vL (w64 (x * y)) :: r) t σ
  | .ldiv => pL st fun y r => pL r fun x r => y ≠ 0 ∧ k kc ks ls (vL (w64 (x.tdiv y)) :: r) t σ
  | .lrem => pL st fun y r => pL r fun x r => y ≠ 0 ∧ k kc ks ls (vL (w64 (x.tmod y)) :: r) t σ
  | .lcmp => pL st fun y r => pL r fun x r => k kc ks ls (vI (icmp x y) :: r) t σ
  | .i2l => pI st fun x r => k kc ks ls (vL x :: r) t σ
  | .i2b => pI st fun x r => k kc ks ls (vI (i8 x) :: r) t σ
  | .i2s => pI st fun x r => k kc ks ls (vI (i16 x) :: r) t σ
  | .i2c => pI st fun x r => k kc ks ls (vI (iu16 x) :: r) t σ
  | .dup => pV st fun v r => k kc ks ls (v :: v :: r) t σ
  | .pop => pV st fun _ r => k kc ks ls r t σ
  | .dup_x1 => pV st fun v r => pV r fun w r => k kc ks ls (v :: w :: v :: r) t σ
  | .dup2 => pV st fun v r => pV r fun w r => k kc ks ls (v :: w :: v :: w :: r) t σ
  | .getfield n => pR st fun x r => isO t x (n / 256) ∧ k kc ks ls ((if n % 4 ≤ 1 then vI (σ x (n / 4 % 64 : Nat)) else if n % 4 = 2 then vR (σ x (n / 4 % 64 : Nat)) else vR (finOf t x (n / 4 % 64))) :: r) t σ
  | .putfield n => if n % 4 = 2 then pR st fun y r => pR r fun x r => isO t x (n / 256) ∧ k kc ks ls r t (up σ x (n / 4 % 64 : Nat) y)
      else pI st fun y r => pR r fun x r => isO t x (n / 256) ∧ (n % 4 = 0 ∨ (n % 4 = 1 ∧ (y = 0 ∨ y = 1))) ∧ k kc ks ls r t (up σ x (n / 4 % 64 : Nat) y)
  | .iaload => pI st fun j r => pR r fun x r => isT t x 0 ∧ (0 ≤ j ∧ j < lenOf t x) ∧ k kc ks ls (vI (σ x j) :: r) t σ
  | .baload => pI st fun j r => pR r fun x r => isT t x 2 ∧ (0 ≤ j ∧ j < lenOf t x) ∧ k kc ks ls (vI (σ x j) :: r) t σ
  | .saload => pI st fun j r => pR r fun x r => isT t x 3 ∧ (0 ≤ j ∧ j < lenOf t x) ∧ k kc ks ls (vI (σ x j) :: r) t σ
  | .caload => pI st fun j r => pR r fun x r => isT t x 4 ∧ (0 ≤ j ∧ j < lenOf t x) ∧ k kc ks ls (vI (σ x j) :: r) t σ
  | .daload => pI st fun j r => pR r fun x r => if x = -2 then (0 ≤ j ∧ j < 7) ∧ k kc ks ls (vI (sCt g 2 j.toNat) :: r) t σ else isT t x 4 ∧ (0 ≤ j ∧ j < lenOf t x) ∧ k kc ks ls (vI (σ x j) :: r) t σ
  | .faload => pI st fun j r => pR r fun x r => (3 ≤ (-x).toNat ∧ (-x).toNat ≤ 5 ∧ x < 0) ∧ (0 ≤ j ∧ j < sLen g (-x).toNat) ∧ k kc ks ls (vI (sCt g (-x).toNat j.toNat) :: r) t σ
  | .laload => pI st fun j r => pR r fun x r => isT t x 1 ∧ (0 ≤ j ∧ j < lenOf t x) ∧ k kc ks ls (vL (σ x j) :: r) t σ
  | .aaload => pI st fun j r => pR r fun x r => isT t x 5 ∧ (0 ≤ j ∧ j < lenOf t x) ∧ k kc ks ls (vR (σ x j) :: r) t σ
  | .iastore => pI st fun y r => pI r fun j r => pR r fun x r => isT t x 0 ∧ (0 ≤ j ∧ j < lenOf t x) ∧ k kc ks ls r t (up σ x j y)
  | .bastore => pI st fun y r => pI r fun j r => pR r fun x r => isT t x 2 ∧ (0 ≤ j ∧ j < lenOf t x) ∧ k kc ks ls r t (up σ x j (i8 y))
  | .sastore => pI st fun y r => pI r fun j r => pR r fun x r => isT t x 3 ∧ (0 ≤ j ∧ j < lenOf t x) ∧ k kc ks ls r t (up σ x j (i1 y))
  | .castore => pI st fun y r => pI r fun j r => pR r fun x r => isT t x 4 ∧ (0 ≤ j ∧ j < lenOf t x) ∧ k kc ks ls r t (up σ x j (ich y))
  | .lastore => pL st fun y r => pI r fun j r => pR r fun x r => isT t x 1 ∧ (0 ≤ j ∧ j < lenOf t x) ∧ k kc ks ls r t (up σ x j y)
  | .aastore => pR st fun y r => pI r fun j r => pR r fun x r => isT t x 5 ∧ isO t y 5 ∧ (0 ≤ j ∧ j < lenOf t x) ∧ k kc ks ls r t (up σ x j y)
  | .arraylength => pR st fun x r => if x < 0 then (2 ≤ (-x).toNat ∧ (-x).toNat ≤ 5) ∧ k kc ks ls (vI (sLen g (-x).toNat) :: r) t σ else isArr t x ∧ k kc ks ls (vI (lenOf t x) :: r) t σ
  | .getstatic n => k kc ks ls (vR (-(n : Int)) :: st) t σ
  | .goto n => J n.toNat kc ks ls st t σ
  | .goto_w n => J n.toNat kc ks ls st t σ
  | .ifCond c n => pI st fun x r => (cnd c x 0 → J n.toNat kc ks ls r t σ) ∧ (¬ cnd c x 0 → k kc ks ls r t σ)
  | .if_icmp c n => pI st fun y r => pI r fun x r => (cnd c x y → J n.toNat kc ks ls r t σ) ∧ (¬ cnd c x y → k kc ks ls r t σ)
  | .ifnull n => pR st fun x r => (x = -1 → J n.toNat kc ks ls r t σ) ∧ (¬ x = -1 → k kc ks ls r t σ)
  | .ifnonnull n => pR st fun x r => (¬ x = -1 → J n.toNat kc ks ls r t σ) ∧ (x = -1 → k kc ks ls r t σ)
  | .lookupswitch n ps => pI st fun x r => swL x (J n.toNat kc ks ls r t σ) (ps.toList.map fun q => (q.1, J q.2.toNat kc ks ls r t σ))
  | .invokevirtual n => pN (n / 16 % 8) [] st fun as r => pR r fun x r => (r.map catT).sum ≤ 8 ∧ isO t x (n % 16) ∧ E (n / 128) (vR x :: as) t σ fun v t' σ' => k kc ks ls (v.toList ++ r) t' σ'
  | .invokestatic n => pN (n / 16 % 8) [] st fun as r => E (n / 128) as t σ fun v t' σ' => k kc ks ls (v.toList ++ r) t' σ'
  | .invokedynamic _ => pI st fun n r => pI r fun dp r => pR r fun b r => pI r fun sp r => pR r fun a r => isT t a 0 ∧ isT t b 0 ∧ (0 ≤ sp ∧ 0 ≤ dp ∧ 0 ≤ n ∧ sp + n ≤ lenOf t a ∧ dp + n ≤ lenOf t b) ∧ (r.map catT).sum ≤ 8 ∧ k kc ks ls r t (cpy σ a sp b dp n)
  | .ireturn => pI st fun x r => r = [] ∧ (kc = 0 ∨ gB g = false) ∧ Q (some (vI x)) t σ
  | .freturn => pI st fun x r => r = [] ∧ (kc = 0 ∨ gB g = false) ∧ (x = 0 ∨ x = 1) ∧ Q (some (vI x)) t σ
  | .dreturn => pI st fun x r => r = [] ∧ (kc = 0 ∨ gB g = false) ∧ (0 ≤ x ∧ x < 65536) ∧ Q (some (vI x)) t σ
  | .lreturn => pL st fun x r => r = [] ∧ (kc = 0 ∨ gB g = false) ∧ Q (some (vL x)) t σ
  | .areturn => pR st fun x r => r = [] ∧ (kc = 0 ∨ gB g = false) ∧ Q (some (vR x)) t σ
  | .return_ => st = [] ∧ (kc = 0 ∨ gB g = false) ∧ Q none t σ
  | _ => False
def inb (x : Int) : Bool := decide (-2147483648 ≤ x) && decide (x < 2147483648)
theorem inb_b {x : Int} (h : inb x = true) : b32 x := by
  unfold inb at h
  simp only [Bool.and_eq_true, decide_eq_true_eq] at h
  exact h
/-- the instruction a, of len bytes at pc of method e, is what i says -/
def agr (e pc : Nat) (a : Instr) (len : Nat) (i : Instr) : Bool := match i with
  | .iconst v => inb v && (match a with
    | .iconst n => decide (n = v) && decide (len = 1)
    | .bipush n => decide ((Int8.ofInt n).toInt32 = Int32.ofInt v) && decide (len = 2)
    | .sipush n => decide ((Int16.ofInt n).toInt32 = Int32.ofInt v) && decide (len = 3)
    | .ldc n => decide ((mK e, n, v) ∈ kT) && decide (len = 2)
    | .ldc_w n => decide ((mK e, n, v) ∈ kT) && decide (len = 3)
    | _ => false)
  | .ldc2_w v => decide (v < 1000000) && (match a with
    | .lconst n => decide (Int64.ofNat n = Int64.ofInt v) && decide (len = 1)
    | .ldc2_w n => inALL [Cond.constantLong (mN e).cls n (Int64.ofInt v)] && decide (len = 3)
    | _ => false)
  | .iload j => (match a with
    | .iload n => decide (n = j) && decide (len = 2)
    | .iload_n n => decide ((n : Nat) = j) && decide (len = 1)
    | _ => false)
  | .lload j => (match a with
    | .lload n => decide (n = j) && decide (len = 2)
    | .lload_n n => decide ((n : Nat) = j) && decide (len = 1)
    | _ => false)
  | .aload j => (match a with
    | .aload n => decide (n = j) && decide (len = 2)
    | .aload_n n => decide ((n : Nat) = j) && decide (len = 1)
    | _ => false)
  | .istore j => decide (j < mL e) && (match a with
    | .istore n => decide (n = j) && decide (len = 2)
    | .istore_n n => decide ((n : Nat) = j) && decide (len = 1)
    | _ => false)
  | .lstore j => decide (j + 1 < mL e) && (match a with
    | .lstore n => decide (n = j) && decide (len = 2)
    | .lstore_n n => decide ((n : Nat) = j) && decide (len = 1)
    | _ => false)
  | .astore j => decide (j < mL e) && (match a with
    | .astore n => decide (n = j) && decide (len = 2)
    | .astore_n n => decide ((n : Nat) = j) && decide (len = 1)
    | _ => false)
  | .iinc j n => decide (j < mL e) && decide (a = .iinc j n) && decide (len = 3)
  | .getfield n => decide ((n / 256, n / 4 % 64, n % 4) ∈ kdT) && decide (len = 3) && (match a with
    | .getfield idx => decide ((mK e, idx, n / 256, n / 4 % 64) ∈ fT)
    | _ => false)
  | .putfield n => decide ((n / 256, n / 4 % 64, n % 4) ∈ kdT) && decide (n % 4 ≤ 2) && decide (len = 3) && (match a with
    | .putfield idx => decide ((mK e, idx, n / 256, n / 4 % 64) ∈ fT)
    | _ => false)
  | .getstatic n => decide (2 ≤ n) && decide (n ≤ 4) && decide (len = 3) && (match a with
    | .getstatic idx => decide ((mK e, idx, n) ∈ sT)
    | _ => false)
  | .saload => decide (a = .baload) && decide (len = 1)
  | .sastore => decide (a = .bastore) && decide (len = 1)
  | .daload => decide (a = .caload) && decide (len = 1)
  | .faload => decide (a = .iaload) && decide (len = 1)
  | .goto n => decide (0 ≤ n) && (match a with
    | .goto off => decide ((pc : Int) + off = n) && decide (len = 3)
    | _ => false)
  | .ifCond c n => decide (0 ≤ n) && (match a with
    | .ifCond c' off => decide (c' = c) && decide ((pc : Int) + off = n) && decide (len = 3)
    | _ => false)
  | .if_icmp c n => decide (0 ≤ n) && (match a with
    | .if_icmp c' off => decide (c' = c) && decide ((pc : Int) + off = n) && decide (len = 3)
    | _ => false)
  | .ifnull n => decide (0 ≤ n) && (match a with
    | .ifnull off => decide ((pc : Int) + off = n) && decide (len = 3)
    | _ => false)
  | .ifnonnull n => decide (0 ≤ n) && (match a with
    | .ifnonnull off => decide ((pc : Int) + off = n) && decide (len = 3)
    | _ => false)
  | .lookupswitch n ps => decide (0 ≤ n) && ps.toList.all (fun q => decide (0 ≤ q.2)) && (match a with
    | .lookupswitch dflt qs => decide ((pc : Int) + dflt = n) && (qs.toList.zip (qs.toList.drop 1)).all (fun (a, next) => a.1 < next.1) && decide (qs.toList.map (fun q => (q.1, (pc : Int) + q.2)) = ps.toList)
    | .tableswitch dflt lo hi offs => decide ((pc : Int) + dflt = n) && decide (hi = lo + offs.size - 1) && decide (offs.toList.mapIdx (fun j o => (lo + j, (pc : Int) + o)) = ps.toList)
    | _ => false)
  | .invokevirtual n => decide (len = 3) && (match a with
    | .invokevirtual idx => (decide ((mK e, idx, n / 128, n / 16 % 8, 0) ∈ cT) || decide ((mK e, idx, n / 128, n / 16 % 8, 1) ∈ cT)) && decide (mK (n / 128) = n % 16) && decide (n % 16 < 10) && decide (n / 128 < 293)
    | _ => false)
  | .invokestatic n => decide (len = 3) && (match a with
    | .invokestatic idx => decide ((mK e, idx, n / 128, n / 16 % 8, 2) ∈ cT) || decide ((mK e, idx, n / 128, n / 16 % 8, 3) ∈ cT)
    | _ => false)
  | .invokedynamic _ => decide (len = 3) && (match a with
    | .invokestatic idx => decide ((mK e, idx) ∈ pT)
    | _ => false)
  | .ireturn => decide (a = .ireturn) && decide (len = 1) && decide (mR e = some .int)
  | .freturn => decide (a = .ireturn) && decide (len = 1) && decide (mR e = some .boolean)
  | .dreturn => decide (a = .ireturn) && decide (len = 1) && decide (mR e = some .char)
  | .lreturn => decide (a = .lreturn) && decide (len = 1) && decide (mR e = some .long)
  | .areturn => decide (a = .areturn) && decide (len = 1) && (match mR e with
    | some (.object _) => true
    | _ => false)
  | .return_ => decide (a = .return_) && decide (len = 1) && decide (mR e = none)
  | .goto_w _ => false
  | i => decide (a = i) && decide (len = 1)
theorem mK_all : (List.range 293).all (fun e => decide ((mN e).cls = cn (mK e))) = true := by decide +kernel
theorem mK_ok {e : Nat} (h : e < 293) : (mN e).cls = cn (mK e) := of_decide_eq_true (List.all_eq_true.mp mK_all e (List.mem_range.mpr h))
theorem cn_cls {i : Nat} (h : i < 10) : ∃ q : vw_C, vwCl[i]? = some q ∧ q.1 = cn i := by
  match i, h with
  | 0, _ => exact ⟨_, rfl, rfl⟩
  | 1, _ => exact ⟨_, rfl, rfl⟩
  | 2, _ => exact ⟨_, rfl, rfl⟩
  | 3, _ => exact ⟨_, rfl, rfl⟩
  | 4, _ => exact ⟨_, rfl, rfl⟩
  | 5, _ => exact ⟨_, rfl, rfl⟩
  | 6, _ => exact ⟨_, rfl, rfl⟩
  | 7, _ => exact ⟨_, rfl, rfl⟩
  | 8, _ => exact ⟨_, rfl, rfl⟩
  | 9, _ => exact ⟨_, rfl, rfl⟩
theorem WPc_mono {l : Launch} {g : GE} {e d kc ks : Nat} {as : List TV} {t : Tau} {σ : Mem} {Q Q' : Post} (h : ∀ v t σ, Q v t σ → Q' v t σ) (hw : WPc l g e d kc ks as t σ Q) : WPc l g e d kc ks as t σ Q' := by
  intro p en ha hc hk s m args below hf happ hP ht
  obtain ⟨n, o, h1, h2, h3, ⟨v, t', σ', q1, q2, q3⟩, q4⟩ := hw p en ha hc hk s m args below hf happ hP ht
  exact ⟨n, o, h1, h2, h3, ⟨v, t', σ', q1, h _ _ _ q2, q3⟩, q4⟩
section EX
variable {l : Launch} {g : GE} {e d kc ks pc len : Nat} {ls : List (Nat × TV)} {st : List TV} {t : Tau} {σ : Mem} {Q : Post} {E : EC} {J : Nat → Cont} {k : Cont} {a i : Instr}
theorem toN {n : Int} (h : 0 ≤ n) : n = (n.toNat : Int) := (Int.toNat_of_nonneg h).symm
theorem swL_all {x : Int} {dflt : Prop} (hd : dflt) : ∀ (ps : List (Int × Prop)), (∀ q ∈ ps, q.2) → swL x dflt ps
  | [], _ => hd
  | q :: r, h => ⟨fun _ => h q List.mem_cons_self, fun _ => swL_all hd r fun q hq => h q (List.mem_cons_of_mem _ hq)⟩
theorem lsw_ok (P : Int → Prop) (x pc dflt : Int) : ∀ qs : List (Int × Int), swL x (P (pc + dflt)) (qs.map fun q => (q.1, P (pc + q.2))) → P (pc + Op.lookupswitch.offset qs dflt x)
  | [], h => h
  | (k, o) :: r, h => by
    rw [Op.lookupswitch.offset_cons]
    by_cases hx : k = x
    · rw [if_pos hx]; exact h.1 hx.symm
    · rw [if_neg hx]; exact lsw_ok P x pc dflt r (h.2 fun z => hx z.symm)
theorem tsw_ok (P : Int → Prop) (x pc dflt : Int) : ∀ (os : List Int) (lo : Int), swL x (P (pc + dflt)) (os.mapIdx fun j o => (lo + j, P (pc + o))) → ((x < lo ∨ lo + os.length ≤ x) ∧ P (pc + dflt)) ∨ ∃ off, lo ≤ x ∧ x < lo + os.length ∧ os[(x - lo).toNat]? = some off ∧ P (pc + off)
  | [], lo, h => Or.inl ⟨by simp; omega, h⟩
  | o :: r, lo, h => by
    rw [List.mapIdx_cons] at h
    by_cases hx : x = lo
    · refine Or.inr ⟨o, by omega, by simp; omega, ?_, h.1 (by simpa using hx)⟩
      rw [hx, show lo - lo = 0 by omega]
      rfl
    · have h2 := h.2 (by simpa using hx)
      have e1 : (r.mapIdx fun j o => (lo + (j + 1 : Nat), P (pc + o))) = r.mapIdx fun j o => ((lo + 1) + (j : Nat), P (pc + o)) := by
        congr 1
        funext j o
        congr 1
        push_cast
        omega
      rw [e1] at h2
      rcases tsw_ok P x pc dflt r (lo + 1) h2 with ⟨q1, q2⟩ | ⟨off, q1, q2, q3, q4⟩
      · exact Or.inl ⟨by simp only [List.length_cons]; omega, q2⟩
      · refine Or.inr ⟨off, by omega, by simp only [List.length_cons]; omega, ?_, q4⟩
        rw [show (x - lo).toNat = (x - (lo + 1)).toNat + 1 by omega]
        exact q3
set_option maxHeartbeats 4000000 in
theorem ex1_ok (hE : e < 293) (hEC : ∀ e' as t σ Q', E e' as t σ Q' → WPc l g e' d 0 0 as t σ Q') (hag : agr e pc a len i = true) (hd : decode (mC e) pc = .ok (a, len)) (hk : ∀ kc ks ls st t σ, k kc ks ls st t σ → Wp l g e (d + 1) kc ks (pc + len) ls st t σ Q) (hJ : ∀ tg kc ks ls st t σ, J tg kc ks ls st t σ → Wp l g e (d + 1) kc ks tg ls st t σ Q)
    (h : ex1 g E J Q i k kc ks ls st t σ) : Wp l g e (d + 1) kc ks pc ls st t σ Q := by
  have he := mK_ok hE
  cases i with
  | iconst v =>
    simp only [agr, Bool.and_eq_true] at hag
    obtain ⟨hv, hag⟩ := hag
    have hb := inb_b hv
    split at hag <;> (try simp only [Bool.and_eq_true, decide_eq_true_eq] at hag)
    · obtain ⟨rfl, rfl⟩ := hag
      exact r_iconst hb hd (hk _ _ _ _ _ _ h)
    · obtain ⟨h1, rfl⟩ := hag
      exact r_bipush hb h1 hd (hk _ _ _ _ _ _ h)
    · obtain ⟨h1, rfl⟩ := hag
      exact r_sipush hb h1 hd (hk _ _ _ _ _ _ h)
    · obtain ⟨h1, rfl⟩ := hag
      exact r_ldc hb (inALL_of (by have := kT_ok _ h1; unfold kOK at this; rw [← he] at this; exact this) _ m1) hd (hk _ _ _ _ _ _ h)
    · obtain ⟨h1, rfl⟩ := hag
      exact r_ldcw hb (inALL_of (by have := kT_ok _ h1; unfold kOK at this; rw [← he] at this; exact this) _ m1) hd (hk _ _ _ _ _ _ h)
    · cases hag
  | ldc2_w v =>
    simp only [agr, Bool.and_eq_true, decide_eq_true_eq] at hag
    obtain ⟨hv, hag⟩ := hag
    have hb : b64 (v : Int) := by unfold b64; omega
    split at hag <;> (try simp only [Bool.and_eq_true, decide_eq_true_eq] at hag)
    · obtain ⟨h1, rfl⟩ := hag
      exact r_lconst hb h1 hd (hk _ _ _ _ _ _ h)
    · obtain ⟨h1, rfl⟩ := hag
      exact r_ldc2 hb (inALL_of h1 _ m1) hd (hk _ _ _ _ _ _ h)
    · cases hag
  | iload j =>
    simp only [agr] at hag
    obtain ⟨x, hx, h_1⟩ := gI_e h
    split at hag <;> (try simp only [Bool.and_eq_true, decide_eq_true_eq] at hag)
    · obtain ⟨rfl, rfl⟩ := hag
      exact r_iload hx hd (hk _ _ _ _ _ _ h_1)
    · obtain ⟨rfl, rfl⟩ := hag
      exact r_iload_n hx hd (hk _ _ _ _ _ _ h_1)
    · cases hag
  | lload j =>
    simp only [agr] at hag
    obtain ⟨x, hx, h_1⟩ := gL_e h
    split at hag <;> (try simp only [Bool.and_eq_true, decide_eq_true_eq] at hag)
    · obtain ⟨rfl, rfl⟩ := hag
      exact r_lload hx hd (hk _ _ _ _ _ _ h_1)
    · obtain ⟨rfl, rfl⟩ := hag
      exact r_lload_n hx hd (hk _ _ _ _ _ _ h_1)
    · cases hag
  | aload j =>
    simp only [agr] at hag
    obtain ⟨x, hx, h_1⟩ := gR_e h
    split at hag <;> (try simp only [Bool.and_eq_true, decide_eq_true_eq] at hag)
    · obtain ⟨rfl, rfl⟩ := hag
      exact r_aload hx hd (hk _ _ _ _ _ _ h_1)
    · obtain ⟨rfl, rfl⟩ := hag
      exact r_aload_n hx hd (hk _ _ _ _ _ _ h_1)
    · cases hag
  | istore j =>
    simp only [agr, Bool.and_eq_true, decide_eq_true_eq] at hag
    obtain ⟨hj, hag⟩ := hag
    obtain ⟨x, r_1, rfl, h_1⟩ := pI_e h
    split at hag <;> (try simp only [Bool.and_eq_true, decide_eq_true_eq] at hag)
    · obtain ⟨rfl, rfl⟩ := hag
      exact r_istore hj hd (hk _ _ _ _ _ _ h_1)
    · obtain ⟨rfl, rfl⟩ := hag
      exact r_istore_n hj hd (hk _ _ _ _ _ _ h_1)
    · cases hag
  | lstore j =>
    simp only [agr, Bool.and_eq_true, decide_eq_true_eq] at hag
    obtain ⟨hj, hag⟩ := hag
    obtain ⟨x, r_1, rfl, h_1⟩ := pL_e h
    split at hag <;> (try simp only [Bool.and_eq_true, decide_eq_true_eq] at hag)
    · obtain ⟨rfl, rfl⟩ := hag
      exact r_lstore hj hd (hk _ _ _ _ _ _ h_1)
    · obtain ⟨rfl, rfl⟩ := hag
      exact r_lstore_n hj hd (hk _ _ _ _ _ _ h_1)
    · cases hag
  | astore j =>
    simp only [agr, Bool.and_eq_true, decide_eq_true_eq] at hag
    obtain ⟨hj, hag⟩ := hag
    obtain ⟨x, r_1, rfl, h_1⟩ := pR_e h
    split at hag <;> (try simp only [Bool.and_eq_true, decide_eq_true_eq] at hag)
    · obtain ⟨rfl, rfl⟩ := hag
      exact r_astore hj hd (hk _ _ _ _ _ _ h_1)
    · obtain ⟨rfl, rfl⟩ := hag
      exact r_astore_n hj hd (hk _ _ _ _ _ _ h_1)
    · cases hag
  | iinc j n =>
    simp only [agr, Bool.and_eq_true, decide_eq_true_eq] at hag
    obtain ⟨⟨hj, rfl⟩, rfl⟩ := hag
    obtain ⟨x, hx, h_1⟩ := gI_e h
    exact r_iinc hx hj hd (hk _ _ _ _ _ _ h_1)
  | aconst_null =>
    simp only [agr, Bool.and_eq_true, decide_eq_true_eq] at hag
    obtain ⟨rfl, rfl⟩ := hag
    exact r_null hd (hk _ _ _ _ _ _ h)
  | iadd =>
    simp only [agr, Bool.and_eq_true, decide_eq_true_eq] at hag
    obtain ⟨rfl, rfl⟩ := hag
    obtain ⟨y, r_1, rfl, h_1⟩ := pI_e h
    obtain ⟨x, r_2, rfl, h_2⟩ := pI_e h_1
    exact r_iadd hd (hk _ _ _ _ _ _ h_2)
  | isub =>
    simp only [agr, Bool.and_eq_true, decide_eq_true_eq] at hag
    obtain ⟨rfl, rfl⟩ := hag
    obtain ⟨y, r_1, rfl, h_1⟩ := pI_e h
    obtain ⟨x, r_2, rfl, h_2⟩ := pI_e h_1
    exact r_isub hd (hk _ _ _ _ _ _ h_2)
  | imul =>
    simp only [agr, Bool.and_eq_true, decide_eq_true_eq] at hag
    obtain ⟨rfl, rfl⟩ := hag
    obtain ⟨y, r_1, rfl, h_1⟩ := pI_e h
    obtain ⟨x, r_2, rfl, h_2⟩ := pI_e h_1
    exact r_imul hd (hk _ _ _ _ _ _ h_2)
  | iand =>
    simp only [agr, Bool.and_eq_true, decide_eq_true_eq] at hag
    obtain ⟨rfl, rfl⟩ := hag
    obtain ⟨y, r_1, rfl, h_1⟩ := pI_e h
    obtain ⟨x, r_2, rfl, h_2⟩ := pI_e h_1
    exact r_iand hd (hk _ _ _ _ _ _ h_2)
  | ior =>
    simp only [agr, Bool.and_eq_true, decide_eq_true_eq] at hag
    obtain ⟨rfl, rfl⟩ := hag
    obtain ⟨y, r_1, rfl, h_1⟩ := pI_e h
    obtain ⟨x, r_2, rfl, h_2⟩ := pI_e h_1
    exact r_ior hd (hk _ _ _ _ _ _ h_2)
  | ixor =>
    simp only [agr, Bool.and_eq_true, decide_eq_true_eq] at hag
    obtain ⟨rfl, rfl⟩ := hag
    obtain ⟨y, r_1, rfl, h_1⟩ := pI_e h
    obtain ⟨x, r_2, rfl, h_2⟩ := pI_e h_1
    exact r_ixor hd (hk _ _ _ _ _ _ h_2)
  | ishl =>
    simp only [agr, Bool.and_eq_true, decide_eq_true_eq] at hag
    obtain ⟨rfl, rfl⟩ := hag
    obtain ⟨y, r_1, rfl, h_1⟩ := pI_e h
    obtain ⟨x, r_2, rfl, h_2⟩ := pI_e h_1
    exact r_ishl hd (hk _ _ _ _ _ _ h_2)
  | ishr =>
    simp only [agr, Bool.and_eq_true, decide_eq_true_eq] at hag
    obtain ⟨rfl, rfl⟩ := hag
    obtain ⟨y, r_1, rfl, h_1⟩ := pI_e h
    obtain ⟨x, r_2, rfl, h_2⟩ := pI_e h_1
    exact r_ishr hd (hk _ _ _ _ _ _ h_2)
  | iushr =>
    simp only [agr, Bool.and_eq_true, decide_eq_true_eq] at hag
    obtain ⟨rfl, rfl⟩ := hag
    obtain ⟨y, r_1, rfl, h_1⟩ := pI_e h
    obtain ⟨x, r_2, rfl, h_2⟩ := pI_e h_1
    exact r_iushr hd (hk _ _ _ _ _ _ h_2)
  | ladd =>
    simp only [agr, Bool.and_eq_true, decide_eq_true_eq] at hag
    obtain ⟨rfl, rfl⟩ := hag
    obtain ⟨y, r_1, rfl, h_1⟩ := pL_e h
    obtain ⟨x, r_2, rfl, h_2⟩ := pL_e h_1
    exact r_ladd hd (hk _ _ _ _ _ _ h_2)
  | lsub =>
    simp only [agr, Bool.and_eq_true, decide_eq_true_eq] at hag
    obtain ⟨rfl, rfl⟩ := hag
    obtain ⟨y, r_1, rfl, h_1⟩ := pL_e h
    obtain ⟨x, r_2, rfl, h_2⟩ := pL_e h_1
    exact r_lsub hd (hk _ _ _ _ _ _ h_2)
  | lmul =>
    simp only [agr, Bool.and_eq_true, decide_eq_true_eq] at hag
    obtain ⟨rfl, rfl⟩ := hag
    obtain ⟨y, r_1, rfl, h_1⟩ := pL_e h
    obtain ⟨x, r_2, rfl, h_2⟩ := pL_e h_1
    exact r_lmul hd (hk _ _ _ _ _ _ h_2)
  | lcmp =>
    simp only [agr, Bool.and_eq_true, decide_eq_true_eq] at hag
    obtain ⟨rfl, rfl⟩ := hag
    obtain ⟨y, r_1, rfl, h_1⟩ := pL_e h
    obtain ⟨x, r_2, rfl, h_2⟩ := pL_e h_1
    exact r_lcmp hd (hk _ _ _ _ _ _ h_2)
  | idiv =>
    simp only [agr, Bool.and_eq_true, decide_eq_true_eq] at hag
    obtain ⟨rfl, rfl⟩ := hag
    obtain ⟨y, r_1, rfl, h_1⟩ := pI_e h
    obtain ⟨x, r_2, rfl, h_2⟩ := pI_e h_1
    exact r_idiv h_2.1 hd (hk _ _ _ _ _ _ h_2.2)
  | irem =>
    simp only [agr, Bool.and_eq_true, decide_eq_true_eq] at hag
    obtain ⟨rfl, rfl⟩ := hag
    obtain ⟨y, r_1, rfl, h_1⟩ := pI_e h
    obtain ⟨x, r_2, rfl, h_2⟩ := pI_e h_1
    exact r_irem h_2.1 hd (hk _ _ _ _ _ _ h_2.2)
  | ldiv =>
    simp only [agr, Bool.and_eq_true, decide_eq_true_eq] at hag
    obtain ⟨rfl, rfl⟩ := hag
    obtain ⟨y, r_1, rfl, h_1⟩ := pL_e h
    obtain ⟨x, r_2, rfl, h_2⟩ := pL_e h_1
    exact r_ldiv h_2.1 hd (hk _ _ _ _ _ _ h_2.2)
  | lrem =>
    simp only [agr, Bool.and_eq_true, decide_eq_true_eq] at hag
    obtain ⟨rfl, rfl⟩ := hag
    obtain ⟨y, r_1, rfl, h_1⟩ := pL_e h
    obtain ⟨x, r_2, rfl, h_2⟩ := pL_e h_1
    exact r_lrem h_2.1 hd (hk _ _ _ _ _ _ h_2.2)
  | ineg =>
    simp only [agr, Bool.and_eq_true, decide_eq_true_eq] at hag
    obtain ⟨rfl, rfl⟩ := hag
    obtain ⟨x, r_1, rfl, h_1⟩ := pI_e h
    exact r_ineg hd (hk _ _ _ _ _ _ h_1)
  | i2l =>
    simp only [agr, Bool.and_eq_true, decide_eq_true_eq] at hag
    obtain ⟨rfl, rfl⟩ := hag
    obtain ⟨x, r_1, rfl, h_1⟩ := pI_e h
    exact r_i2l hd (hk _ _ _ _ _ _ h_1)
  | i2b =>
    simp only [agr, Bool.and_eq_true, decide_eq_true_eq] at hag
    obtain ⟨rfl, rfl⟩ := hag
    obtain ⟨x, r_1, rfl, h_1⟩ := pI_e h
    exact r_i2b hd (hk _ _ _ _ _ _ h_1)
  | i2s =>
    simp only [agr, Bool.and_eq_true, decide_eq_true_eq] at hag
    obtain ⟨rfl, rfl⟩ := hag
    obtain ⟨x, r_1, rfl, h_1⟩ := pI_e h
    exact r_i2s hd (hk _ _ _ _ _ _ h_1)
  | i2c =>
    simp only [agr, Bool.and_eq_true, decide_eq_true_eq] at hag
    obtain ⟨rfl, rfl⟩ := hag
    obtain ⟨x, r_1, rfl, h_1⟩ := pI_e h
    exact r_i2c hd (hk _ _ _ _ _ _ h_1)
  | dup =>
    simp only [agr, Bool.and_eq_true, decide_eq_true_eq] at hag
    obtain ⟨rfl, rfl⟩ := hag
    simp only [ex1] at h
    obtain ⟨v, r_1, rfl, hv, h_1⟩ := pV_e h
    exact r_dup hv hd (hk _ _ _ _ _ _ h_1)
  | pop =>
    simp only [agr, Bool.and_eq_true, decide_eq_true_eq] at hag
    obtain ⟨rfl, rfl⟩ := hag
    simp only [ex1] at h
    obtain ⟨v, r_1, rfl, hv, h_1⟩ := pV_e h
    exact r_pop hv hd (hk _ _ _ _ _ _ h_1)
  | dup_x1 =>
    simp only [agr, Bool.and_eq_true, decide_eq_true_eq] at hag
    obtain ⟨rfl, rfl⟩ := hag
    simp only [ex1] at h
    obtain ⟨v, r_1, rfl, hv, h_1⟩ := pV_e h
    obtain ⟨w, r_2, rfl, hw, h_2⟩ := pV_e h_1
    exact r_dup_x1 hv hw hd (hk _ _ _ _ _ _ h_2)
  | dup2 =>
    simp only [agr, Bool.and_eq_true, decide_eq_true_eq] at hag
    obtain ⟨rfl, rfl⟩ := hag
    simp only [ex1] at h
    obtain ⟨v, r_1, rfl, hv, h_1⟩ := pV_e h
    obtain ⟨w, r_2, rfl, hw, h_2⟩ := pV_e h_1
    exact r_dup2 hv hw hd (hk _ _ _ _ _ _ h_2)
  | getfield n =>
    simp only [agr, Bool.and_eq_true, decide_eq_true_eq] at hag
    obtain ⟨⟨hkd, rfl⟩, hag⟩ := hag
    obtain ⟨x, r_1, rfl, hO, h_1⟩ := pR_e h
    split at hag
    · have hag := fT_ok _ (of_decide_eq_true hag)
      unfold fOK at hag
      rw [← he] at hag
      refine r_get hO (kdT_ok _ hkd) hag hd (hk _ _ _ _ _ _ ?_)
      exact h_1
    · cases hag
  | putfield n =>
    simp only [agr, Bool.and_eq_true, decide_eq_true_eq] at hag
    obtain ⟨⟨⟨hkd, hle⟩, rfl⟩, hag⟩ := hag
    simp only [ex1] at h
    split at hag
    · have hag := fT_ok _ (of_decide_eq_true hag)
      unfold fOK at hag
      rw [← he] at hag
      have hkd := kdT_ok _ hkd
      split at h
      · rename_i h2
        obtain ⟨y, r_1, rfl, h_1⟩ := pR_e h
        obtain ⟨x, r_2, rfl, hO, h_2⟩ := pR_e h_1
        exact r_put (v := vR y) hO h2 hkd hag hd (hk _ _ _ _ _ _ h_2)
      · obtain ⟨y, r_3, rfl, h_3⟩ := pI_e h
        obtain ⟨x, r_4, rfl, hO, hp, h_4⟩ := pR_e h_3
        exact r_put (v := vI y) hO hp hkd hag hd (hk _ _ _ _ _ _ h_4)
    · cases hag
  | iaload =>
    simp only [agr, Bool.and_eq_true, decide_eq_true_eq] at hag
    obtain ⟨rfl, rfl⟩ := hag
    obtain ⟨j, r_1, rfl, h_1⟩ := pI_e h
    obtain ⟨x, r_2, rfl, hA, hj, h_2⟩ := pR_e h_1
    exact r_iald hA hj.1 hj.2 hd (hk _ _ _ _ _ _ h_2)
  | baload =>
    simp only [agr, Bool.and_eq_true, decide_eq_true_eq] at hag
    obtain ⟨rfl, rfl⟩ := hag
    obtain ⟨j, r_1, rfl, h_1⟩ := pI_e h
    obtain ⟨x, r_2, rfl, hA, hj, h_2⟩ := pR_e h_1
    exact r_bald hA hj.1 hj.2 hd (hk _ _ _ _ _ _ h_2)
  | saload =>
    simp only [agr, Bool.and_eq_true, decide_eq_true_eq] at hag
    obtain ⟨rfl, rfl⟩ := hag
    obtain ⟨j, r_1, rfl, h_1⟩ := pI_e h
    obtain ⟨x, r_2, rfl, hA, hj, h_2⟩ := pR_e h_1
    exact r_zald hA hj.1 hj.2 hd (hk _ _ _ _ _ _ h_2)
  | caload =>
    simp only [agr, Bool.and_eq_true, decide_eq_true_eq] at hag
    obtain ⟨rfl, rfl⟩ := hag
    obtain ⟨j, r_1, rfl, h_1⟩ := pI_e h
    obtain ⟨x, r_2, rfl, hA, hj, h_2⟩ := pR_e h_1
    exact r_cald hA hj.1 hj.2 hd (hk _ _ _ _ _ _ h_2)
  | laload =>
    simp only [agr, Bool.and_eq_true, decide_eq_true_eq] at hag
    obtain ⟨rfl, rfl⟩ := hag
    obtain ⟨j, r_1, rfl, h_1⟩ := pI_e h
    obtain ⟨x, r_2, rfl, hA, hj, h_2⟩ := pR_e h_1
    exact r_lald hA hj.1 hj.2 hd (hk _ _ _ _ _ _ h_2)
  | aaload =>
    simp only [agr, Bool.and_eq_true, decide_eq_true_eq] at hag
    obtain ⟨rfl, rfl⟩ := hag
    obtain ⟨j, r_1, rfl, h_1⟩ := pI_e h
    obtain ⟨x, r_2, rfl, hA, hj, h_2⟩ := pR_e h_1
    exact r_aald hA hj.1 hj.2 hd (hk _ _ _ _ _ _ h_2)
  | iastore =>
    simp only [agr, Bool.and_eq_true, decide_eq_true_eq] at hag
    obtain ⟨rfl, rfl⟩ := hag
    obtain ⟨y, r_1, rfl, h_1⟩ := pI_e h
    obtain ⟨j, r_2, rfl, h_2⟩ := pI_e h_1
    obtain ⟨x, r_3, rfl, hA, hj, h_3⟩ := pR_e h_2
    exact r_iast hA hj.1 hj.2 hd (hk _ _ _ _ _ _ h_3)
  | bastore =>
    simp only [agr, Bool.and_eq_true, decide_eq_true_eq] at hag
    obtain ⟨rfl, rfl⟩ := hag
    obtain ⟨y, r_1, rfl, h_1⟩ := pI_e h
    obtain ⟨j, r_2, rfl, h_2⟩ := pI_e h_1
    obtain ⟨x, r_3, rfl, hA, hj, h_3⟩ := pR_e h_2
    exact r_bast hA hj.1 hj.2 hd (hk _ _ _ _ _ _ h_3)
  | sastore =>
    simp only [agr, Bool.and_eq_true, decide_eq_true_eq] at hag
    obtain ⟨rfl, rfl⟩ := hag
    obtain ⟨y, r_1, rfl, h_1⟩ := pI_e h
    obtain ⟨j, r_2, rfl, h_2⟩ := pI_e h_1
    obtain ⟨x, r_3, rfl, hA, hj, h_3⟩ := pR_e h_2
    exact r_zast hA hj.1 hj.2 hd (hk _ _ _ _ _ _ h_3)
  | castore =>
    simp only [agr, Bool.and_eq_true, decide_eq_true_eq] at hag
    obtain ⟨rfl, rfl⟩ := hag
    obtain ⟨y, r_1, rfl, h_1⟩ := pI_e h
    obtain ⟨j, r_2, rfl, h_2⟩ := pI_e h_1
    obtain ⟨x, r_3, rfl, hA, hj, h_3⟩ := pR_e h_2
    exact r_cast hA hj.1 hj.2 hd (hk _ _ _ _ _ _ h_3)
  | lastore =>
    simp only [agr, Bool.and_eq_true, decide_eq_true_eq] at hag
    obtain ⟨rfl, rfl⟩ := hag
    obtain ⟨y, r_1, rfl, h_1⟩ := pL_e h
    obtain ⟨j, r_2, rfl, h_2⟩ := pI_e h_1
    obtain ⟨x, r_3, rfl, hA, hj, h_3⟩ := pR_e h_2
    exact r_last hA hj.1 hj.2 hd (hk _ _ _ _ _ _ h_3)
  | aastore =>
    simp only [agr, Bool.and_eq_true, decide_eq_true_eq] at hag
    obtain ⟨rfl, rfl⟩ := hag
    obtain ⟨y, r_1, rfl, h_1⟩ := pR_e h
    obtain ⟨j, r_2, rfl, h_2⟩ := pI_e h_1
    obtain ⟨x, r_3, rfl, hA, hy, hj, h_3⟩ := pR_e h_2
    exact r_aast hA hy hj.1 hj.2 hd (hk _ _ _ _ _ _ h_3)
  | daload =>
    simp only [agr, Bool.and_eq_true, decide_eq_true_eq] at hag
    obtain ⟨rfl, rfl⟩ := hag
    obtain ⟨j, r_1, rfl, h_1⟩ := pI_e h
    obtain ⟨x, r_2, rfl, h_2⟩ := pR_e h_1
    split at h_2
    · rename_i hx
      subst hx
      exact r_scald h_2.1.1 h_2.1.2 hd (hk _ _ _ _ _ _ h_2.2)
    · exact r_cald h_2.1 h_2.2.1.1 h_2.2.1.2 hd (hk _ _ _ _ _ _ h_2.2.2)
  | faload =>
    simp only [agr, Bool.and_eq_true, decide_eq_true_eq] at hag
    obtain ⟨rfl, rfl⟩ := hag
    obtain ⟨j, r_1, rfl, h_1⟩ := pI_e h
    obtain ⟨x, r_2, rfl, hx, hj, h_2⟩ := pR_e h_1
    have hxe : x = -(((-x).toNat : Nat) : Int) := by omega
    rw [hxe]
    exact r_sald hx.1 hx.2.1 hj.1 hj.2 hd (hk _ _ _ _ _ _ h_2)
  | arraylength =>
    simp only [agr, Bool.and_eq_true, decide_eq_true_eq] at hag
    obtain ⟨rfl, rfl⟩ := hag
    obtain ⟨x, r_1, rfl, h_1⟩ := pR_e h
    split at h_1
    · have hxe : x = -(((-x).toNat : Nat) : Int) := by omega
      rw [hxe]
      exact r_slen h_1.1.1 h_1.1.2 hd (hk _ _ _ _ _ _ h_1.2)
    · obtain ⟨ty, h1, h2, h3⟩ := isArr_T h_1.1
      exact r_alen h1 h2 h3 hd (hk _ _ _ _ _ _ h_1.2)
  | getstatic n =>
    simp only [agr, Bool.and_eq_true, decide_eq_true_eq] at hag
    obtain ⟨⟨⟨h2, h4⟩, rfl⟩, hag⟩ := hag
    split at hag
    · have hag := sT_ok _ (of_decide_eq_true hag)
      unfold sOK at hag
      rw [← he] at hag
      exact r_gets h2 h4 hag hd (hk _ _ _ _ _ _ h)
    · cases hag
  | goto n =>
    simp only [agr, Bool.and_eq_true, decide_eq_true_eq] at hag
    obtain ⟨hn, hag⟩ := hag
    split at hag
    · simp only [Bool.and_eq_true, decide_eq_true_eq] at hag
      obtain ⟨h1, rfl⟩ := hag
      exact r_goto hd (h1.trans (toN hn)) (hJ _ _ _ _ _ _ _ h)
    · cases hag
  | ifCond c n =>
    simp only [agr, Bool.and_eq_true, decide_eq_true_eq] at hag
    obtain ⟨hn, hag⟩ := hag
    obtain ⟨x, r_1, rfl, h1, h2⟩ := pI_e h
    split at hag
    · simp only [Bool.and_eq_true, decide_eq_true_eq] at hag
      obtain ⟨⟨rfl, h3⟩, rfl⟩ := hag
      rename_i c off
      have ht := h3.trans (toN hn)
      cases c
      · exact r_if_eq hd ht (fun z => hJ _ _ _ _ _ _ _ (h1 z)) (fun z => hk _ _ _ _ _ _ (h2 z))
      · exact r_if_ne hd ht (fun z => hJ _ _ _ _ _ _ _ (h1 z)) (fun z => hk _ _ _ _ _ _ (h2 z))
      · exact r_if_lt hd ht (fun z => hJ _ _ _ _ _ _ _ (h1 z)) (fun z => hk _ _ _ _ _ _ (h2 z))
      · exact r_if_ge hd ht (fun z => hJ _ _ _ _ _ _ _ (h1 z)) (fun z => hk _ _ _ _ _ _ (h2 z))
      · exact r_if_gt hd ht (fun z => hJ _ _ _ _ _ _ _ (h1 z)) (fun z => hk _ _ _ _ _ _ (h2 z))
      · exact r_if_le hd ht (fun z => hJ _ _ _ _ _ _ _ (h1 z)) (fun z => hk _ _ _ _ _ _ (h2 z))
    · cases hag
  | if_icmp c n =>
    simp only [agr, Bool.and_eq_true, decide_eq_true_eq] at hag
    obtain ⟨hn, hag⟩ := hag
    obtain ⟨y, r_1, rfl, h_1⟩ := pI_e h
    obtain ⟨x, r_2, rfl, h1, h2⟩ := pI_e h_1
    split at hag
    · simp only [Bool.and_eq_true, decide_eq_true_eq] at hag
      obtain ⟨⟨rfl, h3⟩, rfl⟩ := hag
      rename_i c off
      have ht := h3.trans (toN hn)
      cases c
      · exact r_icmp_eq hd ht (fun z => hJ _ _ _ _ _ _ _ (h1 z)) (fun z => hk _ _ _ _ _ _ (h2 z))
      · exact r_icmp_ne hd ht (fun z => hJ _ _ _ _ _ _ _ (h1 z)) (fun z => hk _ _ _ _ _ _ (h2 z))
      · exact r_icmp_lt hd ht (fun z => hJ _ _ _ _ _ _ _ (h1 z)) (fun z => hk _ _ _ _ _ _ (h2 z))
      · exact r_icmp_ge hd ht (fun z => hJ _ _ _ _ _ _ _ (h1 z)) (fun z => hk _ _ _ _ _ _ (h2 z))
      · exact r_icmp_gt hd ht (fun z => hJ _ _ _ _ _ _ _ (h1 z)) (fun z => hk _ _ _ _ _ _ (h2 z))
      · exact r_icmp_le hd ht (fun z => hJ _ _ _ _ _ _ _ (h1 z)) (fun z => hk _ _ _ _ _ _ (h2 z))
    · cases hag
  | ifnull n =>
    simp only [agr, Bool.and_eq_true, decide_eq_true_eq] at hag
    obtain ⟨hn, hag⟩ := hag
    obtain ⟨x, r_1, rfl, h1, h2⟩ := pR_e h
    split at hag
    · simp only [Bool.and_eq_true, decide_eq_true_eq] at hag
      obtain ⟨h3, rfl⟩ := hag
      exact r_ifnull hd (h3.trans (toN hn)) (fun z => hJ _ _ _ _ _ _ _ (h1 z)) (fun z => hk _ _ _ _ _ _ (h2 z))
    · cases hag
  | ifnonnull n =>
    simp only [agr, Bool.and_eq_true, decide_eq_true_eq] at hag
    obtain ⟨hn, hag⟩ := hag
    obtain ⟨x, r_1, rfl, h1, h2⟩ := pR_e h
    split at hag
    · simp only [Bool.and_eq_true, decide_eq_true_eq] at hag
      obtain ⟨h3, rfl⟩ := hag
      exact r_ifnonnull hd (h3.trans (toN hn)) (fun z => hJ _ _ _ _ _ _ _ (h1 z)) (fun z => hk _ _ _ _ _ _ (h2 z))
    · cases hag
  | lookupswitch n ps =>
    simp only [agr, Bool.and_eq_true, decide_eq_true_eq] at hag
    obtain ⟨⟨hn, hps⟩, hag⟩ := hag
    obtain ⟨x, r_1, rfl, h_1⟩ := pI_e h
    split at hag
    · rename_i dflt qs
      simp only [Bool.and_eq_true, decide_eq_true_eq] at hag
      obtain ⟨⟨h1, h2⟩, h3⟩ := hag
      have e1 : ps.toList.map (fun q => (q.1, J q.2.toNat kc ks ls r_1 t σ)) = qs.toList.map (fun q => (q.1, J ((pc : Int) + q.2).toNat kc ks ls r_1 t σ)) := by rw [← h3, List.map_map]; rfl
      rw [e1, ← h1] at h_1
      have hz := lsw_ok (fun z => J z.toNat kc ks ls r_1 t σ) x pc dflt qs.toList h_1
      have hn0 := lsw_ok (fun z => 0 ≤ z) x pc dflt qs.toList (swL_all (by rw [h1]; exact hn) _ fun q hq => by
        obtain ⟨q0, hq0, rfl⟩ := List.mem_map.mp hq
        have := List.all_eq_true.mp hps (q0.1, (pc : Int) + q0.2) (by rw [← h3]; exact List.mem_map.mpr ⟨q0, hq0, rfl⟩)
        exact of_decide_eq_true this)
      exact r_lookup hd h2 rfl (toN hn0) (hJ _ _ _ _ _ _ _ hz)
    · rename_i dflt lo hi offs
      simp only [Bool.and_eq_true, decide_eq_true_eq] at hag
      obtain ⟨⟨h1, h2⟩, h3⟩ := hag
      have e1 : ps.toList.map (fun q => (q.1, J q.2.toNat kc ks ls r_1 t σ)) = offs.toList.mapIdx (fun j o => (lo + j, J ((pc : Int) + o).toNat kc ks ls r_1 t σ)) := by
        rw [← h3]
        apply List.ext_getElem?
        intro j
        rw [List.getElem?_map, List.getElem?_mapIdx, List.getElem?_mapIdx, Option.map_map]
        rfl
      rw [e1, ← h1] at h_1
      rcases tsw_ok (fun z => J z.toNat kc ks ls r_1 t σ) x pc dflt offs.toList lo h_1 with ⟨q1, q2⟩ | ⟨off, q1, q2, q3, q4⟩
      · rw [Array.length_toList] at q1
        exact r_tableOut hd (by omega) (toN (by rw [h1]; exact hn)) (hJ _ _ _ _ _ _ _ q2)
      · rw [Array.length_toList] at q2
        have hn0 : 0 ≤ (pc : Int) + off := by
          have := List.all_eq_true.mp hps (lo + ((x - lo).toNat : Nat), (pc : Int) + off) (by
            rw [← h3]
            refine List.mem_of_getElem? (i := (x - lo).toNat) ?_
            rw [List.getElem?_mapIdx, q3]
            rfl)
          exact of_decide_eq_true this
        exact r_tableIn hd (by omega) (by omega) (by rw [← Array.getElem?_toList]; exact q3) (toN hn0) (hJ _ _ _ _ _ _ _ q4)
    · cases hag
  | invokevirtual n =>
    simp only [agr, Bool.and_eq_true, decide_eq_true_eq] at hag
    obtain ⟨rfl, hag⟩ := hag
    obtain ⟨bs, r_1, rfl, hb, -, h_1⟩ := pN_e _ _ _ _ h
    rw [List.append_nil] at h_1
    obtain ⟨x, r_2, rfl, hr8, hO, h_2⟩ := pR_e h_1
    split at hag
    · rename_i idx
      simp only [Bool.and_eq_true, Bool.or_eq_true, decide_eq_true_eq] at hag
      obtain ⟨⟨⟨hc, hq⟩, hq10⟩, hqe⟩ := hag
      obtain ⟨q, hq1, hq2⟩ := cn_cls hq10
      have hq2 : q.1 = (mN (n / 128)).cls := by rw [mK_ok hqe, hq]; exact hq2
      have hkk : WPc l g (n / 128) d 0 0 (vR x :: bs) t σ (fun v t' σ' => Wp l g e (d + 1) (kc - 0) (ks - 0) (pc + 3) ls (v.toList ++ r_2) t' σ' Q) := WPc_mono (fun v t' σ' z => hk _ _ _ _ _ _ z) (hEC _ _ _ _ _ h_2)
      have hc : callOk 0 (mN e).cls idx (n / 128) (n / 16 % 8) = true ∨ callOk 1 (mN e).cls idx (n / 128) (n / 16 % 8) = true := by
        rw [he]
        rcases hc with hc | hc
        · exact Or.inl (cT_ok _ hc)
        · exact Or.inr (cT_ok _ hc)
      rcases hc with hc | hc
      · exact r_callV (Or.inl rfl) hq1 hq2 hO hc hb hr8 (Nat.zero_le _) (Nat.zero_le _) hd hkk
      · exact r_callV (Or.inr rfl) hq1 hq2 hO hc hb hr8 (Nat.zero_le _) (Nat.zero_le _) hd hkk
    · cases hag
  | invokestatic n =>
    simp only [agr, Bool.and_eq_true, decide_eq_true_eq] at hag
    obtain ⟨rfl, hag⟩ := hag
    obtain ⟨bs, r_1, rfl, hb, hr8, h_1⟩ := pN_e _ _ _ _ h
    rw [List.append_nil] at h_1
    split at hag
    · rename_i idx
      simp only [Bool.or_eq_true, decide_eq_true_eq] at hag
      have hag : callOk 2 (mN e).cls idx (n / 128) (n / 16 % 8) = true ∨ callOk 3 (mN e).cls idx (n / 128) (n / 16 % 8) = true := by
        rw [he]
        rcases hag with hc | hc
        · exact Or.inl (cT_ok _ hc)
        · exact Or.inr (cT_ok _ hc)
      have hkk : WPc l g (n / 128) d 0 0 bs t σ (fun v t' σ' => Wp l g e (d + 1) (kc - 0) (ks - 0) (pc + 3) ls (v.toList ++ r_1) t' σ' Q) := WPc_mono (fun v t' σ' z => hk _ _ _ _ _ _ z) (hEC _ _ _ _ _ h_1)
      rcases hag with hc | hc
      · exact r_callS (Or.inl rfl) hc hb hr8 (Nat.zero_le _) (Nat.zero_le _) hd hkk
      · exact r_callS (Or.inr rfl) hc hb hr8 (Nat.zero_le _) (Nat.zero_le _) hd hkk
    · cases hag
  | invokedynamic n =>
    simp only [agr, Bool.and_eq_true, decide_eq_true_eq] at hag
    obtain ⟨rfl, hag⟩ := hag
    obtain ⟨n, r_1, rfl, h_1⟩ := pI_e h
    obtain ⟨dp, r_2, rfl, h_2⟩ := pI_e h_1
    obtain ⟨b, r_3, rfl, h_3⟩ := pR_e h_2
    obtain ⟨sp, r_4, rfl, h_4⟩ := pI_e h_3
    obtain ⟨x, r_5, rfl, hA, hB, ⟨q1, q2, q3, q4, q5⟩, hr8, h_5⟩ := pR_e h_4
    split at hag
    · have hag := pT_ok _ (of_decide_eq_true hag)
      unfold pOK at hag
      rw [← he] at hag
      exact r_copy hA hB q1 q2 q3 q4 q5 hr8 hag hd (hk _ _ _ _ _ _ h_5)
    · cases hag
  | ireturn =>
    simp only [agr, Bool.and_eq_true, decide_eq_true_eq] at hag
    obtain ⟨⟨rfl, rfl⟩, hm⟩ := hag
    obtain ⟨x, r_1, rfl, rfl, hkc, h_1⟩ := pI_e h
    exact r_ret (v := some (vI x)) rfl hd (by unfold rOK; rw [hm]) hkc h_1
  | freturn =>
    simp only [agr, Bool.and_eq_true, decide_eq_true_eq] at hag
    obtain ⟨⟨rfl, rfl⟩, hm⟩ := hag
    obtain ⟨x, r_1, rfl, rfl, hkc, hx, h_1⟩ := pI_e h
    exact r_ret (v := some (vI x)) rfl hd (by unfold rOK; rw [hm]; exact ⟨rfl, hx⟩) hkc h_1
  | dreturn =>
    simp only [agr, Bool.and_eq_true, decide_eq_true_eq] at hag
    obtain ⟨⟨rfl, rfl⟩, hm⟩ := hag
    obtain ⟨x, r_1, rfl, rfl, hkc, hx, h_1⟩ := pI_e h
    exact r_ret (v := some (vI x)) rfl hd (by unfold rOK; rw [hm]; exact ⟨rfl, hx⟩) hkc h_1
  | lreturn =>
    simp only [agr, Bool.and_eq_true, decide_eq_true_eq] at hag
    obtain ⟨⟨rfl, rfl⟩, hm⟩ := hag
    obtain ⟨x, r_1, rfl, rfl, hkc, h_1⟩ := pL_e h
    exact r_ret (v := some (vL x)) rfl hd (by unfold rOK; rw [hm]) hkc h_1
  | areturn =>
    simp only [agr, Bool.and_eq_true, decide_eq_true_eq] at hag
    obtain ⟨⟨rfl, rfl⟩, hm⟩ := hag
    obtain ⟨x, r_1, rfl, rfl, hkc, h_1⟩ := pR_e h
    split at hm
    · rename_i n hm'
      exact r_ret (v := some (vR x)) rfl hd (by unfold rOK; rw [hm']) hkc h_1
    · cases hm
  | return_ =>
    simp only [agr, Bool.and_eq_true, decide_eq_true_eq] at hag
    obtain ⟨⟨rfl, rfl⟩, hm⟩ := hag
    obtain ⟨rfl, hkc, h⟩ := h
    exact r_ret (v := none) rfl hd (by unfold rOK; rw [hm]) hkc h
  | goto_w n => cases hag
  | _ => exact h.elim
end EX
end
section
/-! the walk of a method's code -/
def isTm (i : Instr) : Bool := match i with
  | .goto _ => true
  | .lookupswitch .. => true
  | .ireturn => true
  | .freturn => true
  | .dreturn => true
  | .lreturn => true
  | .areturn => true
  | .return_ => true
  | _ => false
def vcl (g : GE) (E : EC) (J : Nat → Cont) (Q : Post) : List Instr → Cont
  | [] => fun _ _ _ _ _ _ => False
  | i :: r => ex1 g E J Q i (vcl g E J Q r)
def isFall (i : Instr) : Option Int := match i with
  | .goto_w n => some n
  | _ => none
def chk (e : Nat) : Nat → List Instr → Bool
  | _, [] => false
  | pc, i :: r => match isFall i with
    | some n => decide (n = (pc : Int))
    | none => match decode (mC e) pc with
      | .ok (a, len) => agr e pc a len i && (isTm i || chk e (pc + len) r)
      | .error _ => false
abbrev Tb : Type := List (Nat × Option (List Nat) × List Instr)
def lkp (tg : Nat) : Tb → Option (List Nat) × List Instr
  | [] => (none, [])
  | (p, x) :: r => if tg = p then x else lkp tg r
def vcJ (l : Launch) (g : GE) (e d : Nat) (E : EC) (Q : Post) (tg : Nat) (f : Nat → Cont) (x : Option (List Nat) × List Instr) : Cont := match x.1 with
  | some live => fun kc ks ls st t σ => Wp l g e (d + 1) kc ks tg (lkeep live ls) st t σ Q
  | none => vcl g E f Q x.2
def vcN (l : Launch) (g : GE) (e d : Nat) (E : EC) (Q : Post) (tb : Tb) : Nat → Nat → Cont
  | 0, tg => fun kc ks ls st t σ => Wp l g e (d + 1) kc ks tg ls st t σ Q
  | n + 1, tg => vcJ l g e d E Q tg (vcN l g e d E Q tb n) (lkp tg tb)
section WLK
variable {l : Launch} {g : GE} {e d kc ks pc : Nat} {ls : List (Nat × TV)} {st : List TV} {t : Tau} {σ : Mem} {Q : Post} {E : EC} {J : Nat → Cont}
theorem ex1_tm {i : Instr} {k k' : Cont} (h : isTm i = true) (hx : ex1 g E J Q i k kc ks ls st t σ) : ex1 g E J Q i k' kc ks ls st t σ := by
  cases i <;> first | exact hx | cases h
theorem vcl_ok (hE : e < 293) (hEC : ∀ e' as t σ Q', E e' as t σ Q' → WPc l g e' d 0 0 as t σ Q') (hJ : ∀ tg kc ks ls st t σ, J tg kc ks ls st t σ → Wp l g e (d + 1) kc ks tg ls st t σ Q) : ∀ (is : List Instr) (pc kc ks : Nat) (ls : List (Nat × TV)) (st : List TV) (t : Tau) (σ : Mem), chk e pc is = true → vcl g E J Q is kc ks ls st t σ → Wp l g e (d + 1) kc ks pc ls st t σ Q
  | [], _, _, _, _, _, _, _, h, _ => by cases h
  | i :: r, pc, kc, ks, ls, st, t, σ, h, hv => by
    unfold chk at h
    cases hf : isFall i with
    | some n =>
      rw [hf] at h
      have hn := of_decide_eq_true h
      have hi : i = .goto_w n := by
        cases i <;> first | (cases hf; rfl) | cases hf
      subst hi
      have := hJ _ _ _ _ _ _ _ hv
      rw [hn, Int.toNat_natCast] at this
      exact this
    | none =>
      rw [hf] at h
      cases hd : decode (mC e) pc with
      | error m => rw [hd] at h; cases h
      | ok q =>
        obtain ⟨a, len⟩ := q
        rw [hd] at h
        simp only [Bool.and_eq_true, Bool.or_eq_true] at h
        obtain ⟨hag, hr⟩ := h
        rcases hr with hr | hr
        · exact ex1_ok (k := fun _ _ _ _ _ _ => False) hE hEC hag hd (fun _ _ _ _ _ _ z => z.elim) hJ (ex1_tm hr hv)
        · exact ex1_ok hE hEC hag hd (fun kc ks ls st t σ z => vcl_ok hE hEC hJ r (pc + len) kc ks ls st t σ hr z) hJ hv
theorem lkp_ok {tb : Tb} (htb : tb.all (fun q => chk e q.1 q.2.2) = true) {tg : Nat} : (lkp tg tb).2 = [] ∨ chk e tg (lkp tg tb).2 = true := by
  induction tb with
  | nil => exact Or.inl rfl
  | cons q r ih =>
    obtain ⟨p, x⟩ := q
    rw [List.all_cons, Bool.and_eq_true] at htb
    unfold lkp
    by_cases hp : tg = p
    · rw [if_pos hp, hp]; exact Or.inr htb.1
    · rw [if_neg hp]; exact ih htb.2
theorem vcl_nil {is : List Instr} (h : is = []) : ¬ vcl g E J Q is kc ks ls st t σ := by
  subst h
  exact fun z => z
theorem vcN_ok {tb : Tb} (hE : e < 293) (hEC : ∀ e' as t σ Q', E e' as t σ Q' → WPc l g e' d 0 0 as t σ Q') (htb : tb.all (fun q => chk e q.1 q.2.2) = true) : ∀ (n tg kc ks : Nat) (ls : List (Nat × TV)) (st : List TV) (t : Tau) (σ : Mem), vcN l g e d E Q tb n tg kc ks ls st t σ → Wp l g e (d + 1) kc ks tg ls st t σ Q
  | 0, _, _, _, _, _, _, _, h => h
  | n + 1, tg, kc, ks, ls, st, t, σ, h => by
    have h' : vcJ l g e d E Q tg (vcN l g e d E Q tb n) (lkp tg tb) kc ks ls st t σ := h
    unfold vcJ at h'
    cases hx : (lkp tg tb).1 with
    | some live => rw [hx] at h'; exact r_keep h'
    | none =>
      rw [hx] at h'
      rcases lkp_ok htb (tg := tg) with h1 | h1
      · exact (vcl_nil h1 h').elim
      · exact vcl_ok hE hEC (fun tg kc ks ls st t σ z => vcN_ok hE hEC htb n tg kc ks ls st t σ z) _ tg kc ks ls st t σ h1 h'
theorem wp_at {tb : Tb} (hE : e < 293) (hEC : ∀ e' as t σ Q', E e' as t σ Q' → WPc l g e' d 0 0 as t σ Q') (htb : tb.all (fun q => chk e q.1 q.2.2) = true) (n : Nat) (h : vcl g E (vcN l g e d E Q tb n) Q (lkp pc tb).2 kc ks ls st t σ) : Wp l g e (d + 1) kc ks pc ls st t σ Q := by
  rcases lkp_ok htb (tg := pc) with h1 | h1
  · exact (vcl_nil h1 h).elim
  · exact vcl_ok hE hEC (fun tg kc ks ls st t σ z => vcN_ok hE hEC htb n tg kc ks ls st t σ z) _ pc kc ks ls st t σ h1 h
theorem wp_go {tb : Tb} {as : List TV} {ml : Nat} (hE : e < 293) (hEC : ∀ e' as t σ Q', E e' as t σ Q' → WPc l g e' d 0 0 as t σ Q') (htb : tb.all (fun q => chk e q.1 q.2.2) = true) (hy : plainName (mN e).cls = true) (hml : mL e = ml) (n : Nat) (hl : (as.map catT).sum ≤ ml) (h : vcl g E (vcN l g e d E Q tb n) Q (lkp 0 tb).2 kc ks (largs 0 as) [] t σ) : WPc l g e (d + 1) kc ks as t σ Q :=
  wp_in hy (by rw [hml]; exact hl) (wp_at hE hEC htb n h)
end WLK
end
section
/-! the methods' code, 0 to 49 -/
/-- Laws.weighs -/
def bl_1 : Tb := [
  (0, none, [.iconst 0, .istore 2, .iconst 168, .istore 3, .goto_w 6]),
  (6, some [0, 1, 2, 3], [.iload 3, .ifCond .lt 44, .aload 0, .getfield 3, .iload 3, .iload 3, .aload 1, .invokestatic 288, .sastore, .aload 0, .getfield 3, .iload 3, .saload, .ifCond .eq 38, .iinc 2 1, .aload 0, .iload 3, .putfield 4, .iinc 3 (-1), .goto 6]),
  (38, none, [.iinc 3 (-1), .goto 6]),
  (44, none, [.iload 2, .ireturn])]
theorem tk_1 : bl_1.all (fun q => chk 1 q.1 q.2.2) = true := by decide +kernel
theorem py_1 : plainName (mN 1).cls = true := by decide +kernel
theorem ml_1 : mL 1 = 4 := rfl
/-- Laws.fitsTales -/
def bl_2 : Tb := [
  (0, none, [.iconst 0, .istore 2, .goto_w 2]),
  (2, some [0, 1, 2], [.iload 2, .aload 1, .getfield 268, .if_icmp .ge 49, .iload 0, .aload 1, .iload 2, .invokevirtual 1041, .aload 1, .iload 2, .invokevirtual 1169, .invokestatic 560, .aload 1, .iload 2, .invokevirtual 1297, .iconst 1, .if_icmp .ne 37, .iconst 1, .goto 38]),
  (37, none, [.iconst 0, .if_icmp .eq 43, .iconst 0, .freturn]),
  (38, none, [.if_icmp .eq 43, .iconst 0, .freturn]),
  (43, none, [.iinc 2 1, .goto 2]),
  (49, none, [.iconst 1, .freturn])]
theorem tk_2 : bl_2.all (fun q => chk 2 q.1 q.2.2) = true := by decide +kernel
theorem py_2 : plainName (mN 2).cls = true := by decide +kernel
theorem ml_2 : mL 2 = 3 := rfl
/-- Laws.numberOver -/
def bl_3 : Tb := [
  (0, none, [.iconst 0, .istore 3, .iconst 0, .istore 4, .goto_w 5]),
  (5, some [0, 1, 2, 3, 4], [.iload 4, .iconst 169, .if_icmp .ge 47, .iload 3, .aload 0, .getfield 3, .iload 4, .saload, .ifCond .eq 38, .iload 4, .iload 1, .iload 2, .invokestatic 560, .ifCond .eq 38, .iconst 1, .goto 39]),
  (38, none, [.iconst 0, .iadd, .istore 3, .iinc 4 1, .goto 5]),
  (39, none, [.iadd, .istore 3, .iinc 4 1, .goto 5]),
  (47, none, [.iload 3, .ireturn])]
theorem tk_3 : bl_3.all (fun q => chk 3 q.1 q.2.2) = true := by decide +kernel
theorem py_3 : plainName (mN 3).cls = true := by decide +kernel
theorem ml_3 : mL 3 = 5 := rfl
/-- Laws.isOver -/
def bl_4 : Tb := [
  (0, none, [.iload 1, .iload 0, .iconst 13, .idiv, .if_icmp .lt 18, .iload 2, .iload 1, .isub, .iload 0, .iconst 13, .irem, .if_icmp .lt 22, .iconst 1, .goto 23]),
  (18, none, [.iconst 1, .goto 23]),
  (22, none, [.iconst 0, .freturn]),
  (23, none, [.freturn])]
theorem tk_4 : bl_4.all (fun q => chk 4 q.1 q.2.2) = true := by decide +kernel
theorem py_4 : plainName (mN 4).cls = true := by decide +kernel
theorem ml_4 : mL 4 = 3 := rfl
/-- Notes.adds -/
def bl_6 : Tb := [
  (0, none, [.aload 0, .getfield 268, .ifCond .lt 16, .aload 0, .getfield 268, .iconst 12, .if_icmp .lt 18, .iconst 0, .freturn]),
  (16, none, [.iconst 0, .freturn]),
  (18, none, [.aload 0, .getfield 259, .aload 0, .getfield 268, .iload 1, .iastore, .aload 0, .getfield 263, .aload 0, .getfield 268, .iload 2, .iastore, .aload 0, .getfield 267, .aload 0, .getfield 268, .iload 3, .iastore, .aload 0, .dup, .getfield 268, .iconst 1, .iadd, .putfield 268, .iconst 1, .freturn])]
theorem tk_6 : bl_6.all (fun q => chk 6 q.1 q.2.2) = true := by decide +kernel
theorem py_6 : plainName (mN 6).cls = true := by decide +kernel
theorem ml_6 : mL 6 = 4 := rfl
/-- Notes.empties -/
def bl_7 : Tb := [
  (0, none, [.aload 0, .getfield 268, .istore 1, .aload 0, .iconst 0, .putfield 268, .iload 1, .ireturn])]
theorem tk_7 : bl_7.all (fun q => chk 7 q.1 q.2.2) = true := by decide +kernel
theorem py_7 : plainName (mN 7).cls = true := by decide +kernel
theorem ml_7 : mL 7 = 2 := rfl
/-- Notes.firstOf -/
def bl_8 : Tb := [
  (0, none, [.iload 1, .ifCond .lt 19, .iload 1, .iconst 12, .if_icmp .ge 19, .aload 0, .getfield 259, .iload 1, .iaload, .goto 20]),
  (19, none, [.iconst (-1), .ireturn]),
  (20, none, [.ireturn])]
theorem tk_8 : bl_8.all (fun q => chk 8 q.1 q.2.2) = true := by decide +kernel
theorem py_8 : plainName (mN 8).cls = true := by decide +kernel
theorem ml_8 : mL 8 = 2 := rfl
/-- Notes.secondOf -/
def bl_9 : Tb := [
  (0, none, [.iload 1, .ifCond .lt 19, .iload 1, .iconst 12, .if_icmp .ge 19, .aload 0, .getfield 263, .iload 1, .iaload, .goto 20]),
  (19, none, [.iconst (-1), .ireturn]),
  (20, none, [.ireturn])]
theorem tk_9 : bl_9.all (fun q => chk 9 q.1 q.2.2) = true := by decide +kernel
theorem py_9 : plainName (mN 9).cls = true := by decide +kernel
theorem ml_9 : mL 9 = 2 := rfl
/-- Notes.thirdOf -/
def bl_10 : Tb := [
  (0, none, [.iload 1, .ifCond .lt 19, .iload 1, .iconst 12, .if_icmp .ge 19, .aload 0, .getfield 267, .iload 1, .iaload, .goto 20]),
  (19, none, [.iconst (-1), .ireturn]),
  (20, none, [.ireturn])]
theorem tk_10 : bl_10.all (fun q => chk 10 q.1 q.2.2) = true := by decide +kernel
theorem py_10 : plainName (mN 10).cls = true := by decide +kernel
theorem ml_10 : mL 10 = 2 := rfl
/-- Past.clears -/
def bl_12 : Tb := [
  (0, none, [.aload 0, .iconst 0, .putfield 520, .return_])]
theorem tk_12 : bl_12.all (fun q => chk 12 q.1 q.2.2) = true := by decide +kernel
theorem py_12 : plainName (mN 12).cls = true := by decide +kernel
theorem ml_12 : mL 12 = 1 := rfl
/-- Past.at -/
def bl_13 : Tb := [
  (0, none, [.aload 0, .getfield 516, .iload 1, .iadd, .iconst 12, .invokestatic 36640, .istore 2, .iload 2, .aload 0, .getfield 515, .arraylength, .if_icmp .ge 30, .aload 0, .getfield 515, .iload 2, .aaload, .goto 31]),
  (30, none, [.aconst_null, .areturn]),
  (31, none, [.areturn])]
theorem tk_13 : bl_13.all (fun q => chk 13 q.1 q.2.2) = true := by decide +kernel
theorem py_13 : plainName (mN 13).cls = true := by decide +kernel
theorem ml_13 : mL 13 = 3 := rfl
/-- Past.adds -/
def bl_14 : Tb := [
  (0, none, [.aload 0, .getfield 520, .iconst 12, .if_icmp .ne 32, .aload 0, .aload 0, .getfield 516, .iconst 1, .iadd, .iconst 12, .irem, .putfield 516, .aload 0, .dup, .getfield 520, .iconst 1, .isub, .putfield 520, .aload 0, .aload 0, .getfield 520, .invokevirtual 1682, .astore 2, .aload 2, .ifnull 60, .aload 2, .aload 1, .invokevirtual 5141, .aload 0, .dup, .getfield 520, .iconst 1, .iadd, .putfield 520, .return_]),
  (32, none, [.aload 0, .aload 0, .getfield 520, .invokevirtual 1682, .astore 2, .aload 2, .ifnull 60, .aload 2, .aload 1, .invokevirtual 5141, .aload 0, .dup, .getfield 520, .iconst 1, .iadd, .putfield 520, .return_]),
  (60, none, [.return_])]
theorem tk_14 : bl_14.all (fun q => chk 14 q.1 q.2.2) = true := by decide +kernel
theorem py_14 : plainName (mN 14).cls = true := by decide +kernel
theorem ml_14 : mL 14 = 3 := rfl
/-- Past.returns -/
def bl_15 : Tb := [
  (0, none, [.aload 0, .getfield 520, .ifCond .le 20, .aload 0, .aload 0, .getfield 520, .iconst 1, .isub, .invokevirtual 1682, .goto 21]),
  (20, none, [.aconst_null, .astore 2, .aload 2, .ifnonnull 28, .iconst 0, .freturn]),
  (21, none, [.astore 2, .aload 2, .ifnonnull 28, .iconst 0, .freturn]),
  (28, none, [.aload 1, .aload 2, .invokevirtual 5141, .aload 0, .dup, .getfield 520, .iconst 1, .isub, .putfield 520, .iconst 1, .freturn])]
theorem tk_15 : bl_15.all (fun q => chk 15 q.1 q.2.2) = true := by decide +kernel
theorem py_15 : plainName (mN 15).cls = true := by decide +kernel
theorem ml_15 : mL 15 = 3 := rfl
/-- Row.clears -/
def bl_17 : Tb := [
  (0, none, [.aload 0, .iconst 0, .putfield 772, .return_])]
theorem tk_17 : bl_17.all (fun q => chk 17 q.1 q.2.2) = true := by decide +kernel
theorem py_17 : plainName (mN 17).cls = true := by decide +kernel
theorem ml_17 : mL 17 = 1 := rfl
/-- Row.adds -/
def bl_18 : Tb := [
  (0, none, [.aload 0, .getfield 772, .ifCond .lt 39, .aload 0, .getfield 772, .aload 0, .getfield 771, .arraylength, .if_icmp .ge 39, .aload 0, .getfield 771, .aload 0, .getfield 772, .lload 1, .lastore, .aload 0, .dup, .getfield 772, .iconst 1, .iadd, .putfield 772, .return_]),
  (39, none, [.return_])]
theorem tk_18 : bl_18.all (fun q => chk 18 q.1 q.2.2) = true := by decide +kernel
theorem py_18 : plainName (mN 18).cls = true := by decide +kernel
theorem ml_18 : mL 18 = 3 := rfl
/-- Row.addsFraction -/
def bl_19 : Tb := [
  (0, none, [.lload 1, .lload 3, .invokestatic 2592, .lstore 5, .lload 5, .ldc2_w 0, .lcmp, .ifCond .eq 30, .aload 0, .lload 1, .lload 5, .ldiv, .invokevirtual 2323, .aload 0, .lload 3, .lload 5, .ldiv, .invokevirtual 2323, .return_]),
  (30, none, [.return_])]
theorem tk_19 : bl_19.all (fun q => chk 19 q.1 q.2.2) = true := by decide +kernel
theorem py_19 : plainName (mN 19).cls = true := by decide +kernel
theorem ml_19 : mL 19 = 7 := rfl
/-- Row.commonDivisor -/
def bl_20 : Tb := [
  (0, none, [.lload 0, .lstore 4, .lload 2, .lstore 6, .iconst 0, .istore 8, .goto_w 9]),
  (9, some [4, 6, 8], [.iload 8, .iconst 200, .if_icmp .ge 45, .lload 6, .ldc2_w 0, .lcmp, .ifCond .eq 45, .lload 4, .lload 6, .lrem, .lstore 9, .lload 6, .lstore 4, .lload 9, .lstore 6, .iinc 8 1, .goto 9]),
  (45, none, [.lload 4, .lreturn])]
theorem tk_20 : bl_20.all (fun q => chk 20 q.1 q.2.2) = true := by decide +kernel
theorem py_20 : plainName (mN 20).cls = true := by decide +kernel
theorem ml_20 : mL 20 = 11 := rfl
/-- Row.has -/
def bl_21 : Tb := [
  (0, none, [.iload 1, .ifCond .lt 25, .iload 1, .aload 0, .getfield 772, .if_icmp .ge 25, .iload 1, .aload 0, .getfield 771, .arraylength, .if_icmp .ge 25, .iconst 1, .goto 26]),
  (25, none, [.iconst 0, .freturn]),
  (26, none, [.freturn])]
theorem tk_21 : bl_21.all (fun q => chk 21 q.1 q.2.2) = true := by decide +kernel
theorem py_21 : plainName (mN 21).cls = true := by decide +kernel
theorem ml_21 : mL 21 = 2 := rfl
/-- Row.at -/
def bl_22 : Tb := [
  (0, none, [.aload 0, .iload 1, .invokevirtual 2707, .ifCond .eq 17, .aload 0, .getfield 771, .iload 1, .laload, .goto 18]),
  (17, none, [.ldc2_w 0, .lreturn]),
  (18, none, [.lreturn])]
theorem tk_22 : bl_22.all (fun q => chk 22 q.1 q.2.2) = true := by decide +kernel
theorem py_22 : plainName (mN 22).cls = true := by decide +kernel
theorem ml_22 : mL 22 = 2 := rfl
/-- Rule.reads -/
def bl_24 : Tb := [
  (0, none, [.aload 0, .iconst 0, .putfield 1036, .aload 0, .iconst 0, .putfield 1040, .aload 0, .iconst 0, .putfield 1044, .aload 0, .iconst 0, .putfield 1048, .aload 0, .iconst 0, .putfield 1052, .aload 0, .iconst 1, .putfield 1057, .iload 2, .iconst 40, .invokestatic 37024, .istore 3, .iconst 0, .istore 4, .goto_w 40]),
  (40, some [0, 1, 2, 3, 4], [.iload 4, .iload 3, .if_icmp .ge 94, .iload 4, .aload 1, .arraylength, .if_icmp .ge 94, .aload 0, .getfield 1057, .ifCond .eq 74, .aload 0, .aload 1, .iload 4, .daload, .invokevirtual 3220, .ifCond .eq 85, .goto 88]),
  (74, none, [.aload 0, .aload 1, .iload 4, .daload, .invokevirtual 3348, .ifCond .ne 88, .iload 4, .ireturn]),
  (85, none, [.iload 4, .ireturn]),
  (88, none, [.iinc 4 1, .goto 40]),
  (94, none, [.aload 0, .getfield 1057, .ifCond .ne 108, .aload 0, .getfield 1044, .ifCond .le 110, .iload 3, .ireturn]),
  (108, none, [.iload 3, .ireturn]),
  (110, none, [.iload 2, .iconst 40, .if_icmp .le 119, .iconst 40, .ireturn]),
  (119, none, [.aload 0, .iconst 1, .invokevirtual 4244, .iconst (-1), .ireturn])]
theorem tk_24 : bl_24.all (fun q => chk 24 q.1 q.2.2) = true := by decide +kernel
theorem py_24 : plainName (mN 24).cls = true := by decide +kernel
theorem ml_24 : mL 24 = 5 := rfl
/-- Rule.beginsThing -/
def bl_25 : Tb := [
  (0, none, [.iload 1, .invokestatic 18192, .ifCond .eq 27, .aload 0, .iload 1, .iconst 48, .isub, .invokevirtual 3988, .aload 0, .iconst 1, .putfield 1052, .aload 0, .iconst 0, .putfield 1057, .iconst 1, .freturn]),
  (27, none, [.iload 1, .invokestatic 3728, .ifCond .eq 55, .aload 0, .iconst 1000, .iload 1, .iadd, .invokevirtual 3988, .aload 0, .iconst 0, .putfield 1052, .aload 0, .iconst 0, .putfield 1057, .iconst 1, .freturn]),
  (55, none, [.iload 1, .iconst 45, .if_icmp .ne 69, .aload 0, .iconst 126, .invokevirtual 4116, .iconst 1, .freturn]),
  (69, none, [.iload 1, .iconst 40, .if_icmp .ne 83, .aload 0, .getfield 1044, .iconst 4, .if_icmp .lt 85, .iconst 0, .freturn]),
  (83, none, [.iconst 0, .freturn]),
  (85, none, [.aload 0, .iload 1, .invokevirtual 4116, .aload 0, .dup, .getfield 1044, .iconst 1, .iadd, .putfield 1044, .aload 0, .dup, .getfield 1048, .iconst 1, .aload 0, .getfield 1044, .ishl, .iconst (-1), .ixor, .iand, .putfield 1048, .iconst 1, .freturn])]
theorem tk_25 : bl_25.all (fun q => chk 25 q.1 q.2.2) = true := by decide +kernel
theorem py_25 : plainName (mN 25).cls = true := by decide +kernel
theorem ml_25 : mL 25 = 2 := rfl
/-- Rule.comesBehind -/
def bl_26 : Tb := [
  (0, none, [.iload 1, .invokestatic 18192, .ifCond .eq 16, .aload 0, .iload 1, .iconst 48, .isub, .invokevirtual 3476, .freturn]),
  (16, none, [.iload 1, .iconst 41, .if_icmp .ne 27, .aload 0, .invokevirtual 3588, .freturn]),
  (27, none, [.iload 1, .invokestatic 3856, .istore 2, .iload 2, .ifCond .eq 42, .iload 1, .iconst 126, .if_icmp .ne 44, .iconst 0, .freturn]),
  (42, none, [.iconst 0, .freturn]),
  (44, none, [.iload 2, .iconst 1, .if_icmp .ne 80, .aload 0, .getfield 1048, .iconst 1, .aload 0, .getfield 1044, .ishl, .iand, .ifCond .eq 65, .iconst 0, .freturn]),
  (65, none, [.aload 0, .dup, .getfield 1048, .iconst 1, .aload 0, .getfield 1044, .ishl, .ior, .putfield 1048, .aload 0, .iload 2, .invokevirtual 4244, .aload 0, .iload 1, .invokevirtual 4116, .aload 0, .iconst 1, .putfield 1057, .iconst 1, .freturn]),
  (80, none, [.aload 0, .iload 2, .invokevirtual 4244, .aload 0, .iload 1, .invokevirtual 4116, .aload 0, .iconst 1, .putfield 1057, .iconst 1, .freturn])]
theorem tk_26 : bl_26.all (fun q => chk 26 q.1 q.2.2) = true := by decide +kernel
theorem py_26 : plainName (mN 26).cls = true := by decide +kernel
theorem ml_26 : mL 26 = 3 := rfl
/-- Rule.lengthens -/
def bl_27 : Tb := [
  (0, none, [.aload 0, .getfield 1052, .iconst 1, .if_icmp .lt 36, .aload 0, .getfield 1052, .iconst 2, .if_icmp .gt 36, .aload 0, .getfield 1036, .iconst 1, .if_icmp .lt 36, .aload 0, .getfield 1036, .aload 0, .getfield 1027, .arraylength, .if_icmp .le 38, .iconst 0, .freturn]),
  (36, none, [.iconst 0, .freturn]),
  (38, none, [.aload 0, .getfield 1027, .aload 0, .getfield 1036, .iconst 1, .isub, .aload 0, .getfield 1027, .aload 0, .getfield 1036, .iconst 1, .isub, .iaload, .iconst 10, .imul, .iload 1, .iadd, .iastore, .aload 0, .dup, .getfield 1052, .iconst 1, .iadd, .putfield 1052, .iconst 1, .freturn])]
theorem tk_27 : bl_27.all (fun q => chk 27 q.1 q.2.2) = true := by decide +kernel
theorem py_27 : plainName (mN 27).cls = true := by decide +kernel
theorem ml_27 : mL 27 = 2 := rfl
/-- Rule.closes -/
def bl_28 : Tb := [
  (0, none, [.aload 0, .getfield 1044, .ifCond .ne 9, .iconst 0, .freturn]),
  (9, none, [.aload 0, .iconst 1, .invokevirtual 4244, .aload 0, .getfield 1040, .ifCond .le 31, .aload 0, .dup, .getfield 1040, .iconst 1, .isub, .putfield 1040, .aload 0, .dup, .getfield 1044, .iconst 1, .isub, .putfield 1044, .aload 0, .iconst 0, .putfield 1052, .iconst 1, .freturn]),
  (31, none, [.aload 0, .dup, .getfield 1044, .iconst 1, .isub, .putfield 1044, .aload 0, .iconst 0, .putfield 1052, .iconst 1, .freturn])]
theorem tk_28 : bl_28.all (fun q => chk 28 q.1 q.2.2) = true := by decide +kernel
theorem py_28 : plainName (mN 28).cls = true := by decide +kernel
theorem ml_28 : mL 28 = 1 := rfl
/-- Rule.isLetter -/
def bl_29 : Tb := [
  (0, none, [.iload 0, .iconst 115, .if_icmp .eq 36, .iload 0, .iconst 111, .if_icmp .eq 36, .iload 0, .iconst 101, .if_icmp .eq 36, .iload 0, .iconst 119, .if_icmp .eq 36, .iload 0, .iconst 108, .if_icmp .eq 36, .iload 0, .iconst 110, .if_icmp .ne 40, .iconst 1, .goto 41]),
  (36, none, [.iconst 1, .goto 41]),
  (40, none, [.iconst 0, .freturn]),
  (41, none, [.freturn])]
theorem tk_29 : bl_29.all (fun q => chk 29 q.1 q.2.2) = true := by decide +kernel
theorem py_29 : plainName (mN 29).cls = true := by decide +kernel
theorem ml_29 : mL 29 = 1 := rfl
/-- Rule.binding -/
def bl_30 : Tb := [
  (0, none, [.iload 0, .lookupswitch 92 #[(42, 86), (43, 82), (45, 84), (47, 88), (60, 76), (61, 80), (62, 78), (126, 90)]]),
  (76, none, [.iconst 1, .ireturn]),
  (78, none, [.iconst 1, .ireturn]),
  (80, none, [.iconst 1, .ireturn]),
  (82, none, [.iconst 2, .ireturn]),
  (84, none, [.iconst 2, .ireturn]),
  (86, none, [.iconst 3, .ireturn]),
  (88, none, [.iconst 3, .ireturn]),
  (90, none, [.iconst 4, .ireturn]),
  (92, none, [.iconst 0, .ireturn])]
theorem tk_30 : bl_30.all (fun q => chk 30 q.1 q.2.2) = true := by decide +kernel
theorem py_30 : plainName (mN 30).cls = true := by decide +kernel
theorem ml_30 : mL 30 = 1 := rfl
/-- Rule.emits -/
def bl_31 : Tb := [
  (0, none, [.aload 0, .getfield 1036, .ifCond .lt 39, .aload 0, .getfield 1036, .aload 0, .getfield 1027, .arraylength, .if_icmp .ge 39, .aload 0, .getfield 1027, .aload 0, .getfield 1036, .iload 1, .iastore, .aload 0, .dup, .getfield 1036, .iconst 1, .iadd, .putfield 1036, .return_]),
  (39, none, [.return_])]
theorem tk_31 : bl_31.all (fun q => chk 31 q.1 q.2.2) = true := by decide +kernel
theorem py_31 : plainName (mN 31).cls = true := by decide +kernel
theorem ml_31 : mL 31 = 2 := rfl
/-- Rule.puts -/
def bl_32 : Tb := [
  (0, none, [.aload 0, .getfield 1040, .ifCond .lt 39, .aload 0, .getfield 1040, .aload 0, .getfield 1031, .arraylength, .if_icmp .ge 39, .aload 0, .getfield 1031, .aload 0, .getfield 1040, .iload 1, .castore, .aload 0, .dup, .getfield 1040, .iconst 1, .iadd, .putfield 1040, .return_]),
  (39, none, [.return_])]
theorem tk_32 : bl_32.all (fun q => chk 32 q.1 q.2.2) = true := by decide +kernel
theorem py_32 : plainName (mN 32).cls = true := by decide +kernel
theorem ml_32 : mL 32 = 2 := rfl
/-- Rule.joins -/
def bl_33 : Tb := [
  (0, none, [.aload 0, .getfield 1040, .iconst 1, .isub, .istore 2, .goto_w 7]),
  (7, some [0, 1, 2], [.iload 2, .ifCond .lt 58, .iload 2, .aload 0, .getfield 1031, .arraylength, .if_icmp .ge 58, .aload 0, .getfield 1031, .iload 2, .caload, .invokestatic 3856, .iload 1, .if_icmp .lt 58, .aload 0, .iconst 1000, .aload 0, .getfield 1031, .iload 2, .caload, .iadd, .invokevirtual 3988, .aload 0, .iload 2, .putfield 1040, .iinc 2 (-1), .goto 7]),
  (58, none, [.return_])]
theorem tk_33 : bl_33.all (fun q => chk 33 q.1 q.2.2) = true := by decide +kernel
theorem py_33 : plainName (mN 33).cls = true := by decide +kernel
theorem ml_33 : mL 33 = 3 := rfl
/-- Rule.measures -/
def bl_34 : Tb := [
  (0, none, [.iconst 0, .istore 4, .iconst 0, .istore 5, .goto_w 6]),
  (6, some [0, 1, 2, 3, 4, 5], [.iload 5, .aload 0, .getfield 1036, .if_icmp .ge 111, .iload 5, .aload 0, .getfield 1027, .arraylength, .if_icmp .ge 111, .aload 0, .getfield 1027, .iload 5, .iaload, .istore 6, .iload 6, .iconst 1000, .if_icmp .ge 55, .aload 0, .iload 4, .iload 6, .invokevirtual 4516, .istore 4, .goto 105]),
  (55, none, [.iload 6, .iconst 1000, .isub, .i2c, .invokestatic 3728, .ifCond .eq 91, .aload 0, .iload 4, .iload 6, .iconst 1000, .isub, .aload 1, .iload 2, .iload 3, .invokestatic 4928, .invokevirtual 4516, .istore 4, .goto 105]),
  (91, none, [.aload 0, .iload 4, .iload 6, .iconst 1000, .isub, .invokevirtual 4644, .istore 4, .iinc 5 1, .goto 6]),
  (105, none, [.iinc 5 1, .goto 6]),
  (111, none, [.aload 0, .getfield 1035, .iconst 0, .iaload, .ireturn])]
theorem tk_34 : bl_34.all (fun q => chk 34 q.1 q.2.2) = true := by decide +kernel
theorem py_34 : plainName (mN 34).cls = true := by decide +kernel
theorem ml_34 : mL 34 = 7 := rfl
/-- Rule.stacks -/
def bl_35 : Tb := [
  (0, none, [.iload 1, .ifCond .lt 13, .iload 1, .aload 0, .getfield 1035, .arraylength, .if_icmp .lt 15, .iload 1, .ireturn]),
  (13, none, [.iload 1, .ireturn]),
  (15, none, [.aload 0, .getfield 1035, .iload 1, .iload 2, .iastore, .iload 1, .iconst 1, .iadd, .ireturn])]
theorem tk_35 : bl_35.all (fun q => chk 35 q.1 q.2.2) = true := by decide +kernel
theorem py_35 : plainName (mN 35).cls = true := by decide +kernel
theorem ml_35 : mL 35 = 3 := rfl
/-- Rule.reduces -/
def bl_36 : Tb := [
  (0, none, [.iload 1, .iconst 1, .if_icmp .lt 14, .iload 1, .aload 0, .getfield 1035, .arraylength, .if_icmp .le 16, .iload 1, .ireturn]),
  (14, none, [.iload 1, .ireturn]),
  (16, none, [.iload 2, .iconst 126, .if_icmp .ne 41, .aload 0, .getfield 1035, .iload 1, .iconst 1, .isub, .aload 0, .getfield 1035, .iload 1, .iconst 1, .isub, .iaload, .ineg, .iastore, .iload 1, .ireturn]),
  (41, none, [.iload 1, .iconst 2, .if_icmp .ge 48, .iload 1, .ireturn]),
  (48, none, [.aload 0, .getfield 1035, .iload 1, .iconst 2, .isub, .iload 2, .aload 0, .getfield 1035, .iload 1, .iconst 2, .isub, .iaload, .aload 0, .getfield 1035, .iload 1, .iconst 1, .isub, .iaload, .invokestatic 4784, .iastore, .iload 1, .iconst 1, .isub, .ireturn])]
theorem tk_36 : bl_36.all (fun q => chk 36 q.1 q.2.2) = true := by decide +kernel
theorem py_36 : plainName (mN 36).cls = true := by decide +kernel
theorem ml_36 : mL 36 = 3 := rfl
/-- Rule.joined -/
def bl_37 : Tb := [
  (0, none, [.iload 0, .lookupswitch 105 #[(42, 101), (43, 93), (45, 97), (60, 60), (61, 82), (62, 71)]]),
  (60, none, [.iload 1, .iload 2, .if_icmp .ge 69, .iconst 1, .goto 70]),
  (69, none, [.iconst 0, .ireturn]),
  (70, none, [.ireturn]),
  (71, none, [.iload 1, .iload 2, .if_icmp .le 80, .iconst 1, .goto 81]),
  (80, none, [.iconst 0, .ireturn]),
  (81, none, [.ireturn]),
  (82, none, [.iload 1, .iload 2, .if_icmp .ne 91, .iconst 1, .goto 92]),
  (91, none, [.iconst 0, .ireturn]),
  (92, none, [.ireturn]),
  (93, none, [.iload 1, .iload 2, .iadd, .ireturn]),
  (97, none, [.iload 1, .iload 2, .isub, .ireturn]),
  (101, none, [.iload 1, .iload 2, .imul, .ireturn]),
  (105, none, [.iload 2, .ifCond .ne 113, .iconst 0, .goto 116]),
  (113, none, [.iload 1, .iload 2, .idiv, .ireturn]),
  (116, none, [.ireturn])]
theorem tk_37 : bl_37.all (fun q => chk 37 q.1 q.2.2) = true := by decide +kernel
theorem py_37 : plainName (mN 37).cls = true := by decide +kernel
theorem ml_37 : mL 37 = 3 := rfl
/-- Rule.thing -/
def bl_38 : Tb := [
  (0, none, [.iload 0, .lookupswitch 92 #[(101, 69), (108, 86), (111, 58), (115, 52), (119, 80)]]),
  (52, none, [.aload 1, .iload 2, .invokevirtual 5653, .ireturn]),
  (58, none, [.aload 1, .iload 2, .aload 1, .iload 2, .invokevirtual 5781, .invokevirtual 6181, .ireturn]),
  (69, none, [.aload 1, .iload 2, .aload 1, .iload 3, .invokevirtual 5781, .invokevirtual 6181, .ireturn]),
  (80, none, [.aload 1, .iload 2, .invokevirtual 5909, .ireturn]),
  (86, none, [.aload 1, .iload 2, .invokevirtual 6037, .ireturn]),
  (92, none, [.aload 1, .getfield 1284, .iconst 7, .irem, .ireturn])]
theorem tk_38 : bl_38.all (fun q => chk 38 q.1 q.2.2) = true := by decide +kernel
theorem py_38 : plainName (mN 38).cls = true := by decide +kernel
theorem ml_38 : mL 38 = 4 := rfl
/-- Sea.becomes -/
def bl_40 : Tb := [
  (0, none, [.aload 0, .aload 1, .getfield 1280, .putfield 1280, .aload 0, .aload 1, .getfield 1284, .putfield 1284, .aload 0, .aload 1, .getfield 1288, .putfield 1288, .aload 1, .getfield 1295, .iconst 0, .aload 0, .getfield 1295, .iconst 0, .iconst 6, .invokedynamic 0, .aload 1, .getfield 1299, .iconst 0, .aload 0, .getfield 1299, .iconst 0, .iconst 6, .invokedynamic 0, .aload 1, .getfield 1303, .iconst 0, .aload 0, .getfield 1303, .iconst 0, .iconst 6, .invokedynamic 0, .aload 1, .getfield 1307, .iconst 0, .aload 0, .getfield 1307, .iconst 0, .iconst 6, .invokedynamic 0, .aload 1, .getfield 1311, .iconst 0, .aload 0, .getfield 1311, .iconst 0, .iconst 6, .invokedynamic 0, .aload 1, .getfield 1315, .iconst 0, .aload 0, .getfield 1315, .iconst 0, .iconst 24, .invokedynamic 0, .return_])]
theorem tk_40 : bl_40.all (fun q => chk 40 q.1 q.2.2) = true := by decide +kernel
theorem py_40 : plainName (mN 40).cls = true := by decide +kernel
theorem ml_40 : mL 40 = 2 := rfl
/-- Sea.has -/
def bl_41 : Tb := [
  (0, none, [.iload 1, .ifCond .lt 22, .iload 1, .aload 0, .getfield 1280, .if_icmp .ge 22, .iload 1, .iconst 6, .if_icmp .ge 22, .iconst 1, .goto 23]),
  (22, none, [.iconst 0, .freturn]),
  (23, none, [.freturn])]
theorem tk_41 : bl_41.all (fun q => chk 41 q.1 q.2.2) = true := by decide +kernel
theorem py_41 : plainName (mN 41).cls = true := by decide +kernel
theorem ml_41 : mL 41 = 2 := rfl
/-- Sea.isPair -/
def bl_42 : Tb := [
  (0, none, [.aload 0, .iload 1, .invokevirtual 5269, .ifCond .eq 25, .aload 0, .iload 2, .invokevirtual 5269, .ifCond .eq 25, .iload 1, .iload 2, .if_icmp .eq 25, .iconst 1, .goto 26]),
  (25, none, [.iconst 0, .freturn]),
  (26, none, [.freturn])]
theorem tk_42 : bl_42.all (fun q => chk 42 q.1 q.2.2) = true := by decide +kernel
theorem py_42 : plainName (mN 42).cls = true := by decide +kernel
theorem ml_42 : mL 42 = 3 := rfl
/-- Sea.mightOf -/
def bl_43 : Tb := [
  (0, none, [.aload 0, .iload 1, .invokevirtual 5269, .ifCond .eq 17, .aload 0, .getfield 1295, .iload 1, .iaload, .goto 18]),
  (17, none, [.iconst 0, .ireturn]),
  (18, none, [.ireturn])]
theorem tk_43 : bl_43.all (fun q => chk 43 q.1 q.2.2) = true := by decide +kernel
theorem py_43 : plainName (mN 43).cls = true := by decide +kernel
theorem ml_43 : mL 43 = 2 := rfl
/-- Sea.strengthOf -/
def bl_44 : Tb := [
  (0, none, [.aload 0, .iload 1, .invokevirtual 5269, .ifCond .eq 17, .aload 0, .getfield 1299, .iload 1, .iaload, .goto 18]),
  (17, none, [.iconst 0, .ireturn]),
  (18, none, [.ireturn])]
theorem tk_44 : bl_44.all (fun q => chk 44 q.1 q.2.2) = true := by decide +kernel
theorem py_44 : plainName (mN 44).cls = true := by decide +kernel
theorem ml_44 : mL 44 = 2 := rfl
/-- Sea.sideOf -/
def bl_45 : Tb := [
  (0, none, [.aload 0, .iload 1, .invokevirtual 5269, .ifCond .eq 17, .aload 0, .getfield 1303, .iload 1, .iaload, .goto 18]),
  (17, none, [.iconst (-1), .ireturn]),
  (18, none, [.ireturn])]
theorem tk_45 : bl_45.all (fun q => chk 45 q.1 q.2.2) = true := by decide +kernel
theorem py_45 : plainName (mN 45).cls = true := by decide +kernel
theorem ml_45 : mL 45 = 2 := rfl
/-- Sea.wonOf -/
def bl_46 : Tb := [
  (0, none, [.aload 0, .iload 1, .invokevirtual 5269, .ifCond .eq 17, .aload 0, .getfield 1307, .iload 1, .iaload, .goto 18]),
  (17, none, [.iconst 0, .ireturn]),
  (18, none, [.ireturn])]
theorem tk_46 : bl_46.all (fun q => chk 46 q.1 q.2.2) = true := by decide +kernel
theorem py_46 : plainName (mN 46).cls = true := by decide +kernel
theorem ml_46 : mL 46 = 2 := rfl
/-- Sea.lostOf -/
def bl_47 : Tb := [
  (0, none, [.aload 0, .iload 1, .invokevirtual 5269, .ifCond .eq 17, .aload 0, .getfield 1311, .iload 1, .iaload, .goto 18]),
  (17, none, [.iconst 0, .ireturn]),
  (18, none, [.ireturn])]
theorem tk_47 : bl_47.all (fun q => chk 47 q.1 q.2.2) = true := by decide +kernel
theorem py_47 : plainName (mN 47).cls = true := by decide +kernel
theorem ml_47 : mL 47 = 2 := rfl
/-- Sea.parts -/
def bl_48 : Tb := [
  (0, none, [.aload 0, .iload 1, .invokevirtual 5269, .ifCond .eq 28, .iload 2, .invokestatic 18448, .ifCond .eq 28, .aload 0, .getfield 1315, .iload 1, .iconst 4, .imul, .iload 2, .iadd, .iaload, .goto 29]),
  (28, none, [.iconst 0, .ireturn]),
  (29, none, [.ireturn])]
theorem tk_48 : bl_48.all (fun q => chk 48 q.1 q.2.2) = true := by decide +kernel
theorem py_48 : plainName (mN 48).cls = true := by decide +kernel
theorem ml_48 : mL 48 = 3 := rfl
/-- Sea.strangeParts -/
def bl_49 : Tb := [
  (0, none, [.iconst 12, .aload 0, .iload 1, .aload 0, .iload 1, .invokevirtual 5781, .invokevirtual 6181, .isub, .ireturn])]
theorem tk_49 : bl_49.all (fun q => chk 49 q.1 q.2.2) = true := by decide +kernel
theorem py_49 : plainName (mN 49).cls = true := by decide +kernel
theorem ml_49 : mL 49 = 2 := rfl
end
section
/-! the methods' code, 50 to 99 -/
/-- Sea.strengthOfAll -/
def bl_50 : Tb := [
  (0, none, [.aload 0, .iconst 63, .invokevirtual 6549, .ireturn])]
theorem tk_50 : bl_50.all (fun q => chk 50 q.1 q.2.2) = true := by decide +kernel
theorem py_50 : plainName (mN 50).cls = true := by decide +kernel
theorem ml_50 : mL 50 = 1 := rfl
/-- Sea.strengthOfSome -/
def bl_51 : Tb := [
  (0, none, [.iconst 0, .istore 2, .iconst 0, .istore 3, .goto_w 4]),
  (4, some [0, 1, 2, 3], [.iload 3, .aload 0, .getfield 1280, .if_icmp .ge 38, .iload 2, .iload 1, .iconst 1, .iload 3, .ishl, .iand, .ifCond .eq 29, .aload 0, .iload 3, .invokevirtual 5653, .goto 30]),
  (29, none, [.iconst 0, .iadd, .istore 2, .iinc 3 1, .goto 4]),
  (30, none, [.iadd, .istore 2, .iinc 3 1, .goto 4]),
  (38, none, [.iload 2, .ireturn])]
theorem tk_51 : bl_51.all (fun q => chk 51 q.1 q.2.2) = true := by decide +kernel
theorem py_51 : plainName (mN 51).cls = true := by decide +kernel
theorem ml_51 : mL 51 = 4 := rfl
/-- Sea.partsOfAll -/
def bl_52 : Tb := [
  (0, none, [.aload 0, .iconst 63, .iload 1, .invokevirtual 6821, .ireturn])]
theorem tk_52 : bl_52.all (fun q => chk 52 q.1 q.2.2) = true := by decide +kernel
theorem py_52 : plainName (mN 52).cls = true := by decide +kernel
theorem ml_52 : mL 52 = 2 := rfl
/-- Sea.partsOfSome -/
def bl_53 : Tb := [
  (0, none, [.iconst 0, .istore 3, .iconst 0, .istore 4, .goto_w 5]),
  (5, some [0, 1, 2, 3, 4], [.iload 4, .aload 0, .getfield 1280, .if_icmp .ge 43, .iload 3, .iload 1, .iconst 1, .iload 4, .ishl, .iand, .ifCond .eq 34, .aload 0, .iload 4, .iload 2, .invokevirtual 6181, .goto 35]),
  (34, none, [.iconst 0, .iadd, .istore 3, .iinc 4 1, .goto 5]),
  (35, none, [.iadd, .istore 3, .iinc 4 1, .goto 5]),
  (43, none, [.iload 3, .ireturn])]
theorem tk_53 : bl_53.all (fun q => chk 53 q.1 q.2.2) = true := by decide +kernel
theorem py_53 : plainName (mN 53).cls = true := by decide +kernel
theorem ml_53 : mL 53 = 5 := rfl
/-- Sea.wonOfAll -/
def bl_54 : Tb := [
  (0, none, [.iconst 0, .istore 1, .iconst 0, .istore 2, .goto_w 4]),
  (4, some [0, 1, 2], [.iload 2, .aload 0, .getfield 1280, .if_icmp .ge 26, .iload 1, .aload 0, .iload 2, .invokevirtual 5909, .iadd, .istore 1, .iinc 2 1, .goto 4]),
  (26, none, [.iload 1, .ireturn])]
theorem tk_54 : bl_54.all (fun q => chk 54 q.1 q.2.2) = true := by decide +kernel
theorem py_54 : plainName (mN 54).cls = true := by decide +kernel
theorem ml_54 : mL 54 = 3 := rfl
/-- Sea.lostOfAll -/
def bl_55 : Tb := [
  (0, none, [.iconst 0, .istore 1, .iconst 0, .istore 2, .goto_w 4]),
  (4, some [0, 1, 2], [.iload 2, .aload 0, .getfield 1280, .if_icmp .ge 26, .iload 1, .aload 0, .iload 2, .invokevirtual 6037, .iadd, .istore 1, .iinc 2 1, .goto 4]),
  (26, none, [.iload 1, .ireturn])]
theorem tk_55 : bl_55.all (fun q => chk 55 q.1 q.2.2) = true := by decide +kernel
theorem py_55 : plainName (mN 55).cls = true := by decide +kernel
theorem ml_55 : mL 55 = 3 := rfl
/-- Sea.difference -/
def bl_56 : Tb := [
  (0, none, [.iconst 0, .istore 3, .iconst 0, .istore 4, .goto_w 5]),
  (5, some [0, 1, 2, 3, 4], [.iload 4, .iconst 4, .if_icmp .ge 38, .iload 3, .aload 0, .iload 1, .iload 4, .invokevirtual 6181, .aload 0, .iload 2, .iload 4, .invokevirtual 6181, .isub, .invokestatic 36752, .iadd, .istore 3, .iinc 4 1, .goto 5]),
  (38, none, [.iload 3, .ireturn])]
theorem tk_56 : bl_56.all (fun q => chk 56 q.1 q.2.2) = true := by decide +kernel
theorem py_56 : plainName (mN 56).cls = true := by decide +kernel
theorem ml_56 : mL 56 = 5 := rfl
/-- Sea.joins -/
def bl_57 : Tb := [
  (0, none, [.aload 0, .getfield 1280, .istore 3, .iload 3, .ifCond .lt 22, .iload 3, .iconst 6, .if_icmp .ge 22, .iload 1, .invokestatic 18448, .ifCond .ne 23, .return_]),
  (22, none, [.return_]),
  (23, none, [.aload 0, .dup, .getfield 1280, .iconst 1, .iadd, .putfield 1280, .aload 0, .getfield 1295, .iload 3, .iload 2, .iastore, .aload 0, .getfield 1299, .iload 3, .iload 2, .iastore, .aload 0, .getfield 1307, .iload 3, .iconst 0, .iastore, .aload 0, .getfield 1311, .iload 3, .iconst 0, .iastore, .aload 0, .iload 3, .iload 1, .invokevirtual 7461, .return_])]
theorem tk_57 : bl_57.all (fun q => chk 57 q.1 q.2.2) = true := by decide +kernel
theorem py_57 : plainName (mN 57).cls = true := by decide +kernel
theorem ml_57 : mL 57 = 4 := rfl
/-- Sea.hoists -/
def bl_58 : Tb := [
  (0, none, [.aload 0, .iload 1, .invokevirtual 5269, .ifCond .eq 15, .iload 2, .invokestatic 18448, .ifCond .ne 16, .return_]),
  (15, none, [.return_]),
  (16, none, [.iconst 0, .istore 3, .goto_w 18]),
  (18, some [0, 1, 2, 3], [.iload 3, .iconst 4, .if_icmp .ge 50, .aload 0, .getfield 1315, .iload 1, .iconst 4, .imul, .iload 3, .iadd, .iload 3, .iload 2, .if_icmp .ne 42, .iconst 12, .goto 43]),
  (42, none, [.iconst 0, .iastore, .iinc 3 1, .goto 18]),
  (43, none, [.iastore, .iinc 3 1, .goto 18]),
  (50, none, [.aload 0, .getfield 1303, .iload 1, .iload 2, .iastore, .return_])]
theorem tk_58 : bl_58.all (fun q => chk 58 q.1 q.2.2) = true := by decide +kernel
theorem py_58 : plainName (mN 58).cls = true := by decide +kernel
theorem ml_58 : mL 58 = 4 := rfl
/-- Sea.strengthens -/
def bl_59 : Tb := [
  (0, none, [.aload 0, .iload 1, .invokevirtual 5269, .ifCond .eq 28, .aload 0, .getfield 1299, .iload 1, .iconst 0, .aload 0, .getfield 1295, .iload 1, .iaload, .iload 2, .invokestatic 37024, .invokestatic 36896, .iastore, .return_]),
  (28, none, [.return_])]
theorem tk_59 : bl_59.all (fun q => chk 59 q.1 q.2.2) = true := by decide +kernel
theorem py_59 : plainName (mN 59).cls = true := by decide +kernel
theorem ml_59 : mL 59 = 3 := rfl
/-- Sea.resews -/
def bl_60 : Tb := [
  (0, none, [.aload 0, .iload 1, .invokevirtual 5269, .ifCond .eq 52, .iload 2, .invokestatic 18448, .ifCond .eq 52, .iload 3, .invokestatic 18448, .ifCond .eq 52, .aload 0, .getfield 1315, .iload 1, .iconst 4, .imul, .iload 2, .iadd, .dup2, .iaload, .iload 4, .isub, .iastore, .aload 0, .getfield 1315, .iload 1, .iconst 4, .imul, .iload 3, .iadd, .dup2, .iaload, .iload 4, .iadd, .iastore, .return_]),
  (52, none, [.return_])]
theorem tk_60 : bl_60.all (fun q => chk 60 q.1 q.2.2) = true := by decide +kernel
theorem py_60 : plainName (mN 60).cls = true := by decide +kernel
theorem ml_60 : mL 60 = 5 := rfl
/-- Sea.mayGoOver -/
def bl_61 : Tb := [
  (0, none, [.iconst 0, .istore 2, .iconst 1, .istore 3, .goto_w 4]),
  (4, some [0, 1, 2, 3], [.iload 3, .iconst 4, .if_icmp .ge 36, .aload 0, .iload 1, .iload 3, .invokevirtual 6181, .aload 0, .iload 1, .iload 2, .invokevirtual 6181, .if_icmp .le 28, .iload 3, .goto 29]),
  (28, none, [.iload 2, .istore 2, .iinc 3 1, .goto 4]),
  (29, none, [.istore 2, .iinc 3 1, .goto 4]),
  (36, none, [.aload 0, .iload 1, .invokevirtual 5269, .ifCond .eq 86, .aload 0, .iload 1, .iload 2, .invokevirtual 6181, .aload 0, .iload 1, .aload 0, .iload 1, .invokevirtual 5781, .invokevirtual 6181, .if_icmp .le 86, .aload 0, .getfield 1303, .iload 1, .iload 2, .iastore, .aload 0, .aload 0, .getfield 1288, .iconst 1, .iadd, .iconst 9999, .invokestatic 37024, .putfield 1288, .return_]),
  (86, none, [.return_])]
theorem tk_61 : bl_61.all (fun q => chk 61 q.1 q.2.2) = true := by decide +kernel
theorem py_61 : plainName (mN 61).cls = true := by decide +kernel
theorem ml_61 : mL 61 = 4 := rfl
/-- Sea.winner -/
def bl_62 : Tb := [
  (0, none, [.aload 0, .iload 2, .iload 3, .invokevirtual 5413, .ifCond .ne 11, .iconst (-1), .ireturn]),
  (11, none, [.aload 0, .iload 2, .invokevirtual 5781, .aload 0, .iload 3, .invokevirtual 5781, .if_icmp .ne 27, .iconst (-2), .ireturn]),
  (27, none, [.aload 1, .aload 0, .iload 2, .iload 3, .invokevirtual 4404, .istore 4, .aload 1, .aload 0, .iload 3, .iload 2, .invokevirtual 4404, .istore 5, .iload 4, .iload 5, .if_icmp .ne 57, .iconst (-3), .goto 69]),
  (57, none, [.iload 4, .iload 5, .if_icmp .le 68, .iload 2, .goto 69]),
  (68, none, [.iload 3, .ireturn]),
  (69, none, [.ireturn])]
theorem tk_62 : bl_62.all (fun q => chk 62 q.1 q.2.2) = true := by decide +kernel
theorem py_62 : plainName (mN 62).cls = true := by decide +kernel
theorem ml_62 : mL 62 = 6 := rfl
/-- Sea.battle -/
def bl_63 : Tb := [
  (0, none, [.aload 0, .aload 1, .iload 3, .iload 4, .invokevirtual 7989, .istore 5, .iload 5, .ifCond .lt 34, .aload 0, .iload 5, .iload 5, .iload 3, .if_icmp .ne 29, .iload 4, .goto 30]),
  (29, none, [.iload 3, .iload 2, .invokevirtual 8245, .iload 5, .ireturn]),
  (30, none, [.iload 2, .invokevirtual 8245, .iload 5, .ireturn]),
  (34, none, [.iload 5, .ireturn])]
theorem tk_63 : bl_63.all (fun q => chk 63 q.1 q.2.2) = true := by decide +kernel
theorem py_63 : plainName (mN 63).cls = true := by decide +kernel
theorem ml_63 : mL 63 = 6 := rfl
/-- Sea.strikesTo -/
def bl_64 : Tb := [
  (0, none, [.aload 0, .iload 1, .iload 2, .invokevirtual 5413, .ifCond .ne 10, .return_]),
  (10, none, [.aload 0, .iload 1, .invokevirtual 5781, .istore 4, .aload 0, .iload 1, .iload 4, .aload 0, .iload 2, .invokevirtual 5781, .iload 3, .aload 0, .iload 1, .iload 4, .invokevirtual 6181, .invokestatic 37024, .invokevirtual 7749, .aload 0, .getfield 1307, .iload 1, .aload 0, .getfield 1307, .iload 1, .iaload, .iconst 1, .iadd, .iconst 99, .invokestatic 37024, .iastore, .aload 0, .getfield 1299, .iload 2, .aload 0, .getfield 1299, .iload 2, .iaload, .iconst 1, .isub, .iconst 0, .invokestatic 36896, .iastore, .aload 0, .getfield 1311, .iload 2, .aload 0, .getfield 1311, .iload 2, .iaload, .iconst 1, .iadd, .iconst 99, .invokestatic 37024, .iastore, .aload 0, .iload 1, .invokevirtual 7829, .aload 0, .iload 2, .invokevirtual 7829, .return_])]
theorem tk_64 : bl_64.all (fun q => chk 64 q.1 q.2.2) = true := by decide +kernel
theorem py_64 : plainName (mN 64).cls = true := by decide +kernel
theorem ml_64 : mL 64 = 5 := rfl
/-- Sea.dawns -/
def bl_65 : Tb := [
  (0, none, [.iconst 0, .istore 2, .goto_w 2]),
  (2, some [0, 1, 2], [.iload 2, .iload 1, .if_icmp .ge 56, .iconst 0, .istore 3, .goto_w 9]),
  (9, some [0, 1, 2, 3], [.iload 3, .aload 0, .getfield 1280, .if_icmp .ge 40, .aload 0, .iload 3, .aload 0, .iload 3, .invokevirtual 5653, .iconst 1, .iadd, .invokevirtual 7589, .aload 0, .iload 3, .invokevirtual 8469, .iinc 3 1, .goto 9]),
  (40, none, [.aload 0, .dup, .getfield 1284, .iconst 1, .iadd, .putfield 1284, .iinc 2 1, .goto 2]),
  (56, none, [.return_])]
theorem tk_65 : bl_65.all (fun q => chk 65 q.1 q.2.2) = true := by decide +kernel
theorem py_65 : plainName (mN 65).cls = true := by decide +kernel
theorem ml_65 : mL 65 = 4 := rfl
/-- Sea.mendsFlag -/
def bl_66 : Tb := [
  (0, none, [.iconst (-1), .istore 2, .iconst 0, .istore 3, .goto_w 4]),
  (4, some [0, 1, 2, 3], [.iload 3, .iconst 4, .if_icmp .ge 67, .iload 3, .aload 0, .iload 1, .invokevirtual 5781, .if_icmp .eq 31, .aload 0, .iload 1, .iload 3, .invokevirtual 6181, .ifCond .le 31, .iconst 1, .goto 32]),
  (31, none, [.iconst 0, .istore 4, .iload 4, .ifCond .eq 61, .iload 2, .iconst (-1), .if_icmp .eq 59, .aload 0, .iload 1, .iload 3, .invokevirtual 6181, .aload 0, .iload 1, .iload 2, .invokevirtual 6181, .if_icmp .ge 61, .iload 3, .istore 2, .iinc 3 1, .goto 4]),
  (32, none, [.istore 4, .iload 4, .ifCond .eq 61, .iload 2, .iconst (-1), .if_icmp .eq 59, .aload 0, .iload 1, .iload 3, .invokevirtual 6181, .aload 0, .iload 1, .iload 2, .invokevirtual 6181, .if_icmp .ge 61, .iload 3, .istore 2, .iinc 3 1, .goto 4]),
  (59, none, [.iload 3, .istore 2, .iinc 3 1, .goto 4]),
  (61, none, [.iinc 3 1, .goto 4]),
  (67, none, [.iload 2, .iconst (-1), .if_icmp .eq 84, .aload 0, .iload 1, .iload 2, .aload 0, .iload 1, .invokevirtual 5781, .iconst 1, .invokevirtual 7749, .return_]),
  (84, none, [.return_])]
theorem tk_66 : bl_66.all (fun q => chk 66 q.1 q.2.2) = true := by decide +kernel
theorem py_66 : plainName (mN 66).cls = true := by decide +kernel
theorem ml_66 : mL 66 = 5 := rfl
/-- Sea.sewsIn -/
def bl_67 : Tb := [
  (0, none, [.aload 0, .iload 1, .invokevirtual 5269, .ifCond .eq 26, .iload 2, .invokestatic 18448, .ifCond .eq 26, .iload 3, .iconst 1, .if_icmp .lt 26, .iload 3, .iconst 12, .if_icmp .le 28, .iconst (-1), .ireturn]),
  (26, none, [.iconst (-1), .ireturn]),
  (28, none, [.aload 0, .iload 1, .aload 0, .iload 1, .invokevirtual 5781, .invokevirtual 6181, .iload 3, .if_icmp .ge 45, .iconst (-2), .ireturn]),
  (45, none, [.aload 0, .iload 1, .invokevirtual 5781, .iload 2, .if_icmp .ne 57, .iconst (-3), .ireturn]),
  (57, none, [.aload 0, .iload 1, .aload 0, .iload 1, .invokevirtual 5781, .iload 2, .iload 3, .invokevirtual 7749, .aload 0, .iload 1, .invokevirtual 7829, .aload 0, .iload 1, .invokevirtual 5781, .ireturn])]
theorem tk_67 : bl_67.all (fun q => chk 67 q.1 q.2.2) = true := by decide +kernel
theorem py_67 : plainName (mN 67).cls = true := by decide +kernel
theorem ml_67 : mL 67 = 4 := rfl
/-- Sea.strikesAll -/
def bl_68 : Tb := [
  (0, none, [.aload 0, .iload 1, .invokevirtual 5269, .ifCond .eq 15, .iload 2, .invokestatic 18448, .ifCond .ne 17, .iconst (-1), .ireturn]),
  (15, none, [.iconst (-1), .ireturn]),
  (17, none, [.iconst 12, .aload 0, .iload 1, .iload 2, .invokevirtual 6181, .isub, .istore 3, .iload 3, .ifCond .ne 34, .iconst (-2), .ireturn]),
  (34, none, [.aload 0, .iload 1, .iload 2, .invokevirtual 7461, .iload 3, .ireturn])]
theorem tk_68 : bl_68.all (fun q => chk 68 q.1 q.2.2) = true := by decide +kernel
theorem py_68 : plainName (mN 68).cls = true := by decide +kernel
theorem ml_68 : mL 68 = 4 := rfl
/-- Search.aims -/
def bl_70 : Tb := [
  (0, none, [.aload 0, .aload 1, .putfield 1546, .aload 0, .iload 2, .putfield 1548, .aload 0, .iload 3, .putfield 1552, .aload 0, .iload 4, .putfield 1556, .return_])]
theorem tk_70 : bl_70.all (fun q => chk 70 q.1 q.2.2) = true := by decide +kernel
theorem py_70 : plainName (mN 70).cls = true := by decide +kernel
theorem ml_70 : mL 70 = 5 := rfl
/-- Search.step -/
def bl_71 : Tb := [
  (0, none, [.iload 1, .ifCond .lt 22, .iload 1, .aload 0, .getfield 1543, .arraylength, .if_icmp .ge 22, .aload 0, .getfield 1543, .iload 1, .iaload, .goto 23]),
  (22, none, [.iconst (-1), .ireturn]),
  (23, none, [.ireturn])]
theorem tk_71 : bl_71.all (fun q => chk 71 q.1 q.2.2) = true := by decide +kernel
theorem py_71 : plainName (mN 71).cls = true := by decide +kernel
theorem ml_71 : mL 71 = 2 := rfl
/-- Search.level -/
def bl_72 : Tb := [
  (0, none, [.iload 1, .ifCond .lt 22, .iload 1, .aload 0, .getfield 1539, .arraylength, .if_icmp .ge 22, .aload 0, .getfield 1539, .iload 1, .aaload, .goto 23]),
  (22, none, [.aconst_null, .areturn]),
  (23, none, [.areturn])]
theorem tk_72 : bl_72.all (fun q => chk 72 q.1 q.2.2) = true := by decide +kernel
theorem py_72 : plainName (mN 72).cls = true := by decide +kernel
theorem ml_72 : mL 72 = 2 := rfl
/-- Search.fewest -/
def bl_73 : Tb := [
  (0, none, [.aload 0, .iconst 0, .invokevirtual 9238, .astore 2, .aload 2, .ifnull 17, .aload 0, .getfield 1546, .ifnonnull 20, .iconst (-2), .ireturn]),
  (17, none, [.iconst (-2), .ireturn]),
  (20, none, [.aload 2, .aload 1, .invokevirtual 5141, .iconst 0, .istore 3, .goto_w 27]),
  (27, some [0, 3], [.iload 3, .iconst 3, .if_icmp .gt 49, .aload 0, .iconst 0, .iload 3, .invokevirtual 9510, .ifCond .eq 43, .iload 3, .ireturn]),
  (43, none, [.iinc 3 1, .goto 27]),
  (49, none, [.iconst (-2), .ireturn])]
theorem tk_73 : bl_73.all (fun q => chk 73 q.1 q.2.2) = true := by decide +kernel
theorem py_73 : plainName (mN 73).cls = true := by decide +kernel
theorem ml_73 : mL 73 = 4 := rfl
/-- Search.reaches -/
def bl_74 : Tb := [
  (0, none, [.aload 0, .iload 1, .invokevirtual 9238, .astore 3, .aload 3, .ifnull 15, .iload 1, .iload 2, .if_icmp .lt 33, .aload 3, .ifnull 31, .aload 0, .aload 3, .invokevirtual 9622, .ifCond .eq 31, .iconst 1, .goto 32]),
  (15, none, [.aload 3, .ifnull 31, .aload 0, .aload 3, .invokevirtual 9622, .ifCond .eq 31, .iconst 1, .goto 32]),
  (31, none, [.iconst 0, .freturn]),
  (32, none, [.freturn]),
  (33, none, [.aload 0, .aload 3, .iload 2, .iload 1, .isub, .invokevirtual 9766, .ifCond .eq 46, .iconst 0, .freturn]),
  (46, none, [.iconst 0, .istore 4, .goto_w 49]),
  (49, some [0, 1, 2, 3, 4], [.iload 4, .aload 3, .getfield 1280, .if_icmp .ge 158, .iload 4, .iconst 1, .iadd, .istore 5, .goto_w 64]),
  (64, some [0, 1, 2, 3, 4, 5], [.iload 5, .aload 3, .getfield 1280, .if_icmp .ge 152, .aload 0, .iload 4, .iload 5, .iload 2, .iload 1, .isub, .invokevirtual 9910, .ifCond .ne 90, .goto 146]),
  (90, none, [.aload 3, .aload 0, .getfield 1546, .iload 4, .iload 5, .invokevirtual 7989, .istore 6, .iload 6, .ifCond .lt 146, .aload 0, .iload 1, .iload 6, .iload 6, .iload 4, .if_icmp .ne 125, .iload 5, .goto 127]),
  (125, none, [.iload 4, .invokevirtual 10038, .ifCond .eq 146, .aload 0, .iload 1, .iconst 1, .iadd, .iload 2, .invokevirtual 9510, .ifCond .eq 146, .iconst 1, .freturn]),
  (127, none, [.invokevirtual 10038, .ifCond .eq 146, .aload 0, .iload 1, .iconst 1, .iadd, .iload 2, .invokevirtual 9510, .ifCond .eq 146, .iconst 1, .freturn]),
  (146, none, [.iinc 5 1, .goto 64]),
  (152, none, [.iinc 4 1, .goto 49]),
  (158, none, [.iconst 0, .freturn])]
theorem tk_74 : bl_74.all (fun q => chk 74 q.1 q.2.2) = true := by decide +kernel
theorem py_74 : plainName (mN 74).cls = true := by decide +kernel
theorem ml_74 : mL 74 = 7 := rfl
/-- Search.isReached -/
def bl_75 : Tb := [
  (0, none, [.aload 0, .getfield 1552, .iconst (-1), .if_icmp .ne 27, .aload 1, .getfield 1280, .aload 1, .invokestatic 10128, .if_icmp .ne 23, .iconst 1, .goto 47]),
  (23, none, [.iconst 0, .goto 47]),
  (27, none, [.aload 1, .aload 0, .getfield 1552, .invokevirtual 5781, .aload 0, .getfield 1556, .if_icmp .ne 46, .iconst 1, .goto 47]),
  (46, none, [.iconst 0, .freturn]),
  (47, none, [.freturn])]
theorem tk_75 : bl_75.all (fun q => chk 75 q.1 q.2.2) = true := by decide +kernel
theorem py_75 : plainName (mN 75).cls = true := by decide +kernel
theorem ml_75 : mL 75 = 2 := rfl
/-- Search.isTooFar -/
def bl_76 : Tb := [
  (0, none, [.aload 0, .getfield 1552, .iconst (-1), .if_icmp .ne 27, .aload 1, .getfield 1280, .aload 1, .invokestatic 10128, .isub, .iload 2, .if_icmp .le 25, .iconst 1, .goto 26]),
  (25, none, [.iconst 0, .freturn]),
  (26, none, [.freturn]),
  (27, none, [.aload 1, .aload 0, .getfield 1552, .aload 0, .getfield 1556, .invokevirtual 6181, .iconst 2, .iload 2, .imul, .aload 0, .getfield 1548, .imul, .iadd, .aload 1, .aload 0, .getfield 1552, .aload 1, .aload 0, .getfield 1552, .invokevirtual 5781, .invokevirtual 6181, .if_icmp .ge 71, .iconst 1, .goto 72]),
  (71, none, [.iconst 0, .freturn]),
  (72, none, [.freturn])]
theorem tk_76 : bl_76.all (fun q => chk 76 q.1 q.2.2) = true := by decide +kernel
theorem py_76 : plainName (mN 76).cls = true := by decide +kernel
theorem ml_76 : mL 76 = 3 := rfl
/-- Search.isOfUse -/
def bl_77 : Tb := [
  (0, none, [.aload 0, .getfield 1552, .iconst (-1), .if_icmp .eq 29, .iload 3, .iconst 1, .if_icmp .gt 29, .iload 1, .aload 0, .getfield 1552, .if_icmp .eq 29, .iload 2, .aload 0, .getfield 1552, .if_icmp .ne 33, .iconst 1, .goto 34]),
  (29, none, [.iconst 1, .goto 34]),
  (33, none, [.iconst 0, .freturn]),
  (34, none, [.freturn])]
theorem tk_77 : bl_77.all (fun q => chk 77 q.1 q.2.2) = true := by decide +kernel
theorem py_77 : plainName (mN 77).cls = true := by decide +kernel
theorem ml_77 : mL 77 = 4 := rfl
/-- Search.goes -/
def bl_78 : Tb := [
  (0, none, [.aload 0, .iload 1, .invokevirtual 9238, .astore 4, .aload 0, .iload 1, .iconst 1, .iadd, .invokevirtual 9238, .astore 5, .aload 4, .ifnull 43, .aload 5, .ifnull 43, .iload 1, .ifCond .lt 43, .iconst 2, .iload 1, .imul, .iconst 1, .iadd, .aload 0, .getfield 1543, .arraylength, .if_icmp .lt 45, .iconst 0, .freturn]),
  (43, none, [.iconst 0, .freturn]),
  (45, none, [.aload 5, .aload 4, .invokevirtual 5141, .aload 5, .iload 2, .iload 3, .aload 0, .getfield 1548, .invokevirtual 8245, .aload 0, .getfield 1543, .iconst 2, .iload 1, .imul, .iload 2, .iload 3, .invokestatic 37024, .iastore, .aload 0, .getfield 1543, .iconst 2, .iload 1, .imul, .iconst 1, .iadd, .iload 2, .iload 3, .invokestatic 36896, .iastore, .iconst 1, .freturn])]
theorem tk_78 : bl_78.all (fun q => chk 78 q.1 q.2.2) = true := by decide +kernel
theorem py_78 : plainName (mN 78).cls = true := by decide +kernel
theorem ml_78 : mL 78 = 6 := rfl
/-- Search.mostOfOneSide -/
def bl_79 : Tb := [
  (0, none, [.iconst 0, .istore 1, .iconst 0, .istore 2, .goto_w 4]),
  (4, some [0, 1, 2], [.iload 2, .iconst 4, .if_icmp .ge 59, .iconst 0, .istore 3, .iconst 0, .istore 4, .goto_w 14]),
  (14, some [0, 1, 2, 3, 4], [.iload 4, .aload 0, .getfield 1280, .if_icmp .ge 47, .iload 3, .aload 0, .iload 4, .invokevirtual 5781, .iload 2, .if_icmp .ne 38, .iconst 1, .goto 39]),
  (38, none, [.iconst 0, .iadd, .istore 3, .iinc 4 1, .goto 14]),
  (39, none, [.iadd, .istore 3, .iinc 4 1, .goto 14]),
  (47, none, [.iload 1, .iload 3, .invokestatic 36896, .istore 1, .iinc 2 1, .goto 4]),
  (59, none, [.iload 1, .ireturn])]
theorem tk_79 : bl_79.all (fun q => chk 79 q.1 q.2.2) = true := by decide +kernel
theorem py_79 : plainName (mN 79).cls = true := by decide +kernel
theorem ml_79 : mL 79 = 5 := rfl
/-- Text.add -/
def bl_81 : Tb := [
  (0, none, [.aload 0, .getfield 1796, .ifCond .lt 39, .aload 0, .getfield 1796, .aload 0, .getfield 1795, .arraylength, .if_icmp .ge 39, .aload 0, .getfield 1795, .aload 0, .getfield 1796, .iload 1, .castore, .aload 0, .dup, .getfield 1796, .iconst 1, .iadd, .putfield 1796, .return_]),
  (39, none, [.return_])]
theorem tk_81 : bl_81.all (fun q => chk 81 q.1 q.2.2) = true := by decide +kernel
theorem py_81 : plainName (mN 81).cls = true := by decide +kernel
theorem ml_81 : mL 81 = 2 := rfl
/-- Text.at -/
def bl_82 : Tb := [
  (0, none, [.iload 1, .ifCond .lt 22, .iload 1, .aload 0, .getfield 1795, .arraylength, .if_icmp .ge 22, .aload 0, .getfield 1795, .iload 1, .caload, .goto 23]),
  (22, none, [.iconst 0, .dreturn]),
  (23, none, [.dreturn])]
theorem tk_82 : bl_82.all (fun q => chk 82 q.1 q.2.2) = true := by decide +kernel
theorem py_82 : plainName (mN 82).cls = true := by decide +kernel
theorem ml_82 : mL 82 = 2 := rfl
/-- Text.empties -/
def bl_83 : Tb := [
  (0, none, [.aload 0, .getfield 1796, .istore 1, .aload 0, .iconst 0, .putfield 1796, .iload 1, .ireturn])]
theorem tk_83 : bl_83.all (fun q => chk 83 q.1 q.2.2) = true := by decide +kernel
theorem py_83 : plainName (mN 83).cls = true := by decide +kernel
theorem ml_83 : mL 83 = 2 := rfl
/-- C.sign -/
def bl_85 : Tb := [
  (0, none, [.aload 0, .getfield 2051, .getfield 1796, .iconst 76, .if_icmp .le 14, .iconst (-1), .ireturn]),
  (14, none, [.iconst 24, .istore 2, .goto_w 17]),
  (17, some [0, 1, 2], [.iload 2, .ifCond .lt 42, .aload 0, .getfield 2051, .iload 1, .iload 2, .iushr, .iconst 255, .iand, .i2c, .invokevirtual 10391, .iinc 2 (-8), .goto 17]),
  (42, none, [.aload 0, .getfield 2051, .getfield 1796, .ireturn])]
theorem tk_85 : bl_85.all (fun q => chk 85 q.1 q.2.2) = true := by decide +kernel
theorem py_85 : plainName (mN 85).cls = true := by decide +kernel
theorem ml_85 : mL 85 = 3 := rfl
/-- C.end -/
def bl_86 : Tb := [
  (0, none, [.iload 1, .ifCond .lt 15, .iload 1, .aload 0, .getfield 2051, .getfield 1796, .if_icmp .le 17, .iconst 0, .freturn]),
  (15, none, [.iconst 0, .freturn]),
  (17, none, [.aload 0, .getfield 2051, .iload 1, .putfield 1796, .iconst 1, .freturn])]
theorem tk_86 : bl_86.all (fun q => chk 86 q.1 q.2.2) = true := by decide +kernel
theorem py_86 : plainName (mN 86).cls = true := by decide +kernel
theorem ml_86 : mL 86 = 2 := rfl
/-- C.ships -/
def bl_87 : Tb := [
  (0, none, [.aload 0, .getfield 2051, .invokevirtual 10631, .istore 1, .aload 0, .iload 1, .invokevirtual 17304, .istore 2, .iload 2, .iconst (-1), .if_icmp .eq 23, .iconst (-1), .iload 2, .isub, .ireturn]),
  (23, none, [.iload 1, .iconst 1, .iadd, .iconst 3, .idiv, .istore 3, .iconst 0, .istore 4, .goto_w 32]),
  (32, some [0, 3, 4], [.iload 4, .iload 3, .if_icmp .ge 81, .aload 0, .getfield 2059, .aload 0, .getfield 2051, .iconst 3, .iload 4, .imul, .invokevirtual 10519, .iconst 97, .isub, .aload 0, .getfield 2051, .iconst 3, .iload 4, .imul, .iconst 1, .iadd, .invokevirtual 10519, .iconst 48, .isub, .invokevirtual 7333, .iinc 4 1, .goto 32]),
  (81, none, [.iload 3, .ifCond .le 97, .aload 0, .getfield 2071, .invokevirtual 1538, .aload 0, .iconst 0, .putfield 2108, .iload 3, .ireturn]),
  (97, none, [.iload 3, .ireturn])]
theorem tk_87 : bl_87.all (fun q => chk 87 q.1 q.2.2) = true := by decide +kernel
theorem py_87 : plainName (mN 87).cls = true := by decide +kernel
theorem ml_87 : mL 87 = 5 := rfl
/-- C.rule -/
def bl_88 : Tb := [
  (0, none, [.aload 0, .invokevirtual 17544, .istore 1, .iload 1, .iconst (-1), .if_icmp .eq 14, .iconst (-1), .iload 1, .isub, .ireturn]),
  (14, none, [.aload 0, .getfield 2098, .astore 2, .aload 0, .aload 0, .getfield 2102, .putfield 2098, .aload 0, .aload 2, .putfield 2102, .iconst 0, .ireturn])]
theorem tk_88 : bl_88.all (fun q => chk 88 q.1 q.2.2) = true := by decide +kernel
theorem py_88 : plainName (mN 88).cls = true := by decide +kernel
theorem ml_88 : mL 88 = 3 := rfl
/-- C.force -/
def bl_90 : Tb := [
  (0, none, [.aload 0, .getfield 2059, .iload 1, .iload 2, .invokevirtual 5413, .ifCond .ne 14, .iconst (-1), .ireturn]),
  (14, none, [.iconst 1000, .iconst (-999), .iconst 999, .aload 0, .getfield 2098, .aload 0, .getfield 2059, .iload 1, .iload 2, .invokevirtual 4404, .invokestatic 37024, .invokestatic 36896, .iadd, .ireturn])]
theorem tk_90 : bl_90.all (fun q => chk 90 q.1 q.2.2) = true := by decide +kernel
theorem py_90 : plainName (mN 90).cls = true := by decide +kernel
theorem ml_90 : mL 90 = 3 := rfl
/-- C.take -/
def bl_91 : Tb := [
  (0, none, [.iload 1, .iconst 1, .if_icmp .lt 11, .iload 1, .iconst 6, .if_icmp .le 13, .iconst (-1), .ireturn]),
  (11, none, [.iconst (-1), .ireturn]),
  (13, none, [.aload 0, .getfield 2104, .istore 2, .aload 0, .iload 1, .putfield 2104, .iload 2, .ireturn])]
theorem tk_91 : bl_91.all (fun q => chk 91 q.1 q.2.2) = true := by decide +kernel
theorem py_91 : plainName (mN 91).cls = true := by decide +kernel
theorem ml_91 : mL 91 = 3 := rfl
/-- C.sheet -/
def bl_92 : Tb := [
  (0, none, [.iload 1, .ifCond .lt 15, .iload 1, .iconst 3, .if_icmp .gt 15, .iload 2, .iconst 6, .if_icmp .le 17, .iconst (-1), .ireturn]),
  (15, none, [.iconst (-1), .ireturn]),
  (17, none, [.iload 1, .iconst 3, .if_icmp .ge 29, .iload 2, .ifCond .ge 29, .iconst (-2), .ireturn]),
  (29, none, [.iload 1, .iconst 3, .if_icmp .ne 38, .iconst 0, .goto 39]),
  (38, none, [.iload 2, .istore 5, .iconst 0, .istore 6, .goto_w 44]),
  (39, none, [.istore 5, .iconst 0, .istore 6, .goto_w 44]),
  (44, some [0, 1, 3, 4, 5, 6], [.iload 6, .aload 0, .getfield 2059, .getfield 1280, .if_icmp .ge 93, .aload 0, .getfield 2059, .iload 6, .iload 6, .iload 5, .if_icmp .ge 83, .iload 1, .iload 3, .iload 6, .iload 4, .imul, .iadd, .invokestatic 18592, .goto 84]),
  (83, none, [.iconst 0, .invokevirtual 7589, .iinc 6 1, .goto 44]),
  (84, none, [.invokevirtual 7589, .iinc 6 1, .goto 44]),
  (93, none, [.iload 1, .iconst 3, .if_icmp .ne 103, .iconst (-3), .goto 110]),
  (103, none, [.aload 0, .getfield 2059, .invokevirtual 6405, .ireturn]),
  (110, none, [.ireturn])]
theorem tk_92 : bl_92.all (fun q => chk 92 q.1 q.2.2) = true := by decide +kernel
theorem py_92 : plainName (mN 92).cls = true := by decide +kernel
theorem ml_92 : mL 92 = 7 := rfl
/-- C.fight -/
def bl_93 : Tb := [
  (0, none, [.aload 0, .getfield 2063, .aload 0, .getfield 2059, .invokevirtual 5141, .aload 0, .getfield 2059, .aload 0, .getfield 2098, .aload 0, .getfield 2104, .iload 1, .iload 2, .invokevirtual 8133, .istore 3, .iload 3, .ifCond .lt 44, .aload 0, .getfield 2071, .aload 0, .getfield 2063, .invokevirtual 1810, .iload 3, .ireturn]),
  (44, none, [.iload 3, .ireturn])]
theorem tk_93 : bl_93.all (fun q => chk 93 q.1 q.2.2) = true := by decide +kernel
theorem py_93 : plainName (mN 93).cls = true := by decide +kernel
theorem ml_93 : mL 93 = 4 := rfl
/-- C.days -/
def bl_94 : Tb := [
  (0, none, [.iload 1, .ifCond .lt 10, .iload 1, .iconst 60, .if_icmp .le 12, .iconst (-1), .ireturn]),
  (10, none, [.iconst (-1), .ireturn]),
  (12, none, [.iload 1, .ifCond .le 27, .aload 0, .getfield 2071, .aload 0, .getfield 2059, .invokevirtual 1810, .aload 0, .getfield 2059, .iload 1, .invokevirtual 8341, .aload 0, .getfield 2055, .invokevirtual 2179, .iconst 0, .istore 2, .goto_w 44]),
  (27, none, [.aload 0, .getfield 2059, .iload 1, .invokevirtual 8341, .aload 0, .getfield 2055, .invokevirtual 2179, .iconst 0, .istore 2, .goto_w 44]),
  (44, some [0, 2], [.iload 2, .iconst 4, .if_icmp .ge 71, .aload 0, .getfield 2055, .aload 0, .getfield 2059, .iload 2, .invokevirtual 6677, .i2l, .invokevirtual 2323, .iinc 2 1, .goto 44]),
  (71, none, [.aload 0, .getfield 2059, .invokevirtual 6405, .ireturn])]
theorem tk_94 : bl_94.all (fun q => chk 94 q.1 q.2.2) = true := by decide +kernel
theorem py_94 : plainName (mN 94).cls = true := by decide +kernel
theorem ml_94 : mL 94 = 3 := rfl
/-- C.sews -/
def bl_95 : Tb := [
  (0, none, [.aload 0, .getfield 2063, .aload 0, .getfield 2059, .invokevirtual 5141, .aload 0, .getfield 2059, .iload 1, .iload 2, .iload 3, .invokevirtual 8629, .istore 4, .iload 4, .ifCond .lt 39, .aload 0, .getfield 2071, .aload 0, .getfield 2063, .invokevirtual 1810, .iload 4, .ireturn]),
  (39, none, [.iload 4, .ireturn])]
theorem tk_95 : bl_95.all (fun q => chk 95 q.1 q.2.2) = true := by decide +kernel
theorem py_95 : plainName (mN 95).cls = true := by decide +kernel
theorem ml_95 : mL 95 = 5 := rfl
/-- C.yields -/
def bl_96 : Tb := [
  (0, none, [.aload 0, .getfield 2063, .aload 0, .getfield 2059, .invokevirtual 5141, .aload 0, .getfield 2059, .iload 1, .iload 2, .invokevirtual 8741, .istore 3, .iload 3, .ifCond .lt 36, .aload 0, .getfield 2071, .aload 0, .getfield 2063, .invokevirtual 1810, .iload 3, .ireturn]),
  (36, none, [.iload 3, .ireturn])]
theorem tk_96 : bl_96.all (fun q => chk 96 q.1 q.2.2) = true := by decide +kernel
theorem py_96 : plainName (mN 96).cls = true := by decide +kernel
theorem ml_96 : mL 96 = 4 := rfl
/-- C.war -/
def bl_97 : Tb := [
  (0, none, [.aload 0, .getfield 2051, .invokevirtual 10631, .istore 1, .aload 0, .iload 1, .invokevirtual 17688, .istore 2, .iload 2, .iconst (-1), .if_icmp .eq 23, .iconst (-1), .iload 2, .isub, .ireturn]),
  (23, none, [.aload 0, .getfield 2063, .aload 0, .getfield 2059, .invokevirtual 5141, .iconst 0, .istore 3, .iconst 0, .istore 4, .iconst 0, .istore 5, .goto_w 42]),
  (42, some [0, 1, 3, 4, 5], [.iload 5, .iload 1, .if_icmp .ge 102, .iload 4, .ifCond .ne 102, .aload 0, .iload 5, .invokevirtual 18072, .ifCond .ne 66, .iconst 1, .goto 67]),
  (66, none, [.iconst 0, .istore 4, .iload 3, .iload 4, .ifCond .eq 79, .iconst 0, .goto 80]),
  (67, none, [.istore 4, .iload 3, .iload 4, .ifCond .eq 79, .iconst 0, .goto 80]),
  (79, none, [.iconst 1, .iadd, .istore 3, .iload 5, .aload 0, .getfield 2051, .iload 5, .invokevirtual 10519, .invokestatic 17936, .iadd, .istore 5, .goto 42]),
  (80, none, [.iadd, .istore 3, .iload 5, .aload 0, .getfield 2051, .iload 5, .invokevirtual 10519, .invokestatic 17936, .iadd, .istore 5, .goto 42]),
  (102, none, [.iload 3, .ifCond .le 117, .aload 0, .getfield 2071, .aload 0, .getfield 2063, .invokevirtual 1810, .aload 0, .getfield 2055, .invokevirtual 2179, .aload 0, .getfield 2055, .iload 4, .ifCond .eq 137, .ldc2_w 1, .goto 138]),
  (117, none, [.aload 0, .getfield 2055, .invokevirtual 2179, .aload 0, .getfield 2055, .iload 4, .ifCond .eq 137, .ldc2_w 1, .goto 138]),
  (137, none, [.ldc2_w 0, .invokevirtual 2323, .aload 0, .getfield 2055, .aload 0, .getfield 2059, .getfield 1288, .i2l, .invokevirtual 2323, .iload 3, .ireturn]),
  (138, none, [.invokevirtual 2323, .aload 0, .getfield 2055, .aload 0, .getfield 2059, .getfield 1288, .i2l, .invokevirtual 2323, .iload 3, .ireturn])]
theorem tk_97 : bl_97.all (fun q => chk 97 q.1 q.2.2) = true := by decide +kernel
theorem py_97 : plainName (mN 97).cls = true := by decide +kernel
theorem ml_97 : mL 97 = 6 := rfl
/-- C.undo -/
def bl_98 : Tb := [
  (0, none, [.aload 0, .getfield 2071, .aload 0, .getfield 2059, .invokevirtual 1938, .ifCond .eq 24, .aload 0, .getfield 2071, .getfield 520, .goto 25]),
  (24, none, [.iconst (-1), .ireturn]),
  (25, none, [.ireturn])]
theorem tk_98 : bl_98.all (fun q => chk 98 q.1 q.2.2) = true := by decide +kernel
theorem py_98 : plainName (mN 98).cls = true := by decide +kernel
theorem ml_98 : mL 98 = 1 := rfl
/-- C.fleet -/
def bl_99 : Tb := [
  (0, none, [.iload 1, .invokestatic 18448, .ifCond .ne 9, .iconst (-1), .ireturn]),
  (9, none, [.iconst 0, .istore 2, .iconst 0, .istore 3, .iconst 0, .istore 4, .goto_w 16]),
  (16, some [0, 1, 2, 3, 4], [.iload 4, .aload 0, .getfield 2059, .getfield 1280, .if_icmp .ge 66, .aload 0, .getfield 2059, .iload 4, .invokevirtual 5781, .iload 1, .if_icmp .ne 60, .iload 2, .iconst 1, .iload 4, .ishl, .ior, .istore 2, .iload 3, .aload 0, .getfield 2059, .iload 4, .invokevirtual 5653, .iadd, .istore 3, .iinc 4 1, .goto 16]),
  (60, none, [.iinc 4 1, .goto 16]),
  (66, none, [.aload 0, .getfield 2055, .invokevirtual 2179, .aload 0, .getfield 2055, .iload 3, .i2l, .invokevirtual 2323, .aload 0, .getfield 2055, .aload 0, .getfield 2059, .iload 1, .invokevirtual 6677, .i2l, .invokevirtual 2323, .iload 2, .ireturn])]
theorem tk_99 : bl_99.all (fun q => chk 99 q.1 q.2.2) = true := by decide +kernel
theorem py_99 : plainName (mN 99).cls = true := by decide +kernel
theorem ml_99 : mL 99 = 5 := rfl
end
section
/-! the methods' code, 100 to 149 -/
/-- C.share -/
def bl_100 : Tb := [
  (0, none, [.iload 1, .invokestatic 18448, .ifCond .eq 17, .aload 0, .getfield 2059, .getfield 1280, .ifCond .ne 19, .iconst (-1), .ireturn]),
  (17, none, [.iconst (-1), .ireturn]),
  (19, none, [.aload 0, .getfield 2055, .invokevirtual 2179, .aload 0, .getfield 2055, .aload 0, .getfield 2059, .iload 1, .invokevirtual 6677, .i2l, .iconst 12, .aload 0, .getfield 2059, .getfield 1280, .imul, .i2l, .invokevirtual 2467, .iconst 0, .ireturn])]
theorem tk_100 : bl_100.all (fun q => chk 100 q.1 q.2.2) = true := by decide +kernel
theorem py_100 : plainName (mN 100).cls = true := by decide +kernel
theorem ml_100 : mL 100 = 2 := rfl
/-- C.later -/
def bl_101 : Tb := [
  (0, none, [.aload 0, .getfield 2059, .iload 1, .invokevirtual 5269, .ifCond .eq 21, .iload 2, .ifCond .lt 21, .iload 2, .iconst 99, .if_icmp .le 23, .iconst (-1), .ireturn]),
  (21, none, [.iconst (-1), .ireturn]),
  (23, none, [.aload 0, .getfield 2067, .aload 0, .getfield 2059, .invokevirtual 5141, .aload 0, .getfield 2067, .iload 2, .invokevirtual 8341, .aload 0, .getfield 2055, .invokevirtual 2179, .iconst 0, .istore 3, .goto_w 51]),
  (51, some [0, 1, 3], [.iload 3, .iconst 4, .if_icmp .ge 79, .aload 0, .getfield 2055, .aload 0, .getfield 2067, .iload 1, .iload 3, .invokevirtual 6181, .i2l, .invokevirtual 2323, .iinc 3 1, .goto 51]),
  (79, none, [.aload 0, .getfield 2067, .iload 1, .invokevirtual 5781, .ireturn])]
theorem tk_101 : bl_101.all (fun q => chk 101 q.1 q.2.2) = true := by decide +kernel
theorem py_101 : plainName (mN 101).cls = true := by decide +kernel
theorem ml_101 : mL 101 = 4 := rfl
/-- C.whole -/
def bl_102 : Tb := [
  (0, none, [.aload 0, .getfield 2059, .iload 1, .invokevirtual 5269, .ifCond .ne 13, .iconst (-1), .ireturn]),
  (13, none, [.aload 0, .getfield 2055, .invokevirtual 2179, .aload 0, .getfield 2055, .aload 0, .getfield 2059, .iload 1, .invokevirtual 5781, .i2l, .invokevirtual 2323, .aload 0, .getfield 2059, .iload 1, .invokevirtual 6293, .ireturn])]
theorem tk_102 : bl_102.all (fun q => chk 102 q.1 q.2.2) = true := by decide +kernel
theorem py_102 : plainName (mN 102).cls = true := by decide +kernel
theorem ml_102 : mL 102 = 2 := rfl
/-- C.sisters -/
def bl_103 : Tb := [
  (0, none, [.aload 0, .getfield 2059, .getfield 1280, .iconst 2, .if_icmp .ge 14, .iconst (-2), .ireturn]),
  (14, none, [.iconst (-1), .istore 1, .iconst 0, .istore 2, .goto_w 18]),
  (18, some [0, 1, 2], [.iload 2, .aload 0, .getfield 2059, .getfield 1280, .if_icmp .ge 106, .iload 2, .iconst 1, .iadd, .istore 3, .goto_w 33]),
  (33, some [0, 1, 2, 3], [.iload 3, .aload 0, .getfield 2059, .getfield 1280, .if_icmp .ge 100, .aload 0, .getfield 2059, .iload 2, .iload 3, .invokevirtual 7205, .istore 4, .iload 1, .iconst (-1), .if_icmp .eq 66, .iload 4, .iload 1, .if_icmp .ge 94, .iload 4, .istore 1, .aload 0, .getfield 2055, .invokevirtual 2179, .aload 0, .getfield 2055, .iload 2, .i2l, .invokevirtual 2323, .aload 0, .getfield 2055, .iload 3, .i2l, .invokevirtual 2323, .iinc 3 1, .goto 33]),
  (66, none, [.iload 4, .istore 1, .aload 0, .getfield 2055, .invokevirtual 2179, .aload 0, .getfield 2055, .iload 2, .i2l, .invokevirtual 2323, .aload 0, .getfield 2055, .iload 3, .i2l, .invokevirtual 2323, .iinc 3 1, .goto 33]),
  (94, none, [.iinc 3 1, .goto 33]),
  (100, none, [.iinc 2 1, .goto 18]),
  (106, none, [.iload 1, .ireturn])]
theorem tk_103 : bl_103.all (fun q => chk 103 q.1 q.2.2) = true := by decide +kernel
theorem py_103 : plainName (mN 103).cls = true := by decide +kernel
theorem ml_103 : mL 103 = 5 := rfl
/-- C.motley -/
def bl_104 : Tb := [
  (0, none, [.aload 0, .getfield 2059, .getfield 1280, .ifCond .ne 13, .iconst (-2), .ireturn]),
  (13, none, [.iconst 0, .istore 1, .iconst 1, .istore 2, .goto_w 17]),
  (17, some [0, 1, 2], [.iload 2, .aload 0, .getfield 2059, .getfield 1280, .if_icmp .ge 55, .aload 0, .getfield 2059, .iload 2, .invokevirtual 6293, .aload 0, .getfield 2059, .iload 1, .invokevirtual 6293, .if_icmp .le 49, .iload 2, .istore 1, .iinc 2 1, .goto 17]),
  (49, none, [.iinc 2 1, .goto 17]),
  (55, none, [.iconst 0, .istore 2, .iconst 0, .istore 3, .goto_w 59]),
  (59, some [0, 1, 2, 3], [.iload 3, .iconst 4, .if_icmp .ge 97, .iload 3, .aload 0, .getfield 2059, .iload 1, .invokevirtual 5781, .if_icmp .eq 91, .aload 0, .getfield 2059, .iload 1, .iload 3, .invokevirtual 6181, .ifCond .le 91, .iinc 2 1, .iinc 3 1, .goto 59]),
  (91, none, [.iinc 3 1, .goto 59]),
  (97, none, [.aload 0, .getfield 2055, .invokevirtual 2179, .aload 0, .getfield 2055, .aload 0, .getfield 2059, .iload 1, .invokevirtual 6293, .i2l, .invokevirtual 2323, .aload 0, .getfield 2055, .iload 2, .i2l, .invokevirtual 2323, .iload 1, .ireturn])]
theorem tk_104 : bl_104.all (fun q => chk 104 q.1 q.2.2) = true := by decide +kernel
theorem py_104 : plainName (mN 104).cls = true := by decide +kernel
theorem ml_104 : mL 104 = 4 := rfl
/-- C.order -/
def bl_105 : Tb := [
  (0, none, [.iload 1, .invokestatic 18448, .ifCond .ne 9, .iconst (-1), .ireturn]),
  (9, none, [.aload 0, .getfield 2055, .invokevirtual 2179, .iconst 0, .istore 2, .iconst 12, .istore 3, .goto_w 21]),
  (21, some [0, 1, 2, 3], [.iload 3, .ifCond .lt 88, .iconst 0, .istore 4, .goto_w 28]),
  (28, some [0, 1, 2, 3, 4], [.iload 4, .aload 0, .getfield 2059, .getfield 1280, .if_icmp .ge 82, .aload 0, .getfield 2059, .iload 4, .iload 1, .invokevirtual 6181, .iload 3, .if_icmp .ne 76, .aload 0, .getfield 2055, .iload 4, .i2l, .invokevirtual 2323, .iload 2, .iload 3, .ifCond .le 73, .iconst 1, .goto 74]),
  (73, none, [.iconst 0, .iadd, .istore 2, .iinc 4 1, .goto 28]),
  (74, none, [.iadd, .istore 2, .iinc 4 1, .goto 28]),
  (76, none, [.iinc 4 1, .goto 28]),
  (82, none, [.iinc 3 (-1), .goto 21]),
  (88, none, [.iload 2, .ireturn])]
theorem tk_105 : bl_105.all (fun q => chk 105 q.1 q.2.2) = true := by decide +kernel
theorem py_105 : plainName (mN 105).cls = true := by decide +kernel
theorem ml_105 : mL 105 = 5 := rfl
/-- C.rivals -/
def bl_106 : Tb := [
  (0, none, [.aload 0, .getfield 2059, .iload 1, .invokevirtual 5269, .ifCond .ne 13, .iconst (-1), .ireturn]),
  (13, none, [.iconst 0, .istore 2, .iconst 0, .istore 3, .iconst 0, .istore 4, .iconst 0, .istore 5, .goto_w 23]),
  (23, some [0, 1, 2, 3, 4, 5], [.iload 5, .aload 0, .getfield 2059, .getfield 1280, .if_icmp .ge 106, .aload 0, .getfield 2059, .aload 0, .getfield 2098, .iload 1, .iload 5, .invokevirtual 7989, .istore 6, .iload 6, .iload 1, .if_icmp .ne 67, .iload 2, .iconst 1, .iload 5, .ishl, .ior, .istore 2, .goto 100]),
  (67, none, [.iload 6, .iload 5, .if_icmp .ne 84, .iload 3, .iconst 1, .iload 5, .ishl, .ior, .istore 3, .goto 100]),
  (84, none, [.iload 6, .iconst (-3), .if_icmp .ne 100, .iload 4, .iconst 1, .iload 5, .ishl, .ior, .istore 4, .iinc 5 1, .goto 23]),
  (100, none, [.iinc 5 1, .goto 23]),
  (106, none, [.aload 0, .getfield 2055, .invokevirtual 2179, .aload 0, .getfield 2055, .iload 3, .i2l, .invokevirtual 2323, .aload 0, .getfield 2055, .iload 4, .i2l, .invokevirtual 2323, .iload 2, .ireturn])]
theorem tk_106 : bl_106.all (fun q => chk 106 q.1 q.2.2) = true := by decide +kernel
theorem py_106 : plainName (mN 106).cls = true := by decide +kernel
theorem ml_106 : mL 106 = 7 := rfl
/-- C.duel -/
def bl_107 : Tb := [
  (0, none, [.aload 0, .getfield 2059, .iload 1, .iload 2, .invokevirtual 5413, .ifCond .eq 23, .iload 3, .iconst 1, .if_icmp .lt 23, .iload 3, .iconst 20, .if_icmp .le 25, .iconst (-1), .ireturn]),
  (23, none, [.iconst (-1), .ireturn]),
  (25, none, [.aload 0, .getfield 2067, .aload 0, .getfield 2059, .invokevirtual 5141, .iconst 0, .istore 4, .iconst 0, .istore 5, .iconst 0, .istore 6, .goto_w 45]),
  (45, some [0, 1, 2, 3, 4, 5, 6], [.iload 6, .iload 3, .if_icmp .ge 111, .aload 0, .getfield 2067, .aload 0, .getfield 2098, .aload 0, .getfield 2104, .iload 1, .iload 2, .invokevirtual 8133, .istore 7, .iload 7, .ifCond .ge 78, .goto 111]),
  (78, none, [.iinc 4 1, .iload 5, .iload 7, .iload 1, .if_icmp .ne 93, .iconst 1, .goto 94]),
  (93, none, [.iconst 0, .iadd, .istore 5, .aload 0, .getfield 2067, .iconst 1, .invokevirtual 8341, .iinc 6 1, .goto 45]),
  (94, none, [.iadd, .istore 5, .aload 0, .getfield 2067, .iconst 1, .invokevirtual 8341, .iinc 6 1, .goto 45]),
  (111, none, [.aload 0, .getfield 2055, .invokevirtual 2179, .aload 0, .getfield 2055, .iload 5, .i2l, .invokevirtual 2323, .aload 0, .getfield 2055, .aload 0, .getfield 2067, .iload 1, .invokevirtual 5781, .i2l, .invokevirtual 2323, .aload 0, .getfield 2055, .aload 0, .getfield 2067, .iload 2, .invokevirtual 5781, .i2l, .invokevirtual 2323, .iload 4, .ireturn])]
theorem tk_107 : bl_107.all (fun q => chk 107 q.1 q.2.2) = true := by decide +kernel
theorem py_107 : plainName (mN 107).cls = true := by decide +kernel
theorem ml_107 : mL 107 = 8 := rfl
/-- C.tempts -/
def bl_108 : Tb := [
  (0, none, [.iload 1, .invokestatic 18448, .ifCond .ne 9, .iconst (-1), .ireturn]),
  (9, none, [.iconst 1, .istore 2, .goto_w 11]),
  (11, some [0, 1, 2], [.iload 2, .iconst 12, .if_icmp .gt 70, .iconst 0, .istore 3, .goto_w 19]),
  (19, some [0, 1, 2, 3], [.iload 3, .aload 0, .getfield 2059, .getfield 1280, .if_icmp .ge 64, .aload 0, .iload 3, .iload 1, .iload 2, .invokevirtual 18872, .ifCond .eq 58, .aload 0, .getfield 2055, .invokevirtual 2179, .aload 0, .getfield 2055, .iload 3, .i2l, .invokevirtual 2323, .iload 2, .ireturn]),
  (58, none, [.iinc 3 1, .goto 19]),
  (64, none, [.iinc 2 1, .goto 11]),
  (70, none, [.iconst (-2), .ireturn])]
theorem tk_108 : bl_108.all (fun q => chk 108 q.1 q.2.2) = true := by decide +kernel
theorem py_108 : plainName (mN 108).cls = true := by decide +kernel
theorem ml_108 : mL 108 = 4 := rfl
/-- C.wins -/
def bl_109 : Tb := [
  (0, none, [.aload 0, .getfield 2067, .aload 0, .getfield 2059, .invokevirtual 5141, .aload 0, .getfield 2067, .aload 0, .getfield 2098, .aload 0, .getfield 2104, .iload 1, .iload 2, .invokevirtual 8133, .istore 3, .iload 3, .ifCond .lt 72, .aload 0, .getfield 2055, .invokevirtual 2179, .aload 0, .getfield 2055, .aload 0, .getfield 2067, .iload 1, .invokevirtual 5781, .i2l, .invokevirtual 2323, .aload 0, .getfield 2055, .aload 0, .getfield 2067, .iload 2, .invokevirtual 5781, .i2l, .invokevirtual 2323, .iload 3, .ireturn]),
  (72, none, [.iload 3, .ireturn])]
theorem tk_109 : bl_109.all (fun q => chk 109 q.1 q.2.2) = true := by decide +kernel
theorem py_109 : plainName (mN 109).cls = true := by decide +kernel
theorem ml_109 : mL 109 = 4 := rfl
/-- C.suits -/
def bl_110 : Tb := [
  (0, none, [.aload 0, .getfield 2059, .iload 1, .invokevirtual 5269, .ifCond .eq 18, .iload 2, .invokestatic 18448, .ifCond .ne 20, .iconst (-1), .ireturn]),
  (18, none, [.iconst (-1), .ireturn]),
  (20, none, [.iconst (-2), .istore 3, .iconst (-1), .istore 4, .iconst 0, .istore 5, .goto_w 29]),
  (29, some [0, 1, 2, 3, 4, 5], [.iload 5, .aload 0, .getfield 2059, .getfield 1280, .if_icmp .ge 107, .aload 0, .getfield 2067, .aload 0, .getfield 2059, .invokevirtual 5141, .aload 0, .getfield 2067, .aload 0, .getfield 2098, .aload 0, .getfield 2104, .iload 1, .iload 5, .invokevirtual 8133, .ifCond .lt 101, .aload 0, .getfield 2067, .iload 1, .iload 2, .invokevirtual 6181, .iload 4, .if_icmp .le 101, .iload 5, .istore 3, .aload 0, .getfield 2067, .iload 1, .iload 2, .invokevirtual 6181, .istore 4, .iinc 5 1, .goto 29]),
  (101, none, [.iinc 5 1, .goto 29]),
  (107, none, [.iload 3, .ifCond .lt 128, .aload 0, .getfield 2055, .invokevirtual 2179, .aload 0, .getfield 2055, .iload 4, .i2l, .invokevirtual 2323, .iload 3, .ireturn]),
  (128, none, [.iload 3, .ireturn])]
theorem tk_110 : bl_110.all (fun q => chk 110 q.1 q.2.2) = true := by decide +kernel
theorem py_110 : plainName (mN 110).cls = true := by decide +kernel
theorem ml_110 : mL 110 = 6 := rfl
/-- C.goesOver -/
def bl_111 : Tb := [
  (0, none, [.aload 0, .getfield 2059, .iload 1, .invokevirtual 5269, .ifCond .eq 18, .iload 2, .invokestatic 18448, .ifCond .ne 20, .iconst (-1), .ireturn]),
  (18, none, [.iconst (-1), .ireturn]),
  (20, none, [.aload 0, .getfield 2083, .aload 0, .getfield 2098, .aload 0, .getfield 2104, .iload 1, .iload 2, .invokevirtual 9030, .aload 0, .aload 0, .getfield 2083, .aload 0, .getfield 2059, .invokevirtual 9366, .invokevirtual 18968, .ireturn])]
theorem tk_111 : bl_111.all (fun q => chk 111 q.1 q.2.2) = true := by decide +kernel
theorem py_111 : plainName (mN 111).cls = true := by decide +kernel
theorem ml_111 : mL 111 = 3 := rfl
/-- C.peace -/
def bl_112 : Tb := [
  (0, none, [.aload 0, .getfield 2083, .aload 0, .getfield 2098, .aload 0, .getfield 2104, .iconst (-1), .iconst (-1), .invokevirtual 9030, .aload 0, .aload 0, .getfield 2083, .aload 0, .getfield 2059, .invokevirtual 9366, .invokevirtual 18968, .ireturn])]
theorem tk_112 : bl_112.all (fun q => chk 112 q.1 q.2.2) = true := by decide +kernel
theorem py_112 : plainName (mN 112).cls = true := by decide +kernel
theorem ml_112 : mL 112 = 1 := rfl
/-- C.campaign -/
def bl_113 : Tb := [
  (0, none, [.iload 1, .ifCond .lt 10, .iload 1, .iconst 40, .if_icmp .le 12, .iconst (-1), .ireturn]),
  (10, none, [.iconst (-1), .ireturn]),
  (12, none, [.aload 0, .getfield 2067, .aload 0, .getfield 2059, .invokevirtual 5141, .iconst 0, .istore 2, .goto_w 25]),
  (25, some [0, 1, 2], [.iload 2, .iload 1, .if_icmp .ge 48, .aload 0, .invokevirtual 19080, .aload 0, .getfield 2067, .iconst 1, .invokevirtual 8341, .iinc 2 1, .goto 25]),
  (48, none, [.aload 0, .getfield 2055, .invokevirtual 2179, .iconst 0, .istore 2, .goto_w 57]),
  (57, some [0, 2], [.iload 2, .aload 0, .getfield 2067, .getfield 1280, .if_icmp .ge 90, .aload 0, .getfield 2055, .aload 0, .getfield 2067, .iload 2, .invokevirtual 5781, .i2l, .invokevirtual 2323, .iinc 2 1, .goto 57]),
  (90, none, [.aload 0, .getfield 2067, .getfield 1288, .aload 0, .getfield 2059, .getfield 1288, .isub, .ireturn])]
theorem tk_113 : bl_113.all (fun q => chk 113 q.1 q.2.2) = true := by decide +kernel
theorem py_113 : plainName (mN 113).cls = true := by decide +kernel
theorem ml_113 : mL 113 = 3 := rfl
/-- C.halves -/
def bl_114 : Tb := [
  (0, none, [.iload 1, .invokestatic 18448, .ifCond .ne 9, .iconst (-1), .ireturn]),
  (9, none, [.iconst (-2), .istore 2, .iconst 1, .istore 3, .goto_w 14]),
  (14, some [0, 1, 2, 3], [.iload 3, .iconst 1, .aload 0, .getfield 2059, .getfield 1280, .ishl, .if_icmp .ge 101, .iload 3, .invokestatic 36496, .istore 4, .iload 2, .iconst (-2), .if_icmp .eq 45, .iload 4, .iload 2, .if_icmp .ge 49, .iconst 1, .goto 50]),
  (45, none, [.iconst 1, .goto 50]),
  (49, none, [.iconst 0, .istore 5, .iload 5, .ifCond .eq 95, .iconst 2, .aload 0, .getfield 2059, .iload 3, .iload 1, .invokevirtual 6821, .imul, .iconst 12, .iload 4, .imul, .if_icmp .ne 95, .iload 4, .istore 2, .aload 0, .getfield 2055, .invokevirtual 2179, .aload 0, .getfield 2055, .iload 3, .i2l, .invokevirtual 2323, .iinc 3 1, .goto 14]),
  (50, none, [.istore 5, .iload 5, .ifCond .eq 95, .iconst 2, .aload 0, .getfield 2059, .iload 3, .iload 1, .invokevirtual 6821, .imul, .iconst 12, .iload 4, .imul, .if_icmp .ne 95, .iload 4, .istore 2, .aload 0, .getfield 2055, .invokevirtual 2179, .aload 0, .getfield 2055, .iload 3, .i2l, .invokevirtual 2323, .iinc 3 1, .goto 14]),
  (95, none, [.iinc 3 1, .goto 14]),
  (101, none, [.iload 2, .ireturn])]
theorem tk_114 : bl_114.all (fun q => chk 114 q.1 q.2.2) = true := by decide +kernel
theorem py_114 : plainName (mN 114).cls = true := by decide +kernel
theorem ml_114 : mL 114 = 6 := rfl
/-- C.evens -/
def bl_115 : Tb := [
  (0, none, [.aload 0, .getfield 2059, .invokevirtual 6405, .istore 1, .iconst 0, .istore 2, .iload 1, .istore 3, .iconst 0, .istore 4, .goto_w 15]),
  (15, some [0, 1, 2, 3, 4], [.iload 4, .iconst 1, .aload 0, .getfield 2059, .getfield 1280, .ishl, .if_icmp .ge 65, .iload 1, .iconst 2, .aload 0, .getfield 2059, .iload 4, .invokevirtual 6549, .imul, .isub, .invokestatic 36752, .istore 5, .iload 5, .iload 3, .if_icmp .ge 59, .iload 5, .istore 3, .iload 4, .istore 2, .iinc 4 2, .goto 15]),
  (59, none, [.iinc 4 2, .goto 15]),
  (65, none, [.aload 0, .getfield 2055, .invokevirtual 2179, .aload 0, .getfield 2055, .iload 2, .i2l, .invokevirtual 2323, .iload 3, .ireturn])]
theorem tk_115 : bl_115.all (fun q => chk 115 q.1 q.2.2) = true := by decide +kernel
theorem py_115 : plainName (mN 115).cls = true := by decide +kernel
theorem ml_115 : mL 115 = 6 := rfl
/-- C.worth -/
def bl_116 : Tb := [
  (0, none, [.aload 0, .getfield 2059, .iload 1, .invokevirtual 5269, .ifCond .ne 13, .iconst (-1), .ireturn]),
  (13, none, [.aload 0, .getfield 2059, .invokevirtual 6405, .istore 2, .iconst 0, .istore 3, .iconst 0, .istore 4, .goto_w 26]),
  (26, some [0, 1, 2, 3, 4], [.iload 4, .iconst 1, .aload 0, .getfield 2059, .getfield 1280, .ishl, .if_icmp .ge 125, .iload 4, .iconst 1, .iload 1, .ishl, .iand, .ifCond .eq 52, .goto 119]),
  (52, none, [.aload 0, .getfield 2059, .iload 4, .invokevirtual 6549, .istore 5, .iconst 2, .iload 5, .imul, .iload 2, .if_icmp .gt 119, .iconst 2, .iload 5, .aload 0, .getfield 2059, .iload 1, .invokevirtual 5653, .iadd, .imul, .iload 2, .if_icmp .le 119, .iload 4, .invokestatic 36496, .istore 6, .iload 3, .iload 6, .invokestatic 20880, .aload 0, .getfield 2059, .getfield 1280, .iconst 1, .isub, .iload 6, .isub, .invokestatic 20880, .imul, .iadd, .istore 3, .iinc 4 1, .goto 26]),
  (119, none, [.iinc 4 1, .goto 26]),
  (125, none, [.aload 0, .getfield 2055, .invokevirtual 2179, .aload 0, .getfield 2055, .iload 3, .i2l, .aload 0, .getfield 2059, .getfield 1280, .invokestatic 20880, .i2l, .invokevirtual 2467, .iconst 0, .ireturn])]
theorem tk_116 : bl_116.all (fun q => chk 116 q.1 q.2.2) = true := by decide +kernel
theorem py_116 : plainName (mN 116).cls = true := by decide +kernel
theorem ml_116 : mL 116 = 7 := rfl
/-- C.patched -/
def bl_117 : Tb := [
  (0, none, [.iload 1, .invokestatic 18448, .ifCond .eq 17, .iload 2, .ifCond .lt 17, .iload 2, .iconst 12, .if_icmp .le 19, .iconst (-1), .ireturn]),
  (17, none, [.iconst (-1), .ireturn]),
  (19, none, [.iconst 0, .istore 3, .iconst 0, .istore 4, .iconst 0, .istore 5, .goto_w 27]),
  (27, some [0, 1, 2, 3, 4, 5], [.iload 5, .aload 0, .getfield 2059, .getfield 1280, .if_icmp .ge 83, .aload 0, .getfield 2059, .iload 5, .iload 1, .invokevirtual 6181, .istore 6, .iload 3, .iload 6, .iload 2, .if_icmp .lt 65, .iconst 1, .iload 5, .ishl, .goto 66]),
  (65, none, [.iconst 0, .ior, .istore 3, .iload 4, .iload 6, .invokestatic 36896, .istore 4, .iinc 5 1, .goto 27]),
  (66, none, [.ior, .istore 3, .iload 4, .iload 6, .invokestatic 36896, .istore 4, .iinc 5 1, .goto 27]),
  (83, none, [.aload 0, .getfield 2055, .invokevirtual 2179, .aload 0, .getfield 2055, .iload 3, .invokestatic 36496, .i2l, .invokevirtual 2323, .aload 0, .getfield 2055, .iload 4, .i2l, .invokevirtual 2323, .iload 3, .ireturn])]
theorem tk_117 : bl_117.all (fun q => chk 117 q.1 q.2.2) = true := by decide +kernel
theorem py_117 : plainName (mN 117).cls = true := by decide +kernel
theorem ml_117 : mL 117 = 7 := rfl
/-- C.seen -/
def bl_118 : Tb := [
  (0, none, [.iload 2, .ifCond .lt 12, .iload 2, .iload 1, .invokestatic 19984, .if_icmp .le 14, .iconst (-1), .ireturn]),
  (12, none, [.iconst (-1), .ireturn]),
  (14, none, [.aload 0, .getfield 2087, .iload 1, .iload 2, .iconst 0, .invokevirtual 817, .ifCond .eq 37, .aload 0, .getfield 2087, .getfield 268, .goto 38]),
  (37, none, [.iconst (-1), .ireturn]),
  (38, none, [.ireturn])]
theorem tk_118 : bl_118.all (fun q => chk 118 q.1 q.2.2) = true := by decide +kernel
theorem py_118 : plainName (mN 118).cls = true := by decide +kernel
theorem ml_118 : mL 118 = 3 := rfl
/-- C.forget -/
def bl_119 : Tb := [
  (0, none, [.aload 0, .getfield 2087, .invokevirtual 897, .ireturn])]
theorem tk_119 : bl_119.all (fun q => chk 119 q.1 q.2.2) = true := by decide +kernel
theorem py_119 : plainName (mN 119).cls = true := by decide +kernel
theorem ml_119 : mL 119 = 1 := rfl
/-- C.fits -/
def bl_120 : Tb := [
  (0, none, [.aload 0, .invokevirtual 20104, .istore 1, .aload 0, .getfield 2055, .invokevirtual 2179, .aload 0, .getfield 2055, .iload 1, .invokestatic 36496, .i2l, .invokevirtual 2323, .iload 1, .ireturn])]
theorem tk_120 : bl_120.all (fun q => chk 120 q.1 q.2.2) = true := by decide +kernel
theorem py_120 : plainName (mN 120).cls = true := by decide +kernel
theorem ml_120 : mL 120 = 2 := rfl
/-- C.looks -/
def bl_121 : Tb := [
  (0, none, [.aload 0, .invokevirtual 20104, .istore 1, .iload 1, .ifCond .ne 12, .iconst (-2), .ireturn]),
  (12, none, [.iload 1, .invokestatic 36496, .istore 2, .iconst 0, .istore 3, .iconst 7, .istore 4, .iconst 0, .istore 5, .goto_w 26]),
  (26, some [0, 1, 2, 3, 4, 5], [.iload 5, .iconst 4, .if_icmp .ge 76, .iload 1, .aload 0, .iload 5, .invokevirtual 19864, .iand, .invokestatic 36496, .istore 6, .iload 6, .iload 2, .iload 6, .isub, .invokestatic 36896, .istore 7, .iload 7, .iload 4, .if_icmp .ge 70, .iload 7, .istore 4, .iload 5, .istore 3, .iinc 5 1, .goto 26]),
  (70, none, [.iinc 5 1, .goto 26]),
  (76, none, [.aload 0, .getfield 2055, .invokevirtual 2179, .aload 0, .getfield 2055, .iload 4, .i2l, .invokevirtual 2323, .iload 3, .ireturn])]
theorem tk_121 : bl_121.all (fun q => chk 121 q.1 q.2.2) = true := by decide +kernel
theorem py_121 : plainName (mN 121).cls = true := by decide +kernel
theorem ml_121 : mL 121 = 8 := rfl
/-- C.told -/
def bl_122 : Tb := [
  (0, none, [.iload 1, .ifCond .lt 31, .iload 1, .iconst 12, .if_icmp .gt 31, .iload 2, .ifCond .lt 31, .iload 2, .iconst 12, .iload 1, .isub, .if_icmp .gt 31, .iload 3, .ifCond .lt 31, .iload 3, .iconst 1, .if_icmp .le 33, .iconst (-1), .ireturn]),
  (31, none, [.iconst (-1), .ireturn]),
  (33, none, [.aload 0, .getfield 2091, .iload 1, .iload 2, .iload 3, .invokevirtual 817, .ifCond .eq 56, .aload 0, .getfield 2091, .getfield 268, .goto 57]),
  (56, none, [.iconst (-1), .ireturn]),
  (57, none, [.ireturn])]
theorem tk_122 : bl_122.all (fun q => chk 122 q.1 q.2.2) = true := by decide +kernel
theorem py_122 : plainName (mN 122).cls = true := by decide +kernel
theorem ml_122 : mL 122 = 4 := rfl
/-- C.deny -/
def bl_123 : Tb := [
  (0, none, [.aload 0, .getfield 2091, .invokevirtual 897, .ireturn])]
theorem tk_123 : bl_123.all (fun q => chk 123 q.1 q.2.2) = true := by decide +kernel
theorem py_123 : plainName (mN 123).cls = true := by decide +kernel
theorem ml_123 : mL 123 = 1 := rfl
/-- C.laws -/
def bl_124 : Tb := [
  (0, none, [.aload 0, .getfield 2095, .aload 0, .getfield 2091, .invokevirtual 144, .istore 1, .aload 0, .getfield 2055, .invokevirtual 2179, .iload 1, .ifCond .le 59, .aload 0, .getfield 2055, .aload 0, .getfield 2095, .getfield 4, .iconst 13, .idiv, .i2l, .invokevirtual 2323, .aload 0, .getfield 2055, .aload 0, .getfield 2095, .getfield 4, .iconst 13, .irem, .i2l, .invokevirtual 2323, .iload 1, .ireturn]),
  (59, none, [.iload 1, .ireturn])]
theorem tk_124 : bl_124.all (fun q => chk 124 q.1 q.2.2) = true := by decide +kernel
theorem py_124 : plainName (mN 124).cls = true := by decide +kernel
theorem ml_124 : mL 124 = 2 := rfl
/-- C.asks -/
def bl_125 : Tb := [
  (0, none, [.aload 0, .getfield 2095, .aload 0, .getfield 2091, .invokevirtual 144, .istore 1, .iload 1, .ifCond .ne 19, .iconst (-2), .ireturn]),
  (19, none, [.iconst 0, .istore 2, .iload 1, .iconst 1, .iadd, .istore 3, .iconst 0, .istore 4, .goto_w 28]),
  (28, some [0, 1, 2, 3, 4], [.iload 4, .iconst 12, .if_icmp .gt 102, .iconst 0, .istore 5, .goto_w 38]),
  (38, some [0, 1, 2, 3, 4, 5], [.iload 5, .iconst 12, .iload 4, .isub, .if_icmp .gt 96, .aload 0, .getfield 2095, .iload 4, .iload 5, .invokevirtual 416, .istore 6, .iload 6, .iload 1, .iload 6, .isub, .invokestatic 36896, .istore 7, .iload 7, .iload 3, .if_icmp .ge 90, .iload 7, .istore 3, .iconst 13, .iload 4, .imul, .iload 5, .iadd, .istore 2, .iinc 5 1, .goto 38]),
  (90, none, [.iinc 5 1, .goto 38]),
  (96, none, [.iinc 4 1, .goto 28]),
  (102, none, [.aload 0, .getfield 2055, .invokevirtual 2179, .aload 0, .getfield 2055, .iload 3, .i2l, .invokevirtual 2323, .iload 2, .ireturn])]
theorem tk_125 : bl_125.all (fun q => chk 125 q.1 q.2.2) = true := by decide +kernel
theorem py_125 : plainName (mN 125).cls = true := by decide +kernel
theorem ml_125 : mL 125 = 8 := rfl
/-- C.treaty -/
def bl_126 : Tb := [
  (0, none, [.iload 1, .ifCond .lt 20, .iload 1, .iconst 30, .if_icmp .gt 20, .iload 2, .ifCond .lt 20, .iload 2, .iconst 30, .if_icmp .le 22, .iconst (-1), .ireturn]),
  (20, none, [.iconst (-1), .ireturn]),
  (22, none, [.aload 0, .getfield 2055, .invokevirtual 2179, .iload 1, .iload 2, .invokestatic 20512, .ifCond .eq 39, .iconst 0, .ireturn]),
  (39, none, [.iconst 0, .istore 3, .goto_w 41]),
  (41, some [0, 1, 2, 3], [.iload 3, .iload 1, .if_icmp .gt 128, .iconst 0, .istore 4, .goto_w 49]),
  (49, some [0, 1, 2, 3, 4], [.iload 4, .iload 2, .if_icmp .gt 122, .iload 3, .ifCond .eq 70, .iload 4, .ifCond .eq 70, .iload 3, .iload 4, .if_icmp .ne 74, .iconst 1, .goto 75]),
  (70, none, [.iconst 1, .goto 75]),
  (74, none, [.iconst 0, .istore 5, .iload 5, .ifCond .eq 116, .iload 1, .iload 3, .isub, .iload 2, .iload 4, .isub, .invokestatic 20512, .ifCond .eq 116, .aload 0, .getfield 2055, .iload 3, .i2l, .invokevirtual 2323, .aload 0, .getfield 2055, .iload 4, .i2l, .invokevirtual 2323, .iconst 1, .ireturn]),
  (75, none, [.istore 5, .iload 5, .ifCond .eq 116, .iload 1, .iload 3, .isub, .iload 2, .iload 4, .isub, .invokestatic 20512, .ifCond .eq 116, .aload 0, .getfield 2055, .iload 3, .i2l, .invokevirtual 2323, .aload 0, .getfield 2055, .iload 4, .i2l, .invokevirtual 2323, .iconst 1, .ireturn]),
  (116, none, [.iinc 4 1, .goto 49]),
  (122, none, [.iinc 3 1, .goto 41]),
  (128, none, [.iconst 0, .ireturn])]
theorem tk_126 : bl_126.all (fun q => chk 126 q.1 q.2.2) = true := by decide +kernel
theorem py_126 : plainName (mN 126).cls = true := by decide +kernel
theorem ml_126 : mL 126 = 6 := rfl
/-- C.series -/
def bl_127 : Tb := [
  (0, none, [.iload 1, .iconst 1, .if_icmp .lt 32, .iload 1, .iconst 8, .if_icmp .gt 32, .iload 2, .iconst 1, .if_icmp .lt 32, .iload 2, .iconst 8, .if_icmp .gt 32, .iload 3, .ifCond .lt 32, .iload 3, .iconst 10, .if_icmp .le 34, .iconst (-1), .ireturn]),
  (32, none, [.iconst (-1), .ireturn]),
  (34, none, [.ldc2_w 1, .lstore 4, .ldc2_w 0, .lstore 6, .iconst 0, .istore 8, .goto_w 43]),
  (43, some [0, 1, 2, 3, 4, 6, 8], [.iload 8, .iload 2, .if_icmp .ge 111, .iload 8, .ifCond .le 70, .lload 4, .iload 1, .iconst 1, .isub, .iload 8, .iadd, .i2l, .lmul, .iload 8, .i2l, .ldiv, .lstore 4, .lload 6, .lload 4, .iload 3, .iload 1, .invokestatic 21024, .lmul, .iconst 10, .iload 3, .isub, .iload 8, .invokestatic 21024, .lmul, .iconst 10, .iload 2, .iconst 1, .isub, .iload 8, .isub, .invokestatic 21024, .lmul, .ladd, .lstore 6, .iinc 8 1, .goto 43]),
  (70, none, [.lload 6, .lload 4, .iload 3, .iload 1, .invokestatic 21024, .lmul, .iconst 10, .iload 3, .isub, .iload 8, .invokestatic 21024, .lmul, .iconst 10, .iload 2, .iconst 1, .isub, .iload 8, .isub, .invokestatic 21024, .lmul, .ladd, .lstore 6, .iinc 8 1, .goto 43]),
  (111, none, [.aload 0, .getfield 2055, .invokevirtual 2179, .aload 0, .getfield 2055, .lload 6, .iconst 10, .iload 1, .iload 2, .iadd, .iconst 1, .isub, .invokestatic 21024, .invokevirtual 2467, .iconst 0, .ireturn])]
theorem tk_127 : bl_127.all (fun q => chk 127 q.1 q.2.2) = true := by decide +kernel
theorem py_127 : plainName (mN 127).cls = true := by decide +kernel
theorem ml_127 : mL 127 = 9 := rfl
/-- C.rests -/
def bl_128 : Tb := [
  (0, none, [.iload 1, .ifCond .lt 10, .iload 1, .iconst 20, .if_icmp .le 12, .iconst (-1), .ireturn]),
  (10, none, [.iconst (-1), .ireturn]),
  (12, none, [.aload 0, .getfield 2055, .invokevirtual 2179, .iconst 0, .istore 2, .iconst 0, .istore 3, .goto_w 23]),
  (23, some [0, 1, 2, 3], [.iload 3, .iconst 9, .if_icmp .gt 100, .iconst 0, .istore 4, .goto_w 32]),
  (32, some [0, 1, 2, 3, 4], [.iload 4, .iconst 9, .if_icmp .gt 94, .iload 1, .iload 3, .iload 4, .invokestatic 20656, .ifCond .eq 88, .iload 1, .iload 4, .iload 3, .invokestatic 20656, .ifCond .ne 62, .goto 88]),
  (62, none, [.iload 2, .ifCond .ne 85, .aload 0, .getfield 2055, .iload 3, .i2l, .invokevirtual 2323, .aload 0, .getfield 2055, .iload 4, .i2l, .invokevirtual 2323, .iinc 2 1, .iinc 4 1, .goto 32]),
  (85, none, [.iinc 2 1, .iinc 4 1, .goto 32]),
  (88, none, [.iinc 4 1, .goto 32]),
  (94, none, [.iinc 3 1, .goto 23]),
  (100, none, [.iload 2, .ireturn])]
theorem tk_128 : bl_128.all (fun q => chk 128 q.1 q.2.2) = true := by decide +kernel
theorem py_128 : plainName (mN 128).cls = true := by decide +kernel
theorem ml_128 : mL 128 = 5 := rfl
/-- C.law -/
def bl_129 : Tb := [
  (0, none, [.aload 0, .invokevirtual 17544, .istore 1, .iload 1, .iconst (-1), .if_icmp .eq 16, .iconst (-10000), .iload 1, .isub, .ireturn]),
  (16, none, [.aload 0, .aload 0, .getfield 2102, .invokevirtual 19224, .istore 2, .aload 0, .aload 0, .getfield 2098, .invokevirtual 19224, .istore 3, .aload 0, .getfield 2055, .invokevirtual 2179, .aload 0, .getfield 2055, .iload 2, .i2l, .invokevirtual 2323, .aload 0, .getfield 2055, .iload 3, .i2l, .invokevirtual 2323, .iload 2, .iload 3, .isub, .ireturn])]
theorem tk_129 : bl_129.all (fun q => chk 129 q.1 q.2.2) = true := by decide +kernel
theorem py_129 : plainName (mN 129).cls = true := by decide +kernel
theorem ml_129 : mL 129 = 4 := rfl
/-- C.years -/
def bl_130 : Tb := [
  (0, none, [.iload 2, .iconst 1, .if_icmp .lt 11, .iload 2, .iconst 60, .if_icmp .le 13, .iconst (-1), .ireturn]),
  (11, none, [.iconst (-1), .ireturn]),
  (13, none, [.aload 0, .iload 1, .putfield 2112, .aload 0, .getfield 2067, .aload 0, .getfield 2059, .invokevirtual 5141, .iconst 0, .istore 3, .goto_w 31]),
  (31, some [0, 2, 3], [.iload 3, .iload 2, .if_icmp .ge 46, .aload 0, .invokevirtual 19336, .iinc 3 1, .goto 31]),
  (46, none, [.aload 0, .getfield 2055, .invokevirtual 2179, .aload 0, .getfield 2055, .aload 0, .getfield 2067, .invokevirtual 6405, .i2l, .invokevirtual 2323, .aload 0, .getfield 2055, .aload 0, .getfield 2067, .invokevirtual 6917, .i2l, .invokevirtual 2323, .aload 0, .getfield 2067, .getfield 1288, .aload 0, .getfield 2059, .getfield 1288, .isub, .ireturn])]
theorem tk_130 : bl_130.all (fun q => chk 130 q.1 q.2.2) = true := by decide +kernel
theorem py_130 : plainName (mN 130).cls = true := by decide +kernel
theorem ml_130 : mL 130 = 4 := rfl
/-- C.keep -/
def bl_131 : Tb := [
  (0, none, [.iload 1, .ifCond .lt 9, .iload 1, .iconst 2, .if_icmp .lt 11, .iconst 0, .freturn]),
  (9, none, [.iconst 0, .freturn]),
  (11, none, [.aload 0, .iload 1, .invokevirtual 18712, .aload 0, .getfield 2059, .invokevirtual 5141, .aload 0, .dup, .getfield 2108, .iconst 1, .iload 1, .ishl, .ior, .putfield 2108, .iconst 1, .freturn])]
theorem tk_131 : bl_131.all (fun q => chk 131 q.1 q.2.2) = true := by decide +kernel
theorem py_131 : plainName (mN 131).cls = true := by decide +kernel
theorem ml_131 : mL 131 = 2 := rfl
/-- C.again -/
def bl_132 : Tb := [
  (0, none, [.iload 1, .ifCond .lt 20, .iload 1, .iconst 2, .if_icmp .ge 20, .aload 0, .getfield 2108, .iconst 1, .iload 1, .ishl, .iand, .ifCond .ne 22, .iconst 0, .freturn]),
  (20, none, [.iconst 0, .freturn]),
  (22, none, [.aload 0, .getfield 2059, .aload 0, .iload 1, .invokevirtual 18712, .invokevirtual 5141, .aload 0, .getfield 2071, .invokevirtual 1538, .iconst 1, .freturn])]
theorem tk_132 : bl_132.all (fun q => chk 132 q.1 q.2.2) = true := by decide +kernel
theorem py_132 : plainName (mN 132).cls = true := by decide +kernel
theorem ml_132 : mL 132 = 2 := rfl
/-- C.count -/
def bl_133 : Tb := [
  (0, none, [.iload 1, .lookupswitch 175 #[(0, 72), (1, 80), (2, 85), (3, 93), (4, 101), (5, 109), (6, 117), (7, 125), (8, 133), (9, 141), (10, 149), (11, 157), (12, 165), (13, 170)]]),
  (72, none, [.aload 0, .getfield 2059, .getfield 1280, .ireturn]),
  (80, none, [.aload 0, .getfield 2104, .ireturn]),
  (85, none, [.aload 0, .getfield 2059, .getfield 1284, .ireturn]),
  (93, none, [.aload 0, .getfield 2059, .getfield 1288, .ireturn]),
  (101, none, [.aload 0, .getfield 2059, .invokevirtual 6405, .ireturn]),
  (109, none, [.aload 0, .getfield 2059, .invokevirtual 6917, .ireturn]),
  (117, none, [.aload 0, .getfield 2059, .invokevirtual 7045, .ireturn]),
  (125, none, [.aload 0, .getfield 2087, .getfield 268, .ireturn]),
  (133, none, [.aload 0, .getfield 2091, .getfield 268, .ireturn]),
  (141, none, [.aload 0, .getfield 2071, .getfield 520, .ireturn]),
  (149, none, [.aload 0, .getfield 2055, .getfield 772, .ireturn]),
  (157, none, [.aload 0, .getfield 2051, .getfield 1796, .ireturn]),
  (165, none, [.aload 0, .invokevirtual 19592, .ireturn]),
  (170, none, [.aload 0, .invokevirtual 19720, .ireturn]),
  (175, none, [.iconst (-1), .ireturn])]
theorem tk_133 : bl_133.all (fun q => chk 133 q.1 q.2.2) = true := by decide +kernel
theorem py_133 : plainName (mN 133).cls = true := by decide +kernel
theorem ml_133 : mL 133 = 2 := rfl
/-- C.faultOfShips -/
def bl_135 : Tb := [
  (0, none, [.iload 1, .iconst 17, .invokestatic 37024, .istore 2, .iconst 0, .istore 3, .goto_w 9]),
  (9, some [0, 1, 2, 3], [.iload 3, .iload 2, .if_icmp .ge 30, .aload 0, .iload 3, .invokevirtual 17432, .ifCond .ne 24, .iload 3, .ireturn]),
  (24, none, [.iinc 3 1, .goto 9]),
  (30, none, [.iload 2, .ifCond .le 43, .iload 2, .iconst 3, .irem, .iconst 2, .if_icmp .eq 43, .iload 2, .ireturn]),
  (43, none, [.iload 1, .iconst 17, .if_icmp .le 54, .iconst 17, .goto 55]),
  (54, none, [.iconst (-1), .ireturn]),
  (55, none, [.ireturn])]
theorem tk_135 : bl_135.all (fun q => chk 135 q.1 q.2.2) = true := by decide +kernel
theorem py_135 : plainName (mN 135).cls = true := by decide +kernel
theorem ml_135 : mL 135 = 4 := rfl
/-- C.standsInShips -/
def bl_136 : Tb := [
  (0, none, [.aload 0, .getfield 2051, .iload 1, .invokevirtual 10519, .istore 2, .iload 1, .iconst 3, .irem, .lookupswitch 88 #[(0, 40), (1, 69)]]),
  (40, none, [.iload 2, .invokestatic 18320, .ifCond .eq 67, .aload 0, .getfield 2059, .getfield 1280, .iload 1, .iconst 3, .idiv, .iadd, .iconst 6, .if_icmp .ge 67, .iconst 1, .goto 68]),
  (67, none, [.iconst 0, .freturn]),
  (68, none, [.freturn]),
  (69, none, [.iload 2, .invokestatic 18192, .ifCond .eq 86, .iload 2, .iconst 48, .if_icmp .eq 86, .iconst 1, .goto 87]),
  (86, none, [.iconst 0, .freturn]),
  (87, none, [.freturn]),
  (88, none, [.iload 2, .iconst 59, .if_icmp .ne 98, .iconst 1, .goto 99]),
  (98, none, [.iconst 0, .freturn]),
  (99, none, [.freturn])]
theorem tk_136 : bl_136.all (fun q => chk 136 q.1 q.2.2) = true := by decide +kernel
theorem py_136 : plainName (mN 136).cls = true := by decide +kernel
theorem ml_136 : mL 136 = 3 := rfl
/-- C.readsOtherRule -/
def bl_137 : Tb := [
  (0, none, [.aload 0, .getfield 2051, .invokevirtual 10631, .istore 1, .iload 1, .ifCond .ne 27, .aload 0, .getfield 2102, .getstatic 2, .getstatic 2, .arraylength, .invokevirtual 3108, .ireturn]),
  (27, none, [.aload 0, .getfield 2102, .aload 0, .getfield 2051, .getfield 1795, .iload 1, .invokevirtual 3108, .ireturn])]
theorem tk_137 : bl_137.all (fun q => chk 137 q.1 q.2.2) = true := by decide +kernel
theorem py_137 : plainName (mN 137).cls = true := by decide +kernel
theorem ml_137 : mL 137 = 2 := rfl
/-- C.faultOfWar -/
def bl_138 : Tb := [
  (0, none, [.iload 1, .iconst 60, .invokestatic 37024, .istore 2, .iconst 0, .istore 3, .iconst 0, .istore 4, .goto_w 12]),
  (12, some [0, 1, 2, 3, 4], [.iload 4, .iload 2, .if_icmp .ge 75, .iload 4, .iload 3, .isub, .aload 0, .getfield 2051, .iload 3, .invokevirtual 10519, .invokestatic 17936, .if_icmp .ne 39, .iload 4, .istore 3, .aload 0, .getfield 2051, .iload 3, .invokevirtual 10519, .iload 4, .iload 3, .isub, .aload 0, .getfield 2051, .iload 4, .invokevirtual 10519, .invokestatic 17840, .ifCond .ne 69, .iload 4, .ireturn]),
  (39, none, [.aload 0, .getfield 2051, .iload 3, .invokevirtual 10519, .iload 4, .iload 3, .isub, .aload 0, .getfield 2051, .iload 4, .invokevirtual 10519, .invokestatic 17840, .ifCond .ne 69, .iload 4, .ireturn]),
  (69, none, [.iinc 4 1, .goto 12]),
  (75, none, [.iload 2, .ifCond .le 98, .iload 2, .iload 3, .isub, .aload 0, .getfield 2051, .iload 3, .invokevirtual 10519, .invokestatic 17936, .if_icmp .eq 98, .iload 2, .ireturn]),
  (98, none, [.iload 1, .iconst 60, .if_icmp .le 109, .iconst 60, .goto 110]),
  (109, none, [.iconst (-1), .ireturn]),
  (110, none, [.ireturn])]
theorem tk_138 : bl_138.all (fun q => chk 138 q.1 q.2.2) = true := by decide +kernel
theorem py_138 : plainName (mN 138).cls = true := by decide +kernel
theorem ml_138 : mL 138 = 5 := rfl
/-- C.standsInAct -/
def bl_139 : Tb := [
  (0, none, [.iload 1, .ifCond .ne 34, .iload 0, .iconst 102, .if_icmp .eq 28, .iload 0, .iconst 110, .if_icmp .eq 28, .iload 0, .iconst 115, .if_icmp .eq 28, .iload 0, .iconst 121, .if_icmp .ne 32, .iconst 1, .goto 33]),
  (28, none, [.iconst 1, .goto 33]),
  (32, none, [.iconst 0, .freturn]),
  (33, none, [.freturn]),
  (34, none, [.iload 1, .iconst 2, .if_icmp .ne 50, .iload 0, .iconst 102, .if_icmp .eq 50, .iload 2, .invokestatic 18320, .freturn]),
  (50, none, [.iload 2, .invokestatic 18192, .ifCond .eq 72, .iload 1, .iconst 3, .if_icmp .ne 68, .iload 2, .iconst 48, .if_icmp .eq 72, .iconst 1, .goto 73]),
  (68, none, [.iconst 1, .goto 73]),
  (72, none, [.iconst 0, .freturn]),
  (73, none, [.freturn])]
theorem tk_139 : bl_139.all (fun q => chk 139 q.1 q.2.2) = true := by decide +kernel
theorem py_139 : plainName (mN 139).cls = true := by decide +kernel
theorem ml_139 : mL 139 = 3 := rfl
/-- C.lengthOfAct -/
def bl_140 : Tb := [
  (0, none, [.iload 0, .lookupswitch 32 #[(110, 28), (115, 30)]]),
  (28, none, [.iconst 2, .ireturn]),
  (30, none, [.iconst 4, .ireturn]),
  (32, none, [.iconst 3, .ireturn])]
theorem tk_140 : bl_140.all (fun q => chk 140 q.1 q.2.2) = true := by decide +kernel
theorem py_140 : plainName (mN 140).cls = true := by decide +kernel
theorem ml_140 : mL 140 = 1 := rfl
/-- C.acts -/
def bl_141 : Tb := [
  (0, none, [.aload 0, .getfield 2051, .iload 1, .iconst 1, .iadd, .invokevirtual 10519, .iconst 48, .isub, .istore 2, .aload 0, .getfield 2051, .iload 1, .invokevirtual 10519, .lookupswitch 155 #[(102, 56), (110, 102), (115, 112)]]),
  (56, none, [.aload 0, .getfield 2059, .aload 0, .getfield 2098, .aload 0, .getfield 2104, .iload 2, .aload 0, .getfield 2051, .iload 1, .iconst 2, .iadd, .invokevirtual 10519, .iconst 48, .isub, .invokevirtual 8133, .istore 3, .iload 3, .ifCond .ge 96, .iload 3, .iconst (-3), .if_icmp .ne 100, .iconst 1, .goto 101]),
  (96, none, [.iconst 1, .goto 101]),
  (100, none, [.iconst 0, .freturn]),
  (101, none, [.freturn]),
  (102, none, [.aload 0, .getfield 2059, .iload 2, .invokevirtual 8341, .iconst 1, .freturn]),
  (112, none, [.aload 0, .getfield 2059, .iload 2, .aload 0, .getfield 2051, .iload 1, .iconst 2, .iadd, .invokevirtual 10519, .iconst 97, .isub, .aload 0, .getfield 2051, .iload 1, .iconst 3, .iadd, .invokevirtual 10519, .iconst 48, .isub, .invokevirtual 8629, .ifCond .lt 153, .iconst 1, .goto 154]),
  (153, none, [.iconst 0, .freturn]),
  (154, none, [.freturn]),
  (155, none, [.aload 0, .getfield 2059, .iload 2, .aload 0, .getfield 2051, .iload 1, .iconst 2, .iadd, .invokevirtual 10519, .iconst 97, .isub, .invokevirtual 8741, .ifCond .lt 183, .iconst 1, .goto 184]),
  (183, none, [.iconst 0, .freturn]),
  (184, none, [.freturn])]
theorem tk_141 : bl_141.all (fun q => chk 141 q.1 q.2.2) = true := by decide +kernel
theorem py_141 : plainName (mN 141).cls = true := by decide +kernel
theorem ml_141 : mL 141 = 4 := rfl
/-- C.isDigit -/
def bl_142 : Tb := [
  (0, none, [.iload 0, .iconst 48, .if_icmp .lt 16, .iload 0, .iconst 57, .if_icmp .gt 16, .iconst 1, .goto 17]),
  (16, none, [.iconst 0, .freturn]),
  (17, none, [.freturn])]
theorem tk_142 : bl_142.all (fun q => chk 142 q.1 q.2.2) = true := by decide +kernel
theorem py_142 : plainName (mN 142).cls = true := by decide +kernel
theorem ml_142 : mL 142 = 1 := rfl
/-- C.isSideSign -/
def bl_143 : Tb := [
  (0, none, [.iload 0, .iconst 97, .if_icmp .lt 16, .iload 0, .iconst 100, .if_icmp .gt 16, .iconst 1, .goto 17]),
  (16, none, [.iconst 0, .freturn]),
  (17, none, [.freturn])]
theorem tk_143 : bl_143.all (fun q => chk 143 q.1 q.2.2) = true := by decide +kernel
theorem py_143 : plainName (mN 143).cls = true := by decide +kernel
theorem ml_143 : mL 143 = 1 := rfl
/-- C.isSide -/
def bl_144 : Tb := [
  (0, none, [.iload 0, .ifCond .lt 13, .iload 0, .iconst 4, .if_icmp .ge 13, .iconst 1, .goto 14]),
  (13, none, [.iconst 0, .freturn]),
  (14, none, [.freturn])]
theorem tk_144 : bl_144.all (fun q => chk 144 q.1 q.2.2) = true := by decide +kernel
theorem py_144 : plainName (mN 144).cls = true := by decide +kernel
theorem ml_144 : mL 144 = 1 := rfl
/-- C.entry -/
def bl_145 : Tb := [
  (0, none, [.iload 0, .lookupswitch 34 #[(0, 28), (1, 31)]]),
  (28, none, [.iload 1, .i2b, .ireturn]),
  (31, none, [.iload 1, .i2s, .ireturn]),
  (34, none, [.iload 1, .ireturn])]
theorem tk_145 : bl_145.all (fun q => chk 145 q.1 q.2.2) = true := by decide +kernel
theorem py_145 : plainName (mN 145).cls = true := by decide +kernel
theorem ml_145 : mL 145 = 2 := rfl
/-- C.keptUnder -/
def bl_146 : Tb := [
  (0, none, [.iload 1, .ifCond .ne 11, .aload 0, .getfield 2075, .goto 15]),
  (11, none, [.aload 0, .getfield 2079, .areturn]),
  (15, none, [.areturn])]
theorem tk_146 : bl_146.all (fun q => chk 146 q.1 q.2.2) = true := by decide +kernel
theorem py_146 : plainName (mN 146).cls = true := by decide +kernel
theorem ml_146 : mL 146 = 2 := rfl
/-- C.isTempted -/
def bl_147 : Tb := [
  (0, none, [.aload 0, .getfield 2059, .iload 1, .invokevirtual 5781, .iload 2, .if_icmp .eq 32, .aload 0, .getfield 2059, .iload 1, .aload 0, .getfield 2059, .iload 1, .invokevirtual 5781, .invokevirtual 6181, .iload 3, .if_icmp .ge 34, .iconst 0, .freturn]),
  (32, none, [.iconst 0, .freturn]),
  (34, none, [.aload 0, .getfield 2067, .aload 0, .getfield 2059, .invokevirtual 5141, .aload 0, .getfield 2067, .iload 1, .iload 2, .iload 3, .invokevirtual 8629, .iload 2, .if_icmp .ne 63, .iconst 1, .goto 64]),
  (63, none, [.iconst 0, .freturn]),
  (64, none, [.freturn])]
theorem tk_147 : bl_147.all (fun q => chk 147 q.1 q.2.2) = true := by decide +kernel
theorem py_147 : plainName (mN 147).cls = true := by decide +kernel
theorem ml_147 : mL 147 = 4 := rfl
/-- C.tellsFights -/
def bl_148 : Tb := [
  (0, none, [.iload 1, .ifCond .lt 42, .aload 0, .getfield 2055, .invokevirtual 2179, .iconst 0, .istore 2, .goto_w 13]),
  (13, some [0, 1, 2], [.iload 2, .iconst 2, .iload 1, .imul, .if_icmp .ge 42, .aload 0, .getfield 2055, .aload 0, .getfield 2083, .iload 2, .invokevirtual 9110, .i2l, .invokevirtual 2323, .iinc 2 1, .goto 13]),
  (42, none, [.iload 1, .ireturn])]
theorem tk_148 : bl_148.all (fun q => chk 148 q.1 q.2.2) = true := by decide +kernel
theorem py_148 : plainName (mN 148).cls = true := by decide +kernel
theorem ml_148 : mL 148 = 3 := rfl
/-- C.firstPairFights -/
def bl_149 : Tb := [
  (0, none, [.iconst 0, .istore 1, .goto_w 2]),
  (2, some [0, 1], [.iload 1, .aload 0, .getfield 2067, .getfield 1280, .if_icmp .ge 61, .iload 1, .iconst 1, .iadd, .istore 2, .goto_w 17]),
  (17, some [0, 1, 2], [.iload 2, .aload 0, .getfield 2067, .getfield 1280, .if_icmp .ge 55, .aload 0, .getfield 2067, .aload 0, .getfield 2098, .aload 0, .getfield 2104, .iload 1, .iload 2, .invokevirtual 8133, .ifCond .lt 49, .return_]),
  (49, none, [.iinc 2 1, .goto 17]),
  (55, none, [.iinc 1 1, .goto 2]),
  (61, none, [.return_])]
theorem tk_149 : bl_149.all (fun q => chk 149 q.1 q.2.2) = true := by decide +kernel
theorem py_149 : plainName (mN 149).cls = true := by decide +kernel
theorem ml_149 : mL 149 = 3 := rfl
end
section
/-! the methods' code, 150 to 199 -/
/-- C.lesserWins -/
def bl_150 : Tb := [
  (0, none, [.iconst 0, .istore 2, .iconst 0, .istore 3, .goto_w 4]),
  (4, some [0, 1, 2, 3], [.iload 3, .aload 0, .getfield 2059, .getfield 1280, .if_icmp .ge 67, .iload 3, .iconst 1, .iadd, .istore 4, .goto_w 20]),
  (20, some [0, 1, 2, 3, 4], [.iload 4, .aload 0, .getfield 2059, .getfield 1280, .if_icmp .ge 61, .iload 2, .aload 0, .getfield 2059, .aload 1, .iload 3, .iload 4, .invokevirtual 7989, .iload 3, .if_icmp .ne 52, .iconst 1, .goto 53]),
  (52, none, [.iconst 0, .iadd, .istore 2, .iinc 4 1, .goto 20]),
  (53, none, [.iadd, .istore 2, .iinc 4 1, .goto 20]),
  (61, none, [.iinc 3 1, .goto 4]),
  (67, none, [.iload 2, .ireturn])]
theorem tk_150 : bl_150.all (fun q => chk 150 q.1 q.2.2) = true := by decide +kernel
theorem py_150 : plainName (mN 150).cls = true := by decide +kernel
theorem ml_150 : mL 150 = 5 := rfl
/-- C.yearGoesBy -/
def bl_151 : Tb := [
  (0, none, [.aload 0, .iconst 4, .invokevirtual 19480, .istore 1, .iload 1, .ifCond .ne 21, .aload 0, .getfield 2067, .iconst 1, .invokevirtual 8341, .goto 94]),
  (21, none, [.aload 0, .getfield 2067, .getfield 1280, .ifCond .le 94, .aload 0, .aload 0, .getfield 2067, .getfield 1280, .invokevirtual 19480, .istore 2, .iload 1, .iconst 3, .if_icmp .ne 66, .aload 0, .getfield 2067, .iload 2, .aload 0, .iconst 4, .invokevirtual 19480, .iconst 1, .invokevirtual 8629, .pop, .goto 94]),
  (66, none, [.aload 0, .getfield 2067, .aload 0, .getfield 2098, .aload 0, .getfield 2104, .iload 2, .aload 0, .aload 0, .getfield 2067, .getfield 1280, .invokevirtual 19480, .invokevirtual 8133, .pop, .return_]),
  (94, none, [.return_])]
theorem tk_151 : bl_151.all (fun q => chk 151 q.1 q.2.2) = true := by decide +kernel
theorem py_151 : plainName (mN 151).cls = true := by decide +kernel
theorem ml_151 : mL 151 = 3 := rfl
/-- C.draws -/
def bl_152 : Tb := [
  (0, none, [.aload 0, .aload 0, .getfield 2112, .iconst 1103515245, .imul, .iconst 12345, .iadd, .putfield 2112, .iload 1, .ifCond .le 32, .aload 0, .getfield 2112, .iconst 16, .iushr, .iload 1, .irem, .goto 33]),
  (32, none, [.iconst 0, .ireturn]),
  (33, none, [.ireturn])]
theorem tk_152 : bl_152.all (fun q => chk 152 q.1 q.2.2) = true := by decide +kernel
theorem py_152 : plainName (mN 152).cls = true := by decide +kernel
theorem ml_152 : mL 152 = 2 := rfl
/-- C.strangePartsOfAll -/
def bl_153 : Tb := [
  (0, none, [.iconst 0, .istore 1, .iconst 0, .istore 2, .goto_w 4]),
  (4, some [0, 1, 2], [.iload 2, .aload 0, .getfield 2059, .getfield 1280, .if_icmp .ge 32, .iload 1, .aload 0, .getfield 2059, .iload 2, .invokevirtual 6293, .iadd, .istore 1, .iinc 2 1, .goto 4]),
  (32, none, [.iload 1, .ireturn])]
theorem tk_153 : bl_153.all (fun q => chk 153 q.1 q.2.2) = true := by decide +kernel
theorem py_153 : plainName (mN 153).cls = true := by decide +kernel
theorem ml_153 : mL 153 = 3 := rfl
/-- C.wholeShips -/
def bl_154 : Tb := [
  (0, none, [.iconst 0, .istore 1, .iconst 0, .istore 2, .goto_w 4]),
  (4, some [0, 1, 2], [.iload 2, .aload 0, .getfield 2059, .getfield 1280, .if_icmp .ge 42, .iload 1, .aload 0, .getfield 2059, .iload 2, .invokevirtual 6293, .ifCond .ne 33, .iconst 1, .iload 2, .ishl, .goto 34]),
  (33, none, [.iconst 0, .ior, .istore 1, .iinc 2 1, .goto 4]),
  (34, none, [.ior, .istore 1, .iinc 2 1, .goto 4]),
  (42, none, [.iload 1, .ireturn])]
theorem tk_154 : bl_154.all (fun q => chk 154 q.1 q.2.2) = true := by decide +kernel
theorem py_154 : plainName (mN 154).cls = true := by decide +kernel
theorem ml_154 : mL 154 = 3 := rfl
/-- C.shipsWith -/
def bl_155 : Tb := [
  (0, none, [.iconst 0, .istore 2, .iconst 0, .istore 3, .goto_w 4]),
  (4, some [0, 1, 2, 3], [.iload 3, .aload 0, .getfield 2059, .getfield 1280, .if_icmp .ge 43, .iload 2, .aload 0, .getfield 2059, .iload 3, .iload 1, .invokevirtual 6181, .ifCond .le 34, .iconst 1, .iload 3, .ishl, .goto 35]),
  (34, none, [.iconst 0, .ior, .istore 2, .iinc 3 1, .goto 4]),
  (35, none, [.ior, .istore 2, .iinc 3 1, .goto 4]),
  (43, none, [.iload 2, .ireturn])]
theorem tk_155 : bl_155.all (fun q => chk 155 q.1 q.2.2) = true := by decide +kernel
theorem py_155 : plainName (mN 155).cls = true := by decide +kernel
theorem ml_155 : mL 155 = 4 := rfl
/-- C.mostSeen -/
def bl_156 : Tb := [
  (0, none, [.iload 0, .lookupswitch 48 #[(0, 36), (1, 38), (2, 41), (3, 43), (4, 46)]]),
  (36, none, [.iconst 3, .ireturn]),
  (38, none, [.iconst 9, .ireturn]),
  (41, none, [.iconst 3, .ireturn]),
  (43, none, [.iconst 99, .ireturn]),
  (46, none, [.iconst 1, .ireturn]),
  (48, none, [.iconst (-1), .ireturn])]
theorem tk_156 : bl_156.all (fun q => chk 156 q.1 q.2.2) = true := by decide +kernel
theorem py_156 : plainName (mN 156).cls = true := by decide +kernel
theorem ml_156 : mL 156 = 1 := rfl
/-- C.fittingShips -/
def bl_157 : Tb := [
  (0, none, [.iconst 0, .istore 1, .iconst 0, .istore 2, .goto_w 4]),
  (4, some [0, 1, 2], [.iload 2, .aload 0, .getfield 2059, .getfield 1280, .if_icmp .ge 39, .iload 1, .aload 0, .iload 2, .invokevirtual 20248, .ifCond .eq 30, .iconst 1, .iload 2, .ishl, .goto 31]),
  (30, none, [.iconst 0, .ior, .istore 1, .iinc 2 1, .goto 4]),
  (31, none, [.ior, .istore 1, .iinc 2 1, .goto 4]),
  (39, none, [.iload 1, .ireturn])]
theorem tk_157 : bl_157.all (fun q => chk 157 q.1 q.2.2) = true := by decide +kernel
theorem py_157 : plainName (mN 157).cls = true := by decide +kernel
theorem ml_157 : mL 157 = 3 := rfl
/-- C.fitsAll -/
def bl_158 : Tb := [
  (0, none, [.iconst 0, .istore 2, .goto_w 2]),
  (2, some [0, 1, 2], [.iload 2, .aload 0, .getfield 2087, .getfield 268, .if_icmp .ge 45, .aload 0, .iload 1, .aload 0, .getfield 2087, .iload 2, .invokevirtual 1041, .aload 0, .getfield 2087, .iload 2, .invokevirtual 1169, .invokevirtual 20408, .ifCond .ne 39, .iconst 0, .freturn]),
  (39, none, [.iinc 2 1, .goto 2]),
  (45, none, [.iconst 1, .freturn])]
theorem tk_158 : bl_158.all (fun q => chk 158 q.1 q.2.2) = true := by decide +kernel
theorem py_158 : plainName (mN 158).cls = true := by decide +kernel
theorem ml_158 : mL 158 = 3 := rfl
/-- C.fitsSight -/
def bl_159 : Tb := [
  (0, none, [.iload 2, .lookupswitch 104 #[(0, 32), (1, 50), (2, 68), (3, 86)]]),
  (32, none, [.aload 0, .getfield 2059, .iload 1, .invokevirtual 5781, .iload 3, .if_icmp .ne 48, .iconst 1, .goto 49]),
  (48, none, [.iconst 0, .freturn]),
  (49, none, [.freturn]),
  (50, none, [.aload 0, .getfield 2059, .iload 1, .invokevirtual 5653, .iload 3, .if_icmp .lt 66, .iconst 1, .goto 67]),
  (66, none, [.iconst 0, .freturn]),
  (67, none, [.freturn]),
  (68, none, [.aload 0, .getfield 2059, .iload 1, .iload 3, .invokevirtual 6181, .ifCond .le 84, .iconst 1, .goto 85]),
  (84, none, [.iconst 0, .freturn]),
  (85, none, [.freturn]),
  (86, none, [.aload 0, .getfield 2059, .iload 1, .invokevirtual 5909, .iload 3, .if_icmp .lt 102, .iconst 1, .goto 103]),
  (102, none, [.iconst 0, .freturn]),
  (103, none, [.freturn]),
  (104, none, [.aload 0, .getfield 2059, .iload 1, .invokevirtual 6037, .ifCond .le 119, .iconst 1, .goto 120]),
  (119, none, [.iconst 0, .iload 3, .iconst 1, .if_icmp .ne 129, .iconst 1, .goto 130]),
  (120, none, [.iload 3, .iconst 1, .if_icmp .ne 129, .iconst 1, .goto 130]),
  (129, none, [.iconst 0, .if_icmp .ne 137, .iconst 1, .goto 138]),
  (130, none, [.if_icmp .ne 137, .iconst 1, .goto 138]),
  (137, none, [.iconst 0, .freturn]),
  (138, none, [.freturn])]
theorem tk_159 : bl_159.all (fun q => chk 159 q.1 q.2.2) = true := by decide +kernel
theorem py_159 : plainName (mN 159).cls = true := by decide +kernel
theorem ml_159 : mL 159 = 4 := rfl
/-- C.isCold -/
def bl_160 : Tb := [
  (0, none, [.iload 0, .ifCond .lt 25, .iload 0, .getstatic 4, .arraylength, .if_icmp .ge 25, .getstatic 4, .iload 0, .faload, .iload 1, .if_icmp .ne 25, .iconst 1, .goto 26]),
  (25, none, [.iconst 0, .freturn]),
  (26, none, [.freturn])]
theorem tk_160 : bl_160.all (fun q => chk 160 q.1 q.2.2) = true := by decide +kernel
theorem py_160 : plainName (mN 160).cls = true := by decide +kernel
theorem ml_160 : mL 160 = 2 := rfl
/-- C.isContent -/
def bl_161 : Tb := [
  (0, none, [.iload 0, .iload 1, .iload 2, .invokestatic 20784, .istore 3, .iconst 0, .istore 4, .goto_w 10]),
  (10, some [0, 2, 3, 4], [.iload 4, .iconst 9, .if_icmp .gt 36, .iload 0, .iload 4, .iload 2, .invokestatic 20784, .iload 3, .if_icmp .le 30, .iconst 0, .freturn]),
  (30, none, [.iinc 4 1, .goto 10]),
  (36, none, [.iconst 1, .freturn])]
theorem tk_161 : bl_161.all (fun q => chk 161 q.1 q.2.2) = true := by decide +kernel
theorem py_161 : plainName (mN 161).cls = true := by decide +kernel
theorem ml_161 : mL 161 = 5 := rfl
/-- C.gain -/
def bl_162 : Tb := [
  (0, none, [.iload 1, .iload 2, .if_icmp .le 9, .iload 0, .goto 21]),
  (9, none, [.iload 1, .iload 2, .if_icmp .ne 20, .iload 0, .iconst 2, .idiv, .goto 21]),
  (20, none, [.iconst 0, .istore 3, .iload 3, .iload 1, .isub, .iload 1, .iload 2, .isub, .iconst 3, .if_icmp .lt 36, .iconst 2, .goto 37]),
  (21, none, [.istore 3, .iload 3, .iload 1, .isub, .iload 1, .iload 2, .isub, .iconst 3, .if_icmp .lt 36, .iconst 2, .goto 37]),
  (36, none, [.iconst 0, .isub, .ireturn]),
  (37, none, [.isub, .ireturn])]
theorem tk_162 : bl_162.all (fun q => chk 162 q.1 q.2.2) = true := by decide +kernel
theorem py_162 : plainName (mN 162).cls = true := by decide +kernel
theorem ml_162 : mL 162 = 4 := rfl
/-- C.factorial -/
def bl_163 : Tb := [
  (0, none, [.iload 0, .ifCond .lt 20, .iload 0, .getstatic 3, .arraylength, .if_icmp .ge 20, .getstatic 3, .iload 0, .faload, .goto 21]),
  (20, none, [.iconst 0, .ireturn]),
  (21, none, [.ireturn])]
theorem tk_163 : bl_163.all (fun q => chk 163 q.1 q.2.2) = true := by decide +kernel
theorem py_163 : plainName (mN 163).cls = true := by decide +kernel
theorem ml_163 : mL 163 = 1 := rfl
/-- C.power -/
def bl_164 : Tb := [
  (0, none, [.ldc2_w 1, .lstore 2, .iconst 0, .istore 4, .goto_w 5]),
  (5, some [0, 1, 2, 4], [.iload 4, .iload 1, .if_icmp .ge 22, .lload 2, .iload 0, .i2l, .lmul, .lstore 2, .iinc 4 1, .goto 5]),
  (22, none, [.lload 2, .lreturn])]
theorem tk_164 : bl_164.all (fun q => chk 164 q.1 q.2.2) = true := by decide +kernel
theorem py_164 : plainName (mN 164).cls = true := by decide +kernel
theorem ml_164 : mL 164 = 5 := rfl
/-- M.thrown -/
def bl_166 : Tb := [
  (0, none, [.aload 0, .getfield 2336, .ireturn])]
theorem tk_166 : bl_166.all (fun q => chk 166 q.1 q.2.2) = true := by decide +kernel
theorem py_166 : plainName (mN 166).cls = true := by decide +kernel
theorem ml_166 : mL 166 = 1 := rfl
/-- M.in -/
def bl_167 : Tb := [
  (0, none, [.iload 0, .iload 1, .if_icmp .lt 14, .iload 0, .iload 2, .if_icmp .gt 14, .iconst 1, .goto 15]),
  (14, none, [.iconst 0, .freturn]),
  (15, none, [.freturn])]
theorem tk_167 : bl_167.all (fun q => chk 167 q.1 q.2.2) = true := by decide +kernel
theorem py_167 : plainName (mN 167).cls = true := by decide +kernel
theorem ml_167 : mL 167 = 3 := rfl
/-- M.has -/
def bl_168 : Tb := [
  (0, none, [.iload 0, .iload 1, .ishr, .iconst 1, .iand, .iconst 1, .if_icmp .ne 13, .iconst 1, .goto 14]),
  (13, none, [.iconst 0, .freturn]),
  (14, none, [.freturn])]
theorem tk_168 : bl_168.all (fun q => chk 168 q.1 q.2.2) = true := by decide +kernel
theorem py_168 : plainName (mN 168).cls = true := by decide +kernel
theorem ml_168 : mL 168 = 2 := rfl
/-- M.lost -/
def bl_169 : Tb := [
  (0, none, [.aload 0, .iconst 1, .putfield 2336, .iconst 0, .ireturn])]
theorem tk_169 : bl_169.all (fun q => chk 169 q.1 q.2.2) = true := by decide +kernel
theorem py_169 : plainName (mN 169).cls = true := by decide +kernel
theorem ml_169 : mL 169 = 1 := rfl
/-- M.tell -/
def bl_170 : Tb := [
  (0, none, [.aload 0, .getfield 2331, .aload 0, .getfield 2332, .lload 1, .lastore, .aload 0, .dup, .getfield 2332, .iconst 1, .iadd, .putfield 2332, .return_])]
theorem tk_170 : bl_170.all (fun q => chk 170 q.1 q.2.2) = true := by decide +kernel
theorem py_170 : plainName (mN 170).cls = true := by decide +kernel
theorem ml_170 : mL 170 = 3 := rfl
/-- M.isShip -/
def bl_171 : Tb := [
  (0, none, [.iload 1, .iconst 0, .aload 0, .getfield 2308, .iconst 1, .isub, .invokestatic 21424, .freturn])]
theorem tk_171 : bl_171.all (fun q => chk 171 q.1 q.2.2) = true := by decide +kernel
theorem py_171 : plainName (mN 171).cls = true := by decide +kernel
theorem ml_171 : mL 171 = 2 := rfl
/-- M.areTwo -/
def bl_172 : Tb := [
  (0, none, [.aload 0, .iload 1, .invokevirtual 21913, .ifCond .eq 25, .aload 0, .iload 2, .invokevirtual 21913, .ifCond .eq 25, .iload 1, .iload 2, .if_icmp .eq 25, .iconst 1, .goto 26]),
  (25, none, [.iconst 0, .freturn]),
  (26, none, [.freturn])]
theorem tk_172 : bl_172.all (fun q => chk 172 q.1 q.2.2) = true := by decide +kernel
theorem py_172 : plainName (mN 172).cls = true := by decide +kernel
theorem ml_172 : mL 172 = 3 := rfl
/-- M.isSide -/
def bl_173 : Tb := [
  (0, none, [.iload 0, .iconst 0, .iconst 3, .invokestatic 21424, .freturn])]
theorem tk_173 : bl_173.all (fun q => chk 173 q.1 q.2.2) = true := by decide +kernel
theorem py_173 : plainName (mN 173).cls = true := by decide +kernel
theorem ml_173 : mL 173 = 1 := rfl
/-- M.all -/
def bl_174 : Tb := [
  (0, none, [.iconst 1, .aload 0, .getfield 2308, .ishl, .iconst 1, .isub, .ireturn])]
theorem tk_174 : bl_174.all (fun q => chk 174 q.1 q.2.2) = true := by decide +kernel
theorem py_174 : plainName (mN 174).cls = true := by decide +kernel
theorem ml_174 : mL 174 = 1 := rfl
/-- M.part -/
def bl_175 : Tb := [
  (0, none, [.aload 0, .iconst 12, .iconst 4, .iload 1, .imul, .iadd, .iload 2, .iadd, .iaload, .ireturn])]
theorem tk_175 : bl_175.all (fun q => chk 175 q.1 q.2.2) = true := by decide +kernel
theorem py_175 : plainName (mN 175).cls = true := by decide +kernel
theorem ml_175 : mL 175 = 3 := rfl
/-- M.own -/
def bl_176 : Tb := [
  (0, none, [.aload 0, .iload 1, .aload 0, .iconst 6, .iload 1, .iadd, .iaload, .invokestatic 22448, .ireturn])]
theorem tk_176 : bl_176.all (fun q => chk 176 q.1 q.2.2) = true := by decide +kernel
theorem py_176 : plainName (mN 176).cls = true := by decide +kernel
theorem ml_176 : mL 176 = 2 := rfl
/-- M.sign -/
def bl_177 : Tb := [
  (0, none, [.aload 0, .iconst 0, .putfield 2336, .aload 0, .getfield 2324, .iconst 4, .iadd, .iconst 80, .if_icmp .le 18, .iconst (-1), .ireturn]),
  (18, none, [.iconst 3, .istore 2, .goto_w 20]),
  (20, some [0, 1, 2], [.iload 2, .ifCond .lt 53, .aload 0, .getfield 2323, .aload 0, .dup, .getfield 2324, .dup_x1, .iconst 1, .iadd, .putfield 2324, .iload 1, .iconst 8, .iload 2, .imul, .ishr, .i2b, .bastore, .iinc 2 (-1), .goto 20]),
  (53, none, [.aload 0, .getfield 2324, .ireturn])]
theorem tk_177 : bl_177.all (fun q => chk 177 q.1 q.2.2) = true := by decide +kernel
theorem py_177 : plainName (mN 177).cls = true := by decide +kernel
theorem ml_177 : mL 177 = 3 := rfl
/-- M.end -/
def bl_178 : Tb := [
  (0, none, [.aload 0, .iconst 0, .putfield 2336, .iload 1, .iconst 0, .aload 0, .getfield 2324, .invokestatic 21424, .ifCond .ne 19, .iconst 0, .freturn]),
  (19, none, [.aload 0, .iload 1, .putfield 2324, .iconst 1, .freturn])]
theorem tk_178 : bl_178.all (fun q => chk 178 q.1 q.2.2) = true := by decide +kernel
theorem py_178 : plainName (mN 178).cls = true := by decide +kernel
theorem ml_178 : mL 178 = 2 := rfl
/-- M.begin -/
def bl_179 : Tb := [
  (0, none, [.aload 0, .aload 1, .putfield 2342, .aload 0, .iload 2, .putfield 2344, .aload 0, .iload 3, .putfield 2348, .aload 0, .iconst 0, .putfield 2352, .aload 0, .iconst (-1), .putfield 2356, .return_])]
theorem tk_179 : bl_179.all (fun q => chk 179 q.1 q.2.2) = true := by decide +kernel
theorem py_179 : plainName (mN 179).cls = true := by decide +kernel
theorem ml_179 : mL 179 = 4 := rfl
/-- M.beginText -/
def bl_180 : Tb := [
  (0, none, [.aload 0, .aload 0, .getfield 2323, .aload 0, .getfield 2324, .iload 1, .invokevirtual 22969, .aload 0, .iconst 0, .putfield 2324, .return_])]
theorem tk_180 : bl_180.all (fun q => chk 180 q.1 q.2.2) = true := by decide +kernel
theorem py_180 : plainName (mN 180).cls = true := by decide +kernel
theorem ml_180 : mL 180 = 2 := rfl
/-- M.here -/
def bl_181 : Tb := [
  (0, none, [.aload 0, .getfield 2352, .aload 0, .getfield 2344, .if_icmp .ge 38, .aload 0, .getfield 2352, .aload 0, .getfield 2348, .if_icmp .ge 38, .aload 0, .getfield 2342, .aload 0, .getfield 2352, .baload, .iconst 255, .iand, .goto 39]),
  (38, none, [.iconst (-1), .ireturn]),
  (39, none, [.ireturn])]
theorem tk_181 : bl_181.all (fun q => chk 181 q.1 q.2.2) = true := by decide +kernel
theorem py_181 : plainName (mN 181).cls = true := by decide +kernel
theorem ml_181 : mL 181 = 1 := rfl
/-- M.fine -/
def bl_182 : Tb := [
  (0, none, [.aload 0, .getfield 2356, .iconst (-1), .if_icmp .ne 12, .iconst 1, .goto 13]),
  (12, none, [.iconst 0, .freturn]),
  (13, none, [.freturn])]
theorem tk_182 : bl_182.all (fun q => chk 182 q.1 q.2.2) = true := by decide +kernel
theorem py_182 : plainName (mN 182).cls = true := by decide +kernel
theorem ml_182 : mL 182 = 1 := rfl
/-- M.fault -/
def bl_183 : Tb := [
  (0, none, [.aload 0, .invokevirtual 23305, .ifCond .eq 12, .aload 0, .iload 1, .putfield 2356, .return_]),
  (12, none, [.return_])]
theorem tk_183 : bl_183.all (fun q => chk 183 q.1 q.2.2) = true := by decide +kernel
theorem py_183 : plainName (mN 183).cls = true := by decide +kernel
theorem ml_183 : mL 183 = 2 := rfl
/-- M.passes -/
def bl_184 : Tb := [
  (0, none, [.aload 0, .invokevirtual 23305, .ifCond .eq 15, .aload 0, .invokevirtual 23177, .iload 1, .if_icmp .eq 17, .iconst 0, .freturn]),
  (15, none, [.iconst 0, .freturn]),
  (17, none, [.aload 0, .dup, .getfield 2352, .iconst 1, .iadd, .putfield 2352, .iconst 1, .freturn])]
theorem tk_184 : bl_184.all (fun q => chk 184 q.1 q.2.2) = true := by decide +kernel
theorem py_184 : plainName (mN 184).cls = true := by decide +kernel
theorem ml_184 : mL 184 = 2 := rfl
/-- M.need -/
def bl_185 : Tb := [
  (0, none, [.aload 0, .iload 1, .invokevirtual 23577, .ifCond .ne 16, .aload 0, .aload 0, .getfield 2352, .invokevirtual 23449, .return_]),
  (16, none, [.return_])]
theorem tk_185 : bl_185.all (fun q => chk 185 q.1 q.2.2) = true := by decide +kernel
theorem py_185 : plainName (mN 185).cls = true := by decide +kernel
theorem ml_185 : mL 185 = 2 := rfl
/-- M.oneOf -/
def bl_186 : Tb := [
  (0, none, [.aload 0, .invokevirtual 23305, .ifCond .ne 9, .iconst 0, .ireturn]),
  (9, none, [.aload 0, .invokevirtual 23177, .iload 1, .iload 1, .iload 2, .iadd, .iconst 1, .isub, .invokestatic 21424, .ifCond .ne 35, .aload 0, .aload 0, .getfield 2352, .invokevirtual 23449, .iconst 0, .ireturn]),
  (35, none, [.aload 0, .dup, .getfield 2352, .iconst 1, .iadd, .putfield 2352, .aload 0, .getfield 2342, .aload 0, .getfield 2352, .iconst 1, .isub, .baload, .iload 1, .isub, .ireturn])]
theorem tk_186 : bl_186.all (fun q => chk 186 q.1 q.2.2) = true := by decide +kernel
theorem py_186 : plainName (mN 186).cls = true := by decide +kernel
theorem ml_186 : mL 186 = 3 := rfl
/-- M.number -/
def bl_187 : Tb := [
  (0, none, [.aload 0, .iconst 48, .iconst 10, .invokevirtual 23849, .istore 2, .iconst 1, .istore 3, .goto_w 11]),
  (11, some [0, 1, 2, 3], [.iload 3, .iload 1, .if_icmp .ge 57, .aload 0, .invokevirtual 23305, .ifCond .eq 57, .aload 0, .invokevirtual 23177, .iconst 48, .iconst 57, .invokestatic 21424, .ifCond .eq 57, .iconst 10, .iload 2, .imul, .aload 0, .iconst 48, .iconst 10, .invokevirtual 23849, .iadd, .istore 2, .iinc 3 1, .goto 11]),
  (57, none, [.iload 2, .ireturn])]
theorem tk_187 : bl_187.all (fun q => chk 187 q.1 q.2.2) = true := by decide +kernel
theorem py_187 : plainName (mN 187).cls = true := by decide +kernel
theorem ml_187 : mL 187 = 4 := rfl
/-- M.wasRight -/
def bl_188 : Tb := [
  (0, none, [.aload 0, .getfield 2352, .aload 0, .getfield 2344, .if_icmp .ge 19, .aload 0, .aload 0, .getfield 2352, .invokevirtual 23449, .aload 0, .invokevirtual 23305, .freturn]),
  (19, none, [.aload 0, .invokevirtual 23305, .freturn])]
theorem tk_188 : bl_188.all (fun q => chk 188 q.1 q.2.2) = true := by decide +kernel
theorem py_188 : plainName (mN 188).cls = true := by decide +kernel
theorem ml_188 : mL 188 = 1 := rfl
/-- M.ships -/
def bl_189 : Tb := [
  (0, none, [.aload 0, .iconst 0, .putfield 2336, .aload 0, .iconst 17, .invokevirtual 23065, .aload 0, .getfield 2344, .ifCond .ne 20, .iconst 0, .ireturn]),
  (20, none, [.iconst 0, .istore 1, .iconst 1, .istore 2, .goto_w 24]),
  (24, some [0, 1, 2], [.iload 2, .ifCond .eq 105, .aload 0, .invokevirtual 23305, .ifCond .eq 105, .aload 0, .getfield 2308, .iload 1, .iadd, .iconst 6, .if_icmp .ne 57, .aload 0, .aload 0, .getfield 2352, .invokevirtual 23449, .goto 92]),
  (57, none, [.aload 0, .getfield 2363, .iconst 2, .iload 1, .imul, .aload 0, .iconst 97, .iconst 4, .invokevirtual 23849, .iastore, .aload 0, .getfield 2363, .iconst 2, .iload 1, .imul, .iconst 1, .iadd, .aload 0, .iconst 49, .iconst 9, .invokevirtual 23849, .iconst 1, .iadd, .iastore, .iinc 1 1, .aload 0, .iconst 59, .invokevirtual 23577, .istore 2, .goto 24]),
  (92, none, [.iinc 1 1, .aload 0, .iconst 59, .invokevirtual 23577, .istore 2, .goto 24]),
  (105, none, [.aload 0, .invokevirtual 24073, .ifCond .ne 119, .iconst (-1), .aload 0, .getfield 2356, .isub, .ireturn]),
  (119, none, [.iconst 0, .istore 3, .goto_w 121]),
  (121, some [0, 1, 3], [.iload 3, .iload 1, .if_icmp .ge 276, .aload 0, .getfield 2319, .aload 0, .getfield 2308, .aload 0, .getfield 2363, .iconst 2, .iload 3, .imul, .iconst 1, .iadd, .iaload, .iastore, .aload 0, .getfield 2307, .aload 0, .getfield 2308, .aload 0, .getfield 2319, .aload 0, .getfield 2308, .iaload, .iastore, .aload 0, .getfield 2307, .iconst 6, .aload 0, .getfield 2308, .iadd, .aload 0, .getfield 2363, .iconst 2, .iload 3, .imul, .iaload, .iastore, .iconst 0, .istore 4, .goto_w 186]),
  (186, some [0, 1, 3, 4], [.iload 4, .iconst 4, .if_icmp .ge 234, .aload 0, .getfield 2307, .iconst 12, .iconst 4, .aload 0, .getfield 2308, .imul, .iadd, .iload 4, .iadd, .iload 4, .aload 0, .getfield 2363, .iconst 2, .iload 3, .imul, .iaload, .if_icmp .ne 226, .iconst 12, .goto 227]),
  (226, none, [.iconst 0, .iastore, .iinc 4 1, .goto 186]),
  (227, none, [.iastore, .iinc 4 1, .goto 186]),
  (234, none, [.aload 0, .getfield 2307, .iconst 36, .aload 0, .getfield 2308, .iadd, .iconst 0, .iastore, .aload 0, .getfield 2307, .iconst 42, .aload 0, .getfield 2308, .iadd, .iconst 0, .iastore, .aload 0, .dup, .getfield 2308, .iconst 1, .iadd, .putfield 2308, .iinc 3 1, .goto 121]),
  (276, none, [.aload 0, .iconst 0, .putfield 2388, .aload 0, .dup, .getfield 2452, .iconst 1, .iadd, .putfield 2452, .iload 1, .ireturn])]
theorem tk_189 : bl_189.all (fun q => chk 189 q.1 q.2.2) = true := by decide +kernel
theorem py_189 : plainName (mN 189).cls = true := by decide +kernel
theorem ml_189 : mL 189 = 5 := rfl
/-- M.held -/
def bl_190 : Tb := [
  (0, none, [.aload 0, .iload 1, .invokevirtual 24473, .istore 2, .aload 0, .iconst 60, .invokevirtual 23577, .ifCond .eq 30, .iload 2, .aload 0, .iload 1, .invokevirtual 24473, .if_icmp .ge 28, .iconst 1, .goto 29]),
  (28, none, [.iconst 0, .ireturn]),
  (29, none, [.ireturn]),
  (30, none, [.aload 0, .iconst 62, .invokevirtual 23577, .ifCond .eq 54, .iload 2, .aload 0, .iload 1, .invokevirtual 24473, .if_icmp .le 52, .iconst 1, .goto 53]),
  (52, none, [.iconst 0, .ireturn]),
  (53, none, [.ireturn]),
  (54, none, [.aload 0, .iconst 61, .invokevirtual 23577, .ifCond .eq 78, .iload 2, .aload 0, .iload 1, .invokevirtual 24473, .if_icmp .ne 76, .iconst 1, .goto 77]),
  (76, none, [.iconst 0, .ireturn]),
  (77, none, [.ireturn]),
  (78, none, [.iload 2, .ireturn])]
theorem tk_190 : bl_190.all (fun q => chk 190 q.1 q.2.2) = true := by decide +kernel
theorem py_190 : plainName (mN 190).cls = true := by decide +kernel
theorem ml_190 : mL 190 = 3 := rfl
/-- M.sum -/
def bl_191 : Tb := [
  (0, none, [.aload 0, .iload 1, .invokevirtual 24601, .istore 2, .goto_w 6]),
  (6, some [0, 1, 2], [.aload 0, .invokevirtual 23305, .ifCond .eq 82, .aload 0, .invokevirtual 23177, .iconst 43, .if_icmp .eq 31, .aload 0, .invokevirtual 23177, .iconst 45, .if_icmp .ne 82, .aload 0, .invokevirtual 23177, .iconst 43, .if_icmp .ne 44, .iconst 1, .goto 45]),
  (31, none, [.aload 0, .invokevirtual 23177, .iconst 43, .if_icmp .ne 44, .iconst 1, .goto 45]),
  (44, none, [.iconst 0, .istore 3, .aload 0, .dup, .getfield 2352, .iconst 1, .iadd, .putfield 2352, .aload 0, .iload 1, .invokevirtual 24601, .istore 4, .iload 3, .ifCond .eq 74, .iload 2, .iload 4, .iadd, .goto 78]),
  (45, none, [.istore 3, .aload 0, .dup, .getfield 2352, .iconst 1, .iadd, .putfield 2352, .aload 0, .iload 1, .invokevirtual 24601, .istore 4, .iload 3, .ifCond .eq 74, .iload 2, .iload 4, .iadd, .goto 78]),
  (74, none, [.iload 2, .iload 4, .isub, .istore 2, .goto 6]),
  (78, none, [.istore 2, .goto 6]),
  (82, none, [.iload 2, .ireturn])]
theorem tk_191 : bl_191.all (fun q => chk 191 q.1 q.2.2) = true := by decide +kernel
theorem py_191 : plainName (mN 191).cls = true := by decide +kernel
theorem ml_191 : mL 191 = 5 := rfl
/-- M.product -/
def bl_192 : Tb := [
  (0, none, [.aload 0, .iload 1, .invokevirtual 24857, .istore 2, .goto_w 6]),
  (6, some [0, 1, 2], [.aload 0, .invokevirtual 23305, .ifCond .eq 91, .aload 0, .invokevirtual 23177, .iconst 42, .if_icmp .eq 31, .aload 0, .invokevirtual 23177, .iconst 47, .if_icmp .ne 91, .aload 0, .invokevirtual 23177, .iconst 42, .if_icmp .ne 44, .iconst 1, .goto 45]),
  (31, none, [.aload 0, .invokevirtual 23177, .iconst 42, .if_icmp .ne 44, .iconst 1, .goto 45]),
  (44, none, [.iconst 0, .istore 3, .aload 0, .dup, .getfield 2352, .iconst 1, .iadd, .putfield 2352, .aload 0, .iload 1, .invokevirtual 24857, .istore 4, .iload 3, .ifCond .eq 74, .iload 2, .iload 4, .imul, .goto 87]),
  (45, none, [.istore 3, .aload 0, .dup, .getfield 2352, .iconst 1, .iadd, .putfield 2352, .aload 0, .iload 1, .invokevirtual 24857, .istore 4, .iload 3, .ifCond .eq 74, .iload 2, .iload 4, .imul, .goto 87]),
  (74, none, [.iload 4, .ifCond .ne 83, .iconst 0, .goto 87]),
  (83, none, [.iload 2, .iload 4, .idiv, .istore 2, .goto 6]),
  (87, none, [.istore 2, .goto 6]),
  (91, none, [.iload 2, .ireturn])]
theorem tk_192 : bl_192.all (fun q => chk 192 q.1 q.2.2) = true := by decide +kernel
theorem py_192 : plainName (mN 192).cls = true := by decide +kernel
theorem ml_192 : mL 192 = 5 := rfl
/-- M.letterOf -/
def bl_193 : Tb := [
  (0, none, [.iload 0, .iconst 115, .if_icmp .ne 10, .iconst 0, .goto 61]),
  (10, none, [.iload 0, .iconst 111, .if_icmp .ne 20, .iconst 1, .goto 61]),
  (20, none, [.iload 0, .iconst 101, .if_icmp .ne 30, .iconst 2, .goto 61]),
  (30, none, [.iload 0, .iconst 119, .if_icmp .ne 40, .iconst 3, .goto 61]),
  (40, none, [.iload 0, .iconst 108, .if_icmp .ne 50, .iconst 4, .goto 61]),
  (50, none, [.iload 0, .iconst 110, .if_icmp .ne 60, .iconst 5, .goto 61]),
  (60, none, [.iconst (-1), .ireturn]),
  (61, none, [.ireturn])]
theorem tk_193 : bl_193.all (fun q => chk 193 q.1 q.2.2) = true := by decide +kernel
theorem py_193 : plainName (mN 193).cls = true := by decide +kernel
theorem ml_193 : mL 193 = 1 := rfl
/-- M.thing -/
def bl_194 : Tb := [
  (0, none, [.aload 0, .iconst 45, .invokevirtual 23577, .ifCond .eq 16, .aload 0, .iload 1, .invokevirtual 24857, .ineg, .ireturn]),
  (16, none, [.aload 0, .invokevirtual 23305, .ifCond .ne 25, .iconst 0, .ireturn]),
  (25, none, [.aload 0, .invokevirtual 23177, .istore 2, .iload 2, .iconst 40, .if_icmp .ne 67, .iload 1, .iconst 4, .if_icmp .ge 67, .aload 0, .dup, .getfield 2352, .iconst 1, .iadd, .putfield 2352, .aload 0, .iload 1, .iconst 1, .iadd, .invokevirtual 24345, .istore 3, .aload 0, .iconst 41, .invokevirtual 23705, .iload 3, .ireturn]),
  (67, none, [.iload 2, .iconst 48, .iconst 57, .invokestatic 21424, .ifCond .eq 84, .aload 0, .iconst 3, .invokevirtual 23961, .ireturn]),
  (84, none, [.iload 2, .invokestatic 24720, .iconst (-1), .if_icmp .ne 102, .aload 0, .aload 0, .getfield 2352, .invokevirtual 23449, .iconst 0, .ireturn]),
  (102, none, [.aload 0, .dup, .getfield 2352, .iconst 1, .iadd, .putfield 2352, .aload 0, .getfield 2377, .ifCond .eq 131, .aload 0, .getfield 2383, .iload 2, .invokestatic 24720, .iaload, .goto 132]),
  (131, none, [.iconst 0, .ireturn]),
  (132, none, [.ireturn])]
theorem tk_194 : bl_194.all (fun q => chk 194 q.1 q.2.2) = true := by decide +kernel
theorem py_194 : plainName (mN 194).cls = true := by decide +kernel
theorem ml_194 : mL 194 = 4 := rfl
/-- M.readRule -/
def bl_195 : Tb := [
  (0, none, [.aload 0, .iconst 40, .invokevirtual 23065, .aload 0, .iconst 0, .putfield 2377, .aload 0, .getfield 2344, .ifCond .le 24, .aload 0, .iconst 0, .invokevirtual 24345, .pop, .aload 0, .invokevirtual 24073, .freturn]),
  (24, none, [.aload 0, .invokevirtual 24073, .freturn])]
theorem tk_195 : bl_195.all (fun q => chk 195 q.1 q.2.2) = true := by decide +kernel
theorem py_195 : plainName (mN 195).cls = true := by decide +kernel
theorem ml_195 : mL 195 = 1 := rfl
/-- M.rule -/
def bl_196 : Tb := [
  (0, none, [.aload 0, .iconst 0, .putfield 2336, .aload 0, .getfield 2324, .istore 1, .aload 0, .invokevirtual 24969, .ifCond .ne 24, .iconst (-1), .aload 0, .getfield 2356, .isub, .ireturn]),
  (24, none, [.iconst 0, .istore 2, .goto_w 26]),
  (26, some [0, 1, 2], [.iload 2, .iload 1, .if_icmp .ge 49, .aload 0, .getfield 2366, .iload 2, .aload 0, .getfield 2323, .iload 2, .baload, .bastore, .iinc 2 1, .goto 26]),
  (49, none, [.aload 0, .iload 1, .putfield 2372, .iconst 0, .ireturn])]
theorem tk_196 : bl_196.all (fun q => chk 196 q.1 q.2.2) = true := by decide +kernel
theorem py_196 : plainName (mN 196).cls = true := by decide +kernel
theorem ml_196 : mL 196 = 3 := rfl
/-- M.forceOf -/
def bl_197 : Tb := [
  (0, none, [.aload 1, .iload 2, .aload 1, .iconst 6, .iload 3, .iadd, .iaload, .invokestatic 22448, .istore 4, .aload 0, .getfield 2372, .ifCond .ne 35, .aload 1, .iload 2, .iaload, .iconst 2, .imul, .aload 1, .iload 2, .invokestatic 22560, .iadd, .iload 4, .isub, .ireturn]),
  (35, none, [.aload 0, .getfield 2383, .iconst 0, .aload 1, .iload 2, .iaload, .iastore, .aload 0, .getfield 2383, .iconst 1, .aload 1, .iload 2, .invokestatic 22560, .iastore, .aload 0, .getfield 2383, .iconst 2, .iload 4, .iastore, .aload 0, .getfield 2383, .iconst 3, .aload 1, .iconst 36, .iload 2, .iadd, .iaload, .iastore, .aload 0, .getfield 2383, .iconst 4, .aload 1, .iconst 42, .iload 2, .iadd, .iaload, .iastore, .aload 0, .getfield 2383, .iconst 5, .aload 1, .iconst 48, .iaload, .iconst 7, .irem, .iastore, .aload 0, .aload 0, .getfield 2366, .aload 0, .getfield 2372, .iconst 40, .invokevirtual 22969, .aload 0, .iconst 1, .putfield 2377, .aload 0, .iconst 0, .invokevirtual 24345, .istore 5, .aload 0, .iconst 0, .putfield 2377, .iload 5, .ireturn])]
theorem tk_197 : bl_197.all (fun q => chk 197 q.1 q.2.2) = true := by decide +kernel
theorem py_197 : plainName (mN 197).cls = true := by decide +kernel
theorem ml_197 : mL 197 = 6 := rfl
/-- M.ship -/
def bl_198 : Tb := [
  (0, none, [.aload 0, .iconst 0, .putfield 2336, .aload 0, .iload 1, .invokevirtual 21913, .ifCond .eq 23, .iload 2, .iconst 0, .iconst 8, .invokestatic 21424, .ifCond .ne 28, .aload 0, .invokevirtual 21641, .ireturn]),
  (23, none, [.aload 0, .invokevirtual 21641, .ireturn]),
  (28, none, [.iload 2, .lookupswitch 124 #[(0, 80), (1, 87), (2, 94), (3, 124), (4, 124), (5, 124), (6, 124), (7, 104), (8, 114)]]),
  (80, none, [.aload 0, .getfield 2319, .iload 1, .iaload, .ireturn]),
  (87, none, [.aload 0, .getfield 2307, .iload 1, .iaload, .ireturn]),
  (94, none, [.aload 0, .getfield 2307, .iconst 6, .iload 1, .iadd, .iaload, .ireturn]),
  (104, none, [.aload 0, .getfield 2307, .iconst 36, .iload 1, .iadd, .iaload, .ireturn]),
  (114, none, [.aload 0, .getfield 2307, .iconst 42, .iload 1, .iadd, .iaload, .ireturn]),
  (124, none, [.aload 0, .getfield 2307, .iload 1, .iload 2, .iconst 3, .isub, .invokestatic 22448, .ireturn])]
theorem tk_198 : bl_198.all (fun q => chk 198 q.1 q.2.2) = true := by decide +kernel
theorem py_198 : plainName (mN 198).cls = true := by decide +kernel
theorem ml_198 : mL 198 = 3 := rfl
/-- M.force -/
def bl_199 : Tb := [
  (0, none, [.aload 0, .iconst 0, .putfield 2336, .aload 0, .iload 1, .iload 2, .invokevirtual 22057, .ifCond .eq 43, .iconst 1000, .iconst (-999), .iconst 999, .aload 0, .aload 0, .getfield 2307, .iload 1, .iload 2, .invokevirtual 25273, .invokestatic 37024, .invokestatic 36896, .iadd, .goto 44]),
  (43, none, [.iconst (-1), .ireturn]),
  (44, none, [.ireturn])]
theorem tk_199 : bl_199.all (fun q => chk 199 q.1 q.2.2) = true := by decide +kernel
theorem py_199 : plainName (mN 199).cls = true := by decide +kernel
theorem ml_199 : mL 199 = 3 := rfl
end
section
/-! the methods' code, 200 to 249 -/
/-- M.take -/
def bl_200 : Tb := [
  (0, none, [.aload 0, .iconst 0, .putfield 2336, .iload 1, .iconst 1, .iconst 6, .invokestatic 21424, .ifCond .ne 17, .iconst (-1), .ireturn]),
  (17, none, [.aload 0, .getfield 2312, .istore 2, .aload 0, .iload 1, .putfield 2312, .iload 2, .ireturn])]
theorem tk_200 : bl_200.all (fun q => chk 200 q.1 q.2.2) = true := by decide +kernel
theorem py_200 : plainName (mN 200).cls = true := by decide +kernel
theorem ml_200 : mL 200 = 3 := rfl
/-- M.sumOf -/
def bl_201 : Tb := [
  (0, none, [.iconst 0, .istore 3, .iconst 0, .istore 4, .goto_w 5]),
  (5, some [0, 1, 2, 3, 4], [.iload 4, .aload 0, .getfield 2308, .if_icmp .ge 29, .iload 3, .aload 1, .iload 2, .iload 4, .iadd, .iaload, .iadd, .istore 3, .iinc 4 1, .goto 5]),
  (29, none, [.iload 3, .ireturn])]
theorem tk_201 : bl_201.all (fun q => chk 201 q.1 q.2.2) = true := by decide +kernel
theorem py_201 : plainName (mN 201).cls = true := by decide +kernel
theorem ml_201 : mL 201 = 5 := rfl
/-- M.sheet -/
def bl_202 : Tb := [
  (0, none, [.aload 0, .iconst 0, .putfield 2336, .iload 1, .iconst 0, .iconst 3, .invokestatic 21424, .ifCond .eq 20, .iload 2, .iconst 6, .if_icmp .le 22, .iconst (-1), .ireturn]),
  (20, none, [.iconst (-1), .ireturn]),
  (22, none, [.iload 1, .iconst 3, .if_icmp .ge 34, .iload 2, .ifCond .ge 34, .iconst (-2), .ireturn]),
  (34, none, [.iload 3, .istore 5, .iconst 0, .istore 6, .goto_w 40]),
  (40, some [0, 1, 2, 4, 5, 6], [.iload 6, .aload 0, .getfield 2308, .if_icmp .ge 125, .iload 1, .ifCond .ne 59, .iload 5, .i2b, .goto 72]),
  (59, none, [.iload 1, .iconst 1, .if_icmp .ne 70, .iload 5, .i2s, .goto 72]),
  (70, none, [.iload 5, .istore 7, .aload 0, .getfield 2307, .iload 6, .iload 1, .iconst 3, .if_icmp .eq 91, .iload 6, .iload 2, .if_icmp .lt 95, .iconst 0, .goto 111]),
  (72, none, [.istore 7, .aload 0, .getfield 2307, .iload 6, .iload 1, .iconst 3, .if_icmp .eq 91, .iload 6, .iload 2, .if_icmp .lt 95, .iconst 0, .goto 111]),
  (91, none, [.iconst 0, .goto 111]),
  (95, none, [.iconst 0, .aload 0, .getfield 2319, .iload 6, .iaload, .iload 7, .invokestatic 37024, .invokestatic 36896, .iastore, .iload 5, .iload 4, .iadd, .istore 5, .iinc 6 1, .goto 40]),
  (111, none, [.iastore, .iload 5, .iload 4, .iadd, .istore 5, .iinc 6 1, .goto 40]),
  (125, none, [.iload 1, .iconst 3, .if_icmp .ne 135, .iconst (-3), .goto 144]),
  (135, none, [.aload 0, .aload 0, .getfield 2307, .iconst 0, .invokevirtual 25769, .ireturn]),
  (144, none, [.ireturn])]
theorem tk_202 : bl_202.all (fun q => chk 202 q.1 q.2.2) = true := by decide +kernel
theorem py_202 : plainName (mN 202).cls = true := by decide +kernel
theorem ml_202 : mL 202 = 8 := rfl
/-- M.lay -/
def bl_203 : Tb := [
  (0, none, [.iconst 0, .istore 3, .goto_w 2]),
  (2, some [0, 1, 2, 3], [.iload 3, .iconst 50, .if_icmp .ge 22, .aload 1, .iload 2, .iload 3, .iadd, .aload 0, .iload 3, .iaload, .iastore, .iinc 3 1, .goto 2]),
  (22, none, [.return_])]
theorem tk_203 : bl_203.all (fun q => chk 203 q.1 q.2.2) = true := by decide +kernel
theorem py_203 : plainName (mN 203).cls = true := by decide +kernel
theorem ml_203 : mL 203 = 4 := rfl
/-- M.remember -/
def bl_204 : Tb := [
  (0, none, [.aload 0, .getfield 2388, .iconst 12, .if_icmp .ne 49, .iconst 0, .istore 2, .goto_w 11]),
  (11, some [0, 1, 2], [.iload 2, .iconst 550, .if_icmp .ge 39, .aload 0, .getfield 2387, .iload 2, .aload 0, .getfield 2387, .iload 2, .iconst 50, .iadd, .iaload, .iastore, .iinc 2 1, .goto 11]),
  (39, none, [.aload 0, .dup, .getfield 2388, .iconst 1, .isub, .putfield 2388, .aload 1, .aload 0, .getfield 2387, .iconst 50, .aload 0, .getfield 2388, .imul, .invokestatic 26032, .aload 0, .dup, .getfield 2388, .iconst 1, .iadd, .putfield 2388, .return_]),
  (49, none, [.aload 1, .aload 0, .getfield 2387, .iconst 50, .aload 0, .getfield 2388, .imul, .invokestatic 26032, .aload 0, .dup, .getfield 2388, .iconst 1, .iadd, .putfield 2388, .return_])]
theorem tk_204 : bl_204.all (fun q => chk 204 q.1 q.2.2) = true := by decide +kernel
theorem py_204 : plainName (mN 204).cls = true := by decide +kernel
theorem ml_204 : mL 204 = 3 := rfl
/-- M.goOver -/
def bl_205 : Tb := [
  (0, none, [.iconst 0, .istore 2, .iconst 1, .istore 3, .goto_w 4]),
  (4, some [0, 1, 2, 3], [.iload 3, .iconst 4, .if_icmp .ge 36, .aload 0, .iload 1, .iload 3, .invokestatic 22448, .aload 0, .iload 1, .iload 2, .invokestatic 22448, .if_icmp .le 28, .iload 3, .goto 29]),
  (28, none, [.iload 2, .istore 2, .iinc 3 1, .goto 4]),
  (29, none, [.istore 2, .iinc 3 1, .goto 4]),
  (36, none, [.aload 0, .iload 1, .iload 2, .invokestatic 22448, .aload 0, .iload 1, .invokestatic 22560, .if_icmp .gt 51, .return_]),
  (51, none, [.aload 0, .iconst 6, .iload 1, .iadd, .iload 2, .iastore, .aload 0, .iconst 49, .iconst 9999, .aload 0, .iconst 49, .iaload, .iconst 1, .iadd, .invokestatic 37024, .iastore, .return_])]
theorem tk_205 : bl_205.all (fun q => chk 205 q.1 q.2.2) = true := by decide +kernel
theorem py_205 : plainName (mN 205).cls = true := by decide +kernel
theorem ml_205 : mL 205 = 4 := rfl
/-- M.winnerOf -/
def bl_206 : Tb := [
  (0, none, [.aload 1, .iconst 6, .iload 2, .iadd, .iaload, .aload 1, .iconst 6, .iload 3, .iadd, .iaload, .if_icmp .ne 18, .iconst (-2), .ireturn]),
  (18, none, [.aload 0, .aload 1, .iload 2, .iload 3, .invokevirtual 25273, .aload 0, .aload 1, .iload 3, .iload 2, .invokevirtual 25273, .invokestatic 36384, .istore 4, .iload 4, .ifCond .ne 47, .iconst (-3), .goto 57]),
  (47, none, [.iload 4, .ifCond .le 56, .iload 2, .goto 57]),
  (56, none, [.iload 3, .ireturn]),
  (57, none, [.ireturn])]
theorem tk_206 : bl_206.all (fun q => chk 206 q.1 q.2.2) = true := by decide +kernel
theorem py_206 : plainName (mN 206).cls = true := by decide +kernel
theorem ml_206 : mL 206 = 5 := rfl
/-- M.goFight -/
def bl_207 : Tb := [
  (0, none, [.aload 0, .aload 1, .iload 2, .iload 3, .invokevirtual 26425, .istore 4, .iload 4, .ifCond .ge 17, .iload 4, .ireturn]),
  (17, none, [.iload 4, .iload 2, .if_icmp .ne 27, .iload 3, .goto 28]),
  (27, none, [.iload 2, .istore 5, .iconst 12, .iconst 4, .iload 4, .imul, .iadd, .istore 6, .aload 0, .getfield 2312, .aload 1, .iload 4, .invokestatic 22560, .invokestatic 37024, .istore 7, .aload 1, .iload 6, .aload 1, .iconst 6, .iload 4, .iadd, .iaload, .iadd, .dup2, .iaload, .iload 7, .isub, .iastore, .aload 1, .iload 6, .aload 1, .iconst 6, .iload 5, .iadd, .iaload, .iadd, .dup2, .iaload, .iload 7, .iadd, .iastore, .aload 1, .iconst 36, .iload 4, .iadd, .iconst 99, .aload 1, .iconst 36, .iload 4, .iadd, .iaload, .iconst 1, .iadd, .invokestatic 37024, .iastore, .aload 1, .iload 5, .iconst 0, .aload 1, .iload 5, .iaload, .iconst 1, .isub, .invokestatic 36896, .iastore, .aload 1, .iconst 42, .iload 5, .iadd, .iconst 99, .aload 1, .iconst 42, .iload 5, .iadd, .iaload, .iconst 1, .iadd, .invokestatic 37024, .iastore, .aload 1, .iload 4, .invokestatic 26272, .aload 1, .iload 5, .invokestatic 26272, .iload 4, .ireturn]),
  (28, none, [.istore 5, .iconst 12, .iconst 4, .iload 4, .imul, .iadd, .istore 6, .aload 0, .getfield 2312, .aload 1, .iload 4, .invokestatic 22560, .invokestatic 37024, .istore 7, .aload 1, .iload 6, .aload 1, .iconst 6, .iload 4, .iadd, .iaload, .iadd, .dup2, .iaload, .iload 7, .isub, .iastore, .aload 1, .iload 6, .aload 1, .iconst 6, .iload 5, .iadd, .iaload, .iadd, .dup2, .iaload, .iload 7, .iadd, .iastore, .aload 1, .iconst 36, .iload 4, .iadd, .iconst 99, .aload 1, .iconst 36, .iload 4, .iadd, .iaload, .iconst 1, .iadd, .invokestatic 37024, .iastore, .aload 1, .iload 5, .iconst 0, .aload 1, .iload 5, .iaload, .iconst 1, .isub, .invokestatic 36896, .iastore, .aload 1, .iconst 42, .iload 5, .iadd, .iconst 99, .aload 1, .iconst 42, .iload 5, .iadd, .iaload, .iconst 1, .iadd, .invokestatic 37024, .iastore, .aload 1, .iload 4, .invokestatic 26272, .aload 1, .iload 5, .invokestatic 26272, .iload 4, .ireturn])]
theorem tk_207 : bl_207.all (fun q => chk 207 q.1 q.2.2) = true := by decide +kernel
theorem py_207 : plainName (mN 207).cls = true := by decide +kernel
theorem ml_207 : mL 207 = 8 := rfl
/-- M.fight -/
def bl_208 : Tb := [
  (0, none, [.aload 0, .iconst 0, .putfield 2336, .aload 0, .iload 1, .iload 2, .invokevirtual 22057, .ifCond .ne 16, .iconst (-1), .ireturn]),
  (16, none, [.aload 0, .aload 0, .getfield 2307, .iload 1, .iload 2, .invokevirtual 26425, .istore 3, .iload 3, .ifCond .ge 33, .iload 3, .ireturn]),
  (33, none, [.aload 0, .aload 0, .getfield 2307, .invokevirtual 26137, .aload 0, .aload 0, .getfield 2307, .iload 1, .iload 2, .invokevirtual 26553, .ireturn])]
theorem tk_208 : bl_208.all (fun q => chk 208 q.1 q.2.2) = true := by decide +kernel
theorem py_208 : plainName (mN 208).cls = true := by decide +kernel
theorem ml_208 : mL 208 = 4 := rfl
/-- M.mend -/
def bl_209 : Tb := [
  (0, none, [.iconst (-1), .istore 3, .iconst 0, .istore 4, .goto_w 5]),
  (5, some [1, 2, 3, 4], [.iload 4, .iconst 4, .if_icmp .ge 65, .iload 4, .aload 1, .iconst 6, .iload 2, .iadd, .iaload, .if_icmp .eq 59, .aload 1, .iload 2, .iload 4, .invokestatic 22448, .ifCond .ne 35, .goto 59]),
  (35, none, [.iload 3, .iconst (-1), .if_icmp .eq 56, .aload 1, .iload 2, .iload 4, .invokestatic 22448, .aload 1, .iload 2, .iload 3, .invokestatic 22448, .if_icmp .ge 59, .iload 4, .istore 3, .iinc 4 1, .goto 5]),
  (56, none, [.iload 4, .istore 3, .iinc 4 1, .goto 5]),
  (59, none, [.iinc 4 1, .goto 5]),
  (65, none, [.iload 3, .iconst (-1), .if_icmp .ne 71, .return_]),
  (71, none, [.aload 1, .iconst 12, .iconst 4, .iload 2, .imul, .iadd, .iload 3, .iadd, .dup2, .iaload, .iconst 1, .isub, .iastore, .aload 1, .iconst 12, .iconst 4, .iload 2, .imul, .iadd, .aload 1, .iconst 6, .iload 2, .iadd, .iaload, .iadd, .dup2, .iaload, .iconst 1, .iadd, .iastore, .return_])]
theorem tk_209 : bl_209.all (fun q => chk 209 q.1 q.2.2) = true := by decide +kernel
theorem py_209 : plainName (mN 209).cls = true := by decide +kernel
theorem ml_209 : mL 209 = 5 := rfl
/-- M.goDay -/
def bl_210 : Tb := [
  (0, none, [.iconst 0, .istore 2, .goto_w 2]),
  (2, some [0, 1, 2], [.iload 2, .aload 0, .getfield 2308, .if_icmp .ge 39, .aload 1, .iload 2, .aload 0, .getfield 2319, .iload 2, .iaload, .aload 1, .iload 2, .iaload, .iconst 1, .iadd, .invokestatic 37024, .iastore, .aload 0, .aload 1, .iload 2, .invokevirtual 26793, .iinc 2 1, .goto 2]),
  (39, none, [.aload 1, .iconst 48, .dup2, .iaload, .iconst 1, .iadd, .iastore, .return_])]
theorem tk_210 : bl_210.all (fun q => chk 210 q.1 q.2.2) = true := by decide +kernel
theorem py_210 : plainName (mN 210).cls = true := by decide +kernel
theorem ml_210 : mL 210 = 3 := rfl
/-- M.goDays -/
def bl_211 : Tb := [
  (0, none, [.iconst 0, .istore 3, .goto_w 2]),
  (2, some [0, 1, 2, 3], [.iload 3, .iload 2, .if_icmp .ge 18, .aload 0, .aload 1, .invokevirtual 26905, .iinc 3 1, .goto 2]),
  (18, none, [.return_])]
theorem tk_211 : bl_211.all (fun q => chk 211 q.1 q.2.2) = true := by decide +kernel
theorem py_211 : plainName (mN 211).cls = true := by decide +kernel
theorem ml_211 : mL 211 = 4 := rfl
/-- M.partsOfAll -/
def bl_212 : Tb := [
  (0, none, [.iconst 0, .istore 3, .iconst 0, .istore 4, .goto_w 5]),
  (5, some [0, 1, 2, 3, 4], [.iload 4, .aload 0, .getfield 2308, .if_icmp .ge 30, .iload 3, .aload 1, .iload 4, .iload 2, .invokestatic 22448, .iadd, .istore 3, .iinc 4 1, .goto 5]),
  (30, none, [.iload 3, .ireturn])]
theorem tk_212 : bl_212.all (fun q => chk 212 q.1 q.2.2) = true := by decide +kernel
theorem py_212 : plainName (mN 212).cls = true := by decide +kernel
theorem ml_212 : mL 212 = 5 := rfl
/-- M.days -/
def bl_213 : Tb := [
  (0, none, [.aload 0, .iconst 0, .putfield 2336, .iload 1, .iconst 0, .iconst 60, .invokestatic 21424, .ifCond .ne 17, .iconst (-1), .ireturn]),
  (17, none, [.iload 1, .ifCond .le 29, .aload 0, .aload 0, .getfield 2307, .invokevirtual 26137, .aload 0, .aload 0, .getfield 2307, .iload 1, .invokevirtual 27049, .aload 0, .iconst 0, .putfield 2332, .iconst 0, .istore 2, .goto_w 45]),
  (29, none, [.aload 0, .aload 0, .getfield 2307, .iload 1, .invokevirtual 27049, .aload 0, .iconst 0, .putfield 2332, .iconst 0, .istore 2, .goto_w 45]),
  (45, some [0, 2], [.iload 2, .iconst 4, .if_icmp .ge 70, .aload 0, .aload 0, .aload 0, .getfield 2307, .iload 2, .invokevirtual 27177, .i2l, .invokevirtual 21785, .iinc 2 1, .goto 45]),
  (70, none, [.aload 0, .aload 0, .getfield 2307, .iconst 0, .invokevirtual 25769, .ireturn])]
theorem tk_213 : bl_213.all (fun q => chk 213 q.1 q.2.2) = true := by decide +kernel
theorem py_213 : plainName (mN 213).cls = true := by decide +kernel
theorem ml_213 : mL 213 = 3 := rfl
/-- M.refusesSewing -/
def bl_214 : Tb := [
  (0, none, [.aload 0, .iload 2, .invokevirtual 21913, .ifCond .eq 26, .iload 3, .invokestatic 22160, .ifCond .eq 26, .iload 4, .iconst 1, .iconst 12, .invokestatic 21424, .ifCond .ne 28, .iconst (-1), .ireturn]),
  (26, none, [.iconst (-1), .ireturn]),
  (28, none, [.aload 1, .iload 2, .invokestatic 22560, .iload 4, .if_icmp .ge 41, .iconst (-2), .ireturn]),
  (41, none, [.aload 1, .iconst 6, .iload 2, .iadd, .iaload, .iload 3, .if_icmp .ne 56, .iconst (-3), .goto 57]),
  (56, none, [.iconst 0, .ireturn]),
  (57, none, [.ireturn])]
theorem tk_214 : bl_214.all (fun q => chk 214 q.1 q.2.2) = true := by decide +kernel
theorem py_214 : plainName (mN 214).cls = true := by decide +kernel
theorem ml_214 : mL 214 = 5 := rfl
/-- M.goSewing -/
def bl_215 : Tb := [
  (0, none, [.aload 0, .iconst 12, .iconst 4, .iload 1, .imul, .iadd, .aload 0, .iconst 6, .iload 1, .iadd, .iaload, .iadd, .dup2, .iaload, .iload 3, .isub, .iastore, .aload 0, .iconst 12, .iconst 4, .iload 1, .imul, .iadd, .iload 2, .iadd, .dup2, .iaload, .iload 3, .iadd, .iastore, .aload 0, .iload 1, .invokestatic 26272, .return_])]
theorem tk_215 : bl_215.all (fun q => chk 215 q.1 q.2.2) = true := by decide +kernel
theorem py_215 : plainName (mN 215).cls = true := by decide +kernel
theorem ml_215 : mL 215 = 4 := rfl
/-- M.sews -/
def bl_216 : Tb := [
  (0, none, [.aload 0, .iconst 0, .putfield 2336, .aload 0, .aload 0, .getfield 2307, .iload 1, .iload 2, .iload 3, .invokevirtual 27465, .istore 4, .iload 4, .ifCond .ge 26, .iload 4, .ireturn]),
  (26, none, [.aload 0, .aload 0, .getfield 2307, .invokevirtual 26137, .aload 0, .getfield 2307, .iload 1, .iload 2, .iload 3, .invokestatic 27584, .aload 0, .getfield 2307, .iconst 6, .iload 1, .iadd, .iaload, .ireturn])]
theorem tk_216 : bl_216.all (fun q => chk 216 q.1 q.2.2) = true := by decide +kernel
theorem py_216 : plainName (mN 216).cls = true := by decide +kernel
theorem ml_216 : mL 216 = 5 := rfl
/-- M.refusesYielding -/
def bl_217 : Tb := [
  (0, none, [.aload 0, .iload 1, .invokevirtual 21913, .ifCond .eq 15, .iload 2, .invokestatic 22160, .ifCond .ne 17, .iconst (-1), .ireturn]),
  (15, none, [.iconst (-1), .ireturn]),
  (17, none, [.aload 0, .getfield 2307, .iload 1, .iload 2, .invokestatic 22448, .iconst 12, .if_icmp .ne 36, .iconst (-2), .goto 37]),
  (36, none, [.iconst 0, .ireturn]),
  (37, none, [.ireturn])]
theorem tk_217 : bl_217.all (fun q => chk 217 q.1 q.2.2) = true := by decide +kernel
theorem py_217 : plainName (mN 217).cls = true := by decide +kernel
theorem ml_217 : mL 217 = 3 := rfl
/-- M.goYielding -/
def bl_218 : Tb := [
  (0, none, [.iconst 0, .istore 3, .goto_w 2]),
  (2, some [0, 1, 2, 3], [.iload 3, .iconst 4, .if_icmp .ge 37, .aload 0, .getfield 2307, .iconst 12, .iconst 4, .iload 1, .imul, .iadd, .iload 3, .iadd, .iload 3, .iload 2, .if_icmp .ne 29, .iconst 12, .goto 30]),
  (29, none, [.iconst 0, .iastore, .iinc 3 1, .goto 2]),
  (30, none, [.iastore, .iinc 3 1, .goto 2]),
  (37, none, [.aload 0, .getfield 2307, .iconst 6, .iload 1, .iadd, .iload 2, .iastore, .return_])]
theorem tk_218 : bl_218.all (fun q => chk 218 q.1 q.2.2) = true := by decide +kernel
theorem py_218 : plainName (mN 218).cls = true := by decide +kernel
theorem ml_218 : mL 218 = 4 := rfl
/-- M.yields -/
def bl_219 : Tb := [
  (0, none, [.aload 0, .iconst 0, .putfield 2336, .aload 0, .iload 1, .iload 2, .invokevirtual 27817, .istore 3, .iload 3, .ifCond .ge 18, .iload 3, .ireturn]),
  (18, none, [.aload 0, .aload 0, .getfield 2307, .invokevirtual 26137, .iconst 12, .aload 0, .getfield 2307, .iload 1, .iload 2, .invokestatic 22448, .isub, .istore 4, .aload 0, .iload 1, .iload 2, .invokevirtual 27945, .iload 4, .ireturn])]
theorem tk_219 : bl_219.all (fun q => chk 219 q.1 q.2.2) = true := by decide +kernel
theorem py_219 : plainName (mN 219).cls = true := by decide +kernel
theorem ml_219 : mL 219 = 5 := rfl
/-- M.war -/
def bl_220 : Tb := [
  (0, none, [.aload 0, .iconst 0, .putfield 2336, .aload 0, .iconst 60, .invokevirtual 23065, .iconst 0, .istore 1, .goto_w 13]),
  (13, some [0, 1], [.aload 0, .invokevirtual 23305, .ifCond .eq 44, .aload 0, .getfield 2352, .aload 0, .getfield 2344, .if_icmp .ge 44, .aload 0, .iconst 4, .iload 1, .imul, .invokevirtual 28313, .iinc 1 1, .goto 13]),
  (44, none, [.aload 0, .invokevirtual 24073, .ifCond .ne 58, .iconst (-1), .aload 0, .getfield 2356, .isub, .ireturn]),
  (58, none, [.aload 0, .getfield 2307, .aload 0, .getfield 2395, .iconst 0, .invokestatic 26032, .iconst 0, .istore 2, .goto_w 72]),
  (72, some [0, 1, 2], [.iload 2, .iload 1, .if_icmp .ge 93, .aload 0, .iconst 4, .iload 2, .imul, .invokevirtual 28441, .ifCond .eq 93, .iinc 2 1, .goto 72]),
  (93, none, [.iload 2, .ifCond .le 105, .aload 0, .aload 0, .getfield 2395, .invokevirtual 26137, .aload 0, .iconst 0, .putfield 2332, .aload 0, .iload 2, .iload 1, .if_icmp .ge 120, .ldc2_w 1, .goto 121]),
  (105, none, [.aload 0, .iconst 0, .putfield 2332, .aload 0, .iload 2, .iload 1, .if_icmp .ge 120, .ldc2_w 1, .goto 121]),
  (120, none, [.ldc2_w 0, .invokevirtual 21785, .aload 0, .aload 0, .getfield 2307, .iconst 49, .iaload, .i2l, .invokevirtual 21785, .iload 2, .ireturn]),
  (121, none, [.invokevirtual 21785, .aload 0, .aload 0, .getfield 2307, .iconst 49, .iaload, .i2l, .invokevirtual 21785, .iload 2, .ireturn])]
theorem tk_220 : bl_220.all (fun q => chk 220 q.1 q.2.2) = true := by decide +kernel
theorem py_220 : plainName (mN 220).cls = true := by decide +kernel
theorem ml_220 : mL 220 = 3 := rfl
/-- M.readAct -/
def bl_221 : Tb := [
  (0, none, [.aload 0, .invokevirtual 23177, .istore 2, .iload 2, .iconst 102, .if_icmp .eq 38, .iload 2, .iconst 110, .if_icmp .eq 38, .iload 2, .iconst 115, .if_icmp .eq 38, .iload 2, .iconst 121, .if_icmp .eq 38, .aload 0, .aload 0, .getfield 2352, .invokevirtual 23449, .return_]),
  (38, none, [.aload 0, .dup, .getfield 2352, .iconst 1, .iadd, .putfield 2352, .aload 0, .getfield 2403, .iload 1, .iload 2, .iastore, .aload 0, .getfield 2403, .iload 1, .iconst 1, .iadd, .aload 0, .iconst 48, .iconst 10, .invokevirtual 23849, .iastore, .iload 2, .iconst 102, .if_icmp .ne 93, .aload 0, .getfield 2403, .iload 1, .iconst 2, .iadd, .aload 0, .iconst 48, .iconst 10, .invokevirtual 23849, .iastore, .iload 2, .iconst 115, .if_icmp .eq 105, .iload 2, .iconst 121, .if_icmp .ne 120, .aload 0, .getfield 2403, .iload 1, .iconst 2, .iadd, .aload 0, .iconst 97, .iconst 4, .invokevirtual 23849, .iastore, .iload 2, .iconst 115, .if_icmp .ne 144, .aload 0, .getfield 2403, .iload 1, .iconst 3, .iadd, .aload 0, .iconst 49, .iconst 9, .invokevirtual 23849, .iconst 1, .iadd, .iastore, .return_]),
  (93, none, [.iload 2, .iconst 115, .if_icmp .eq 105, .iload 2, .iconst 121, .if_icmp .ne 120, .aload 0, .getfield 2403, .iload 1, .iconst 2, .iadd, .aload 0, .iconst 97, .iconst 4, .invokevirtual 23849, .iastore, .iload 2, .iconst 115, .if_icmp .ne 144, .aload 0, .getfield 2403, .iload 1, .iconst 3, .iadd, .aload 0, .iconst 49, .iconst 9, .invokevirtual 23849, .iconst 1, .iadd, .iastore, .return_]),
  (105, none, [.aload 0, .getfield 2403, .iload 1, .iconst 2, .iadd, .aload 0, .iconst 97, .iconst 4, .invokevirtual 23849, .iastore, .iload 2, .iconst 115, .if_icmp .ne 144, .aload 0, .getfield 2403, .iload 1, .iconst 3, .iadd, .aload 0, .iconst 49, .iconst 9, .invokevirtual 23849, .iconst 1, .iadd, .iastore, .return_]),
  (120, none, [.iload 2, .iconst 115, .if_icmp .ne 144, .aload 0, .getfield 2403, .iload 1, .iconst 3, .iadd, .aload 0, .iconst 49, .iconst 9, .invokevirtual 23849, .iconst 1, .iadd, .iastore, .return_]),
  (144, none, [.return_])]
theorem tk_221 : bl_221.all (fun q => chk 221 q.1 q.2.2) = true := by decide +kernel
theorem py_221 : plainName (mN 221).cls = true := by decide +kernel
theorem ml_221 : mL 221 = 3 := rfl
/-- M.act -/
def bl_222 : Tb := [
  (0, none, [.aload 0, .getfield 2403, .iload 1, .iconst 1, .iadd, .iaload, .istore 2, .aload 0, .getfield 2403, .iload 1, .iconst 2, .iadd, .iaload, .istore 3, .aload 0, .getfield 2403, .iload 1, .iaload, .lookupswitch 143 #[(102, 60), (110, 90), (115, 101)]]),
  (60, none, [.aload 0, .iload 2, .iload 3, .invokevirtual 22057, .ifCond .eq 88, .aload 0, .aload 0, .getfield 2307, .iload 2, .iload 3, .invokevirtual 26553, .iconst (-2), .if_icmp .eq 88, .iconst 1, .goto 89]),
  (88, none, [.iconst 0, .freturn]),
  (89, none, [.freturn]),
  (90, none, [.aload 0, .aload 0, .getfield 2307, .iload 2, .invokevirtual 27049, .iconst 1, .freturn]),
  (101, none, [.aload 0, .aload 0, .getfield 2307, .iload 2, .iload 3, .aload 0, .getfield 2403, .iload 1, .iconst 3, .iadd, .iaload, .invokevirtual 27465, .ifCond .ge 124, .iconst 0, .freturn]),
  (124, none, [.aload 0, .getfield 2307, .iload 2, .iload 3, .aload 0, .getfield 2403, .iload 1, .iconst 3, .iadd, .iaload, .invokestatic 27584, .iconst 1, .freturn]),
  (143, none, [.aload 0, .iload 2, .iload 3, .invokevirtual 27817, .ifCond .ge 154, .iconst 0, .freturn]),
  (154, none, [.aload 0, .iload 2, .iload 3, .invokevirtual 27945, .iconst 1, .freturn])]
theorem tk_222 : bl_222.all (fun q => chk 222 q.1 q.2.2) = true := by decide +kernel
theorem py_222 : plainName (mN 222).cls = true := by decide +kernel
theorem ml_222 : mL 222 = 4 := rfl
/-- M.undo -/
def bl_223 : Tb := [
  (0, none, [.aload 0, .iconst 0, .putfield 2336, .aload 0, .getfield 2388, .ifCond .ne 14, .iconst (-1), .ireturn]),
  (14, none, [.aload 0, .dup, .getfield 2388, .iconst 1, .isub, .putfield 2388, .iconst 0, .istore 1, .goto_w 26]),
  (26, some [0, 1], [.iload 1, .iconst 50, .if_icmp .ge 58, .aload 0, .getfield 2307, .iload 1, .aload 0, .getfield 2387, .iconst 50, .aload 0, .getfield 2388, .imul, .iload 1, .iadd, .iaload, .iastore, .iinc 1 1, .goto 26]),
  (58, none, [.aload 0, .getfield 2388, .ireturn])]
theorem tk_223 : bl_223.all (fun q => chk 223 q.1 q.2.2) = true := by decide +kernel
theorem py_223 : plainName (mN 223).cls = true := by decide +kernel
theorem ml_223 : mL 223 = 2 := rfl
/-- M.fleet -/
def bl_224 : Tb := [
  (0, none, [.aload 0, .iconst 0, .putfield 2336, .iload 1, .invokestatic 22160, .ifCond .ne 14, .iconst (-1), .ireturn]),
  (14, none, [.iconst 0, .istore 2, .iconst 0, .istore 3, .iconst 0, .istore 4, .goto_w 21]),
  (21, some [0, 1, 2, 3, 4], [.iload 4, .aload 0, .getfield 2308, .if_icmp .ge 70, .aload 0, .getfield 2307, .iconst 6, .iload 4, .iadd, .iaload, .iload 1, .if_icmp .eq 47, .goto 64]),
  (47, none, [.iload 2, .iconst 1, .iload 4, .ishl, .ior, .istore 2, .iload 3, .aload 0, .getfield 2307, .iload 4, .iaload, .iadd, .istore 3, .iinc 4 1, .goto 21]),
  (64, none, [.iinc 4 1, .goto 21]),
  (70, none, [.aload 0, .iconst 0, .putfield 2332, .aload 0, .iload 3, .i2l, .invokevirtual 21785, .aload 0, .aload 0, .aload 0, .getfield 2307, .iload 1, .invokevirtual 27177, .i2l, .invokevirtual 21785, .iload 2, .ireturn])]
theorem tk_224 : bl_224.all (fun q => chk 224 q.1 q.2.2) = true := by decide +kernel
theorem py_224 : plainName (mN 224).cls = true := by decide +kernel
theorem ml_224 : mL 224 = 5 := rfl
/-- M.common -/
def bl_225 : Tb := [
  (0, none, [.lload 2, .ldc2_w 0, .lcmp, .ifCond .ne 10, .lload 0, .goto 17]),
  (10, none, [.lload 2, .lload 0, .lload 2, .lrem, .invokestatic 28832, .lreturn]),
  (17, none, [.lreturn])]
theorem tk_225 : bl_225.all (fun q => chk 225 q.1 q.2.2) = true := by decide +kernel
theorem py_225 : plainName (mN 225).cls = true := by decide +kernel
theorem ml_225 : mL 225 = 4 := rfl
/-- M.tellPart -/
def bl_226 : Tb := [
  (0, none, [.lload 1, .lload 3, .invokestatic 28832, .lstore 5, .aload 0, .iconst 0, .putfield 2332, .aload 0, .lload 1, .lload 5, .ldiv, .invokevirtual 21785, .aload 0, .lload 3, .lload 5, .ldiv, .invokevirtual 21785, .return_])]
theorem tk_226 : bl_226.all (fun q => chk 226 q.1 q.2.2) = true := by decide +kernel
theorem py_226 : plainName (mN 226).cls = true := by decide +kernel
theorem ml_226 : mL 226 = 7 := rfl
/-- M.share -/
def bl_227 : Tb := [
  (0, none, [.aload 0, .iconst 0, .putfield 2336, .iload 1, .invokestatic 22160, .ifCond .eq 19, .aload 0, .getfield 2308, .ifCond .ne 21, .iconst (-1), .ireturn]),
  (19, none, [.iconst (-1), .ireturn]),
  (21, none, [.aload 0, .aload 0, .aload 0, .getfield 2307, .iload 1, .invokevirtual 27177, .i2l, .iconst 12, .aload 0, .getfield 2308, .imul, .i2l, .invokevirtual 28969, .iconst 0, .ireturn])]
theorem tk_227 : bl_227.all (fun q => chk 227 q.1 q.2.2) = true := by decide +kernel
theorem py_227 : plainName (mN 227).cls = true := by decide +kernel
theorem ml_227 : mL 227 = 2 := rfl
/-- M.later -/
def bl_228 : Tb := [
  (0, none, [.aload 0, .iconst 0, .putfield 2336, .aload 0, .iload 1, .invokevirtual 21913, .ifCond .eq 23, .iload 2, .iconst 0, .iconst 99, .invokestatic 21424, .ifCond .ne 25, .iconst (-1), .ireturn]),
  (23, none, [.iconst (-1), .ireturn]),
  (25, none, [.aload 0, .getfield 2307, .aload 0, .getfield 2399, .iconst 0, .invokestatic 26032, .aload 0, .aload 0, .getfield 2399, .iload 2, .invokevirtual 27049, .aload 0, .iconst 0, .putfield 2332, .iconst 0, .istore 3, .goto_w 53]),
  (53, some [0, 1, 3], [.iload 3, .iconst 4, .if_icmp .ge 78, .aload 0, .aload 0, .getfield 2399, .iload 1, .iload 3, .invokestatic 22448, .i2l, .invokevirtual 21785, .iinc 3 1, .goto 53]),
  (78, none, [.aload 0, .getfield 2399, .iconst 6, .iload 1, .iadd, .iaload, .ireturn])]
theorem tk_228 : bl_228.all (fun q => chk 228 q.1 q.2.2) = true := by decide +kernel
theorem py_228 : plainName (mN 228).cls = true := by decide +kernel
theorem ml_228 : mL 228 = 4 := rfl
/-- M.wholeOf -/
def bl_229 : Tb := [
  (0, none, [.iconst 0, .istore 2, .goto_w 2]),
  (2, some [0, 1, 2], [.iload 2, .iconst 4, .if_icmp .ge 26, .aload 0, .iload 1, .iload 2, .invokestatic 22448, .iconst 12, .if_icmp .ne 20, .iload 2, .ireturn]),
  (20, none, [.iinc 2 1, .goto 2]),
  (26, none, [.iconst (-1), .ireturn])]
theorem tk_229 : bl_229.all (fun q => chk 229 q.1 q.2.2) = true := by decide +kernel
theorem py_229 : plainName (mN 229).cls = true := by decide +kernel
theorem ml_229 : mL 229 = 3 := rfl
/-- M.whole -/
def bl_230 : Tb := [
  (0, none, [.aload 0, .iconst 0, .putfield 2336, .aload 0, .iload 1, .invokevirtual 21913, .ifCond .ne 15, .iconst (-1), .ireturn]),
  (15, none, [.aload 0, .getfield 2307, .aload 0, .getfield 2399, .iconst 0, .invokestatic 26032, .iconst 0, .istore 2, .goto_w 29]),
  (29, some [0, 1, 2], [.aload 0, .getfield 2399, .iload 1, .invokestatic 29344, .iconst (-1), .if_icmp .ne 55, .aload 0, .aload 0, .getfield 2399, .invokevirtual 26905, .iinc 2 1, .goto 29]),
  (55, none, [.aload 0, .iconst 0, .putfield 2332, .aload 0, .aload 0, .getfield 2399, .iload 1, .invokestatic 29344, .i2l, .invokevirtual 21785, .iload 2, .ireturn])]
theorem tk_230 : bl_230.all (fun q => chk 230 q.1 q.2.2) = true := by decide +kernel
theorem py_230 : plainName (mN 230).cls = true := by decide +kernel
theorem ml_230 : mL 230 = 3 := rfl
/-- M.sisters -/
def bl_231 : Tb := [
  (0, none, [.aload 0, .iconst 0, .putfield 2336, .iconst 1000000, .istore 1, .iconst (-1), .istore 2, .iconst (-1), .istore 3, .iconst 0, .istore 4, .goto_w 16]),
  (16, some [0, 1, 2, 3, 4], [.iload 4, .aload 0, .getfield 2308, .if_icmp .ge 119, .iload 4, .iconst 1, .iadd, .istore 5, .goto_w 31]),
  (31, some [0, 1, 2, 3, 4, 5], [.iload 5, .aload 0, .getfield 2308, .if_icmp .ge 113, .iconst 0, .istore 6, .iconst 0, .istore 7, .goto_w 46]),
  (46, some [0, 1, 2, 3, 4, 5, 6, 7], [.iload 7, .iconst 4, .if_icmp .ge 89, .iload 6, .aload 0, .getfield 2307, .iload 4, .iload 7, .invokestatic 22448, .aload 0, .getfield 2307, .iload 5, .iload 7, .invokestatic 22448, .isub, .invokestatic 36752, .iadd, .istore 6, .iinc 7 1, .goto 46]),
  (89, none, [.iload 6, .iload 1, .if_icmp .lt 98, .goto 107]),
  (98, none, [.iload 6, .istore 1, .iload 4, .istore 2, .iload 5, .istore 3, .iinc 5 1, .goto 31]),
  (107, none, [.iinc 5 1, .goto 31]),
  (113, none, [.iinc 4 1, .goto 16]),
  (119, none, [.iload 1, .iconst 1000000, .if_icmp .ne 129, .iconst (-2), .ireturn]),
  (129, none, [.aload 0, .iconst 0, .putfield 2332, .aload 0, .iload 2, .i2l, .invokevirtual 21785, .aload 0, .iload 3, .i2l, .invokevirtual 21785, .iload 1, .ireturn])]
theorem tk_231 : bl_231.all (fun q => chk 231 q.1 q.2.2) = true := by decide +kernel
theorem py_231 : plainName (mN 231).cls = true := by decide +kernel
theorem ml_231 : mL 231 = 8 := rfl
/-- M.motley -/
def bl_232 : Tb := [
  (0, none, [.aload 0, .iconst 0, .putfield 2336, .aload 0, .getfield 2308, .ifCond .ne 15, .iconst (-2), .ireturn]),
  (15, none, [.iconst 0, .istore 1, .iconst 1, .istore 2, .goto_w 19]),
  (19, some [0, 1, 2], [.iload 2, .aload 0, .getfield 2308, .if_icmp .ge 58, .aload 0, .getfield 2307, .iload 2, .invokestatic 22560, .aload 0, .getfield 2307, .iload 1, .invokestatic 22560, .if_icmp .ge 50, .iload 2, .goto 51]),
  (50, none, [.iload 1, .istore 1, .iinc 2 1, .goto 19]),
  (51, none, [.istore 1, .iinc 2 1, .goto 19]),
  (58, none, [.iconst 0, .istore 2, .iconst 0, .istore 3, .goto_w 62]),
  (62, some [0, 1, 2, 3], [.iload 3, .iconst 4, .if_icmp .ge 106, .iload 2, .iload 3, .aload 0, .getfield 2307, .iconst 6, .iload 1, .iadd, .iaload, .if_icmp .eq 97, .aload 0, .getfield 2307, .iload 1, .iload 3, .invokestatic 22448, .ifCond .le 97, .iconst 1, .goto 98]),
  (97, none, [.iconst 0, .iadd, .istore 2, .iinc 3 1, .goto 62]),
  (98, none, [.iadd, .istore 2, .iinc 3 1, .goto 62]),
  (106, none, [.aload 0, .iconst 0, .putfield 2332, .aload 0, .iconst 12, .aload 0, .getfield 2307, .iload 1, .invokestatic 22560, .isub, .i2l, .invokevirtual 21785, .aload 0, .iload 2, .i2l, .invokevirtual 21785, .iload 1, .ireturn])]
theorem tk_232 : bl_232.all (fun q => chk 232 q.1 q.2.2) = true := by decide +kernel
theorem py_232 : plainName (mN 232).cls = true := by decide +kernel
theorem ml_232 : mL 232 = 4 := rfl
/-- M.order -/
def bl_233 : Tb := [
  (0, none, [.aload 0, .iconst 0, .putfield 2336, .iload 1, .invokestatic 22160, .ifCond .ne 14, .iconst (-1), .ireturn]),
  (14, none, [.iconst 0, .istore 2, .aload 0, .iconst 0, .putfield 2332, .iconst 12, .istore 3, .goto_w 24]),
  (24, some [0, 1, 2, 3], [.iload 3, .ifCond .lt 88, .iconst 0, .istore 4, .goto_w 31]),
  (31, some [0, 1, 2, 3, 4], [.iload 4, .aload 0, .getfield 2308, .if_icmp .ge 82, .aload 0, .getfield 2307, .iload 4, .iload 1, .invokestatic 22448, .iload 3, .if_icmp .eq 57, .goto 76]),
  (57, none, [.aload 0, .iload 4, .i2l, .invokevirtual 21785, .iload 2, .iload 3, .ifCond .le 73, .iconst 1, .goto 74]),
  (73, none, [.iconst 0, .iadd, .istore 2, .iinc 4 1, .goto 31]),
  (74, none, [.iadd, .istore 2, .iinc 4 1, .goto 31]),
  (76, none, [.iinc 4 1, .goto 31]),
  (82, none, [.iinc 3 (-1), .goto 24]),
  (88, none, [.iload 2, .ireturn])]
theorem tk_233 : bl_233.all (fun q => chk 233 q.1 q.2.2) = true := by decide +kernel
theorem py_233 : plainName (mN 233).cls = true := by decide +kernel
theorem ml_233 : mL 233 = 5 := rfl
/-- M.rivals -/
def bl_234 : Tb := [
  (0, none, [.aload 0, .iconst 0, .putfield 2336, .aload 0, .iload 1, .invokevirtual 21913, .ifCond .ne 15, .iconst (-1), .ireturn]),
  (15, none, [.iconst 0, .istore 2, .iconst 0, .istore 3, .iconst 0, .istore 4, .iconst 0, .istore 5, .goto_w 25]),
  (25, some [0, 1, 2, 3, 4, 5], [.iload 5, .aload 0, .getfield 2308, .if_icmp .ge 119, .iload 5, .iload 1, .if_icmp .ne 45, .iconst (-2), .goto 56]),
  (45, none, [.aload 0, .aload 0, .getfield 2307, .iload 1, .iload 5, .invokevirtual 26425, .istore 6, .iload 2, .iload 6, .iload 1, .if_icmp .ne 72, .iconst 1, .iload 5, .ishl, .goto 73]),
  (56, none, [.istore 6, .iload 2, .iload 6, .iload 1, .if_icmp .ne 72, .iconst 1, .iload 5, .ishl, .goto 73]),
  (72, none, [.iconst 0, .ior, .istore 2, .iload 3, .iload 6, .iload 5, .if_icmp .ne 90, .iconst 1, .iload 5, .ishl, .goto 91]),
  (73, none, [.ior, .istore 2, .iload 3, .iload 6, .iload 5, .if_icmp .ne 90, .iconst 1, .iload 5, .ishl, .goto 91]),
  (90, none, [.iconst 0, .ior, .istore 3, .iload 4, .iload 6, .iconst (-3), .if_icmp .ne 109, .iconst 1, .iload 5, .ishl, .goto 110]),
  (91, none, [.ior, .istore 3, .iload 4, .iload 6, .iconst (-3), .if_icmp .ne 109, .iconst 1, .iload 5, .ishl, .goto 110]),
  (109, none, [.iconst 0, .ior, .istore 4, .iinc 5 1, .goto 25]),
  (110, none, [.ior, .istore 4, .iinc 5 1, .goto 25]),
  (119, none, [.aload 0, .iconst 0, .putfield 2332, .aload 0, .iload 3, .i2l, .invokevirtual 21785, .aload 0, .iload 4, .i2l, .invokevirtual 21785, .iload 2, .ireturn])]
theorem tk_234 : bl_234.all (fun q => chk 234 q.1 q.2.2) = true := by decide +kernel
theorem py_234 : plainName (mN 234).cls = true := by decide +kernel
theorem ml_234 : mL 234 = 7 := rfl
/-- M.duel -/
def bl_235 : Tb := [
  (0, none, [.aload 0, .iconst 0, .putfield 2336, .aload 0, .iload 1, .iload 2, .invokevirtual 22057, .ifCond .eq 24, .iload 3, .iconst 1, .iconst 20, .invokestatic 21424, .ifCond .ne 26, .iconst (-1), .ireturn]),
  (24, none, [.iconst (-1), .ireturn]),
  (26, none, [.aload 0, .getfield 2307, .aload 0, .getfield 2399, .iconst 0, .invokestatic 26032, .iconst 0, .istore 4, .iconst 0, .istore 5, .iconst 1, .istore 6, .goto_w 47]),
  (47, some [0, 1, 2, 3, 4, 5, 6], [.iload 6, .ifCond .eq 120, .iload 4, .iload 3, .if_icmp .ge 120, .aload 0, .aload 0, .getfield 2399, .iload 1, .iload 2, .invokevirtual 26553, .istore 7, .iload 7, .ifCond .lt 79, .iconst 1, .goto 80]),
  (79, none, [.iconst 0, .istore 6, .iload 6, .ifCond .ne 90, .goto 47]),
  (80, none, [.istore 6, .iload 6, .ifCond .ne 90, .goto 47]),
  (90, none, [.iinc 4 1, .iload 5, .iload 7, .iload 1, .if_icmp .ne 105, .iconst 1, .goto 106]),
  (105, none, [.iconst 0, .iadd, .istore 5, .aload 0, .aload 0, .getfield 2399, .invokevirtual 26905, .goto 47]),
  (106, none, [.iadd, .istore 5, .aload 0, .aload 0, .getfield 2399, .invokevirtual 26905, .goto 47]),
  (120, none, [.aload 0, .iconst 0, .putfield 2332, .aload 0, .iload 5, .i2l, .invokevirtual 21785, .aload 0, .aload 0, .getfield 2399, .iconst 6, .iload 1, .iadd, .iaload, .i2l, .invokevirtual 21785, .aload 0, .aload 0, .getfield 2399, .iconst 6, .iload 2, .iadd, .iaload, .i2l, .invokevirtual 21785, .iload 4, .ireturn])]
theorem tk_235 : bl_235.all (fun q => chk 235 q.1 q.2.2) = true := by decide +kernel
theorem py_235 : plainName (mN 235).cls = true := by decide +kernel
theorem ml_235 : mL 235 = 8 := rfl
/-- M.tempts -/
def bl_236 : Tb := [
  (0, none, [.aload 0, .iconst 0, .putfield 2336, .iload 1, .invokestatic 22160, .ifCond .ne 14, .iconst (-1), .ireturn]),
  (14, none, [.iconst 1000000, .istore 2, .iconst (-1), .istore 3, .iconst 0, .istore 4, .goto_w 23]),
  (23, some [0, 1, 2, 3, 4], [.iload 4, .aload 0, .getfield 2308, .if_icmp .ge 116, .iconst 1, .istore 5, .goto_w 35]),
  (35, some [0, 1, 2, 3, 4, 5], [.iload 5, .iload 2, .if_icmp .ge 110, .aload 0, .aload 0, .getfield 2307, .iload 4, .iload 1, .iload 5, .invokevirtual 27465, .ifCond .ne 110, .aload 0, .getfield 2307, .aload 0, .getfield 2399, .iconst 0, .invokestatic 26032, .aload 0, .getfield 2399, .iload 4, .iload 1, .iload 5, .invokestatic 27584, .aload 0, .getfield 2399, .iconst 6, .iload 4, .iadd, .iaload, .iload 1, .if_icmp .eq 98, .goto 104]),
  (98, none, [.iload 5, .istore 2, .iload 4, .istore 3, .iinc 5 1, .goto 35]),
  (104, none, [.iinc 5 1, .goto 35]),
  (110, none, [.iinc 4 1, .goto 23]),
  (116, none, [.iload 3, .iconst (-1), .if_icmp .ne 124, .iconst (-2), .ireturn]),
  (124, none, [.aload 0, .iconst 0, .putfield 2332, .aload 0, .iload 3, .i2l, .invokevirtual 21785, .iload 2, .ireturn])]
theorem tk_236 : bl_236.all (fun q => chk 236 q.1 q.2.2) = true := by decide +kernel
theorem py_236 : plainName (mN 236).cls = true := by decide +kernel
theorem ml_236 : mL 236 = 6 := rfl
/-- M.wins -/
def bl_237 : Tb := [
  (0, none, [.aload 0, .iconst 0, .putfield 2336, .aload 0, .iload 1, .iload 2, .invokevirtual 22057, .ifCond .ne 16, .iconst (-1), .ireturn]),
  (16, none, [.aload 0, .getfield 2307, .aload 0, .getfield 2399, .iconst 0, .invokestatic 26032, .aload 0, .aload 0, .getfield 2399, .iload 1, .iload 2, .invokevirtual 26553, .istore 3, .iload 3, .ifCond .ge 45, .iload 3, .ireturn]),
  (45, none, [.aload 0, .iconst 0, .putfield 2332, .aload 0, .aload 0, .getfield 2399, .iconst 6, .iload 1, .iadd, .iaload, .i2l, .invokevirtual 21785, .aload 0, .aload 0, .getfield 2399, .iconst 6, .iload 2, .iadd, .iaload, .i2l, .invokevirtual 21785, .iload 3, .ireturn])]
theorem tk_237 : bl_237.all (fun q => chk 237 q.1 q.2.2) = true := by decide +kernel
theorem py_237 : plainName (mN 237).cls = true := by decide +kernel
theorem ml_237 : mL 237 = 4 := rfl
/-- M.suits -/
def bl_238 : Tb := [
  (0, none, [.aload 0, .iconst 0, .putfield 2336, .aload 0, .iload 1, .invokevirtual 21913, .ifCond .eq 20, .iload 2, .invokestatic 22160, .ifCond .ne 22, .iconst (-1), .ireturn]),
  (20, none, [.iconst (-1), .ireturn]),
  (22, none, [.iconst (-2), .istore 3, .iconst (-1), .istore 4, .iconst 0, .istore 5, .goto_w 31]),
  (31, some [0, 1, 2, 3, 4, 5], [.iload 5, .aload 0, .getfield 2308, .if_icmp .ge 109, .aload 0, .getfield 2307, .aload 0, .getfield 2399, .iconst 0, .invokestatic 26032, .iload 5, .iload 1, .if_icmp .eq 103, .aload 0, .aload 0, .getfield 2399, .iload 1, .iload 5, .invokevirtual 26553, .ifCond .lt 103, .aload 0, .getfield 2399, .iload 1, .iload 2, .invokestatic 22448, .iload 4, .if_icmp .gt 89, .goto 103]),
  (89, none, [.iload 5, .istore 3, .aload 0, .getfield 2399, .iload 1, .iload 2, .invokestatic 22448, .istore 4, .iinc 5 1, .goto 31]),
  (103, none, [.iinc 5 1, .goto 31]),
  (109, none, [.iload 3, .iconst (-2), .if_icmp .ne 118, .iconst (-2), .ireturn]),
  (118, none, [.aload 0, .iconst 0, .putfield 2332, .aload 0, .iload 4, .i2l, .invokevirtual 21785, .iload 3, .ireturn])]
theorem tk_238 : bl_238.all (fun q => chk 238 q.1 q.2.2) = true := by decide +kernel
theorem py_238 : plainName (mN 238).cls = true := by decide +kernel
theorem ml_238 : mL 238 = 6 := rfl
/-- M.layDeep -/
def bl_239 : Tb := [
  (0, none, [.iconst 0, .istore 2, .goto_w 2]),
  (2, some [0, 1, 2], [.iload 2, .iconst 50, .if_icmp .ge 31, .aload 0, .getfield 2415, .iload 2, .aload 0, .getfield 2407, .iconst 50, .iload 1, .imul, .iload 2, .iadd, .iaload, .iastore, .iinc 2 1, .goto 2]),
  (31, none, [.return_])]
theorem tk_239 : bl_239.all (fun q => chk 239 q.1 q.2.2) = true := by decide +kernel
theorem py_239 : plainName (mN 239).cls = true := by decide +kernel
theorem ml_239 : mL 239 = 3 := rfl
/-- M.isSo -/
def bl_240 : Tb := [
  (0, none, [.iload 1, .iconst (-1), .if_icmp .eq 24, .aload 0, .getfield 2415, .iconst 6, .iload 1, .iadd, .iaload, .iload 2, .if_icmp .ne 22, .iconst 1, .goto 23]),
  (22, none, [.iconst 0, .freturn]),
  (23, none, [.freturn]),
  (24, none, [.iconst 1, .istore 3, .goto_w 26]),
  (26, some [0, 3], [.iload 3, .aload 0, .getfield 2308, .if_icmp .ge 61, .aload 0, .getfield 2415, .iconst 6, .iload 3, .iadd, .iaload, .aload 0, .getfield 2415, .iconst 6, .iaload, .if_icmp .eq 55, .iconst 0, .freturn]),
  (55, none, [.iinc 3 1, .goto 26]),
  (61, none, [.iconst 1, .freturn])]
theorem tk_240 : bl_240.all (fun q => chk 240 q.1 q.2.2) = true := by decide +kernel
theorem py_240 : plainName (mN 240).cls = true := by decide +kernel
theorem ml_240 : mL 240 = 4 := rfl
/-- M.canBe -/
def bl_241 : Tb := [
  (0, none, [.aload 0, .iload 1, .invokevirtual 30617, .iload 1, .iload 2, .if_icmp .ne 18, .aload 0, .iload 3, .iload 4, .invokevirtual 30761, .freturn]),
  (18, none, [.iconst 0, .istore 5, .goto_w 21]),
  (21, some [0, 1, 2, 3, 4, 5], [.iload 5, .aload 0, .getfield 2308, .if_icmp .ge 135, .iload 5, .iconst 1, .iadd, .istore 6, .goto_w 36]),
  (36, some [0, 1, 2, 3, 4, 5, 6], [.iload 6, .aload 0, .getfield 2308, .if_icmp .ge 129, .aload 0, .iload 1, .invokevirtual 30617, .aload 0, .aload 0, .getfield 2415, .iload 5, .iload 6, .invokevirtual 26553, .ifCond .ge 68, .goto 123]),
  (68, none, [.aload 0, .getfield 2415, .aload 0, .getfield 2407, .iconst 50, .iload 1, .iconst 1, .iadd, .imul, .invokestatic 26032, .aload 0, .getfield 2411, .iconst 2, .iload 1, .imul, .iload 5, .iastore, .aload 0, .getfield 2411, .iconst 2, .iload 1, .imul, .iconst 1, .iadd, .iload 6, .iastore, .aload 0, .iload 1, .iconst 1, .iadd, .iload 2, .iload 3, .iload 4, .invokevirtual 30921, .ifCond .eq 123, .iconst 1, .freturn]),
  (123, none, [.iinc 6 1, .goto 36]),
  (129, none, [.iinc 5 1, .goto 21]),
  (135, none, [.iconst 0, .freturn])]
theorem tk_241 : bl_241.all (fun q => chk 241 q.1 q.2.2) = true := by decide +kernel
theorem py_241 : plainName (mN 241).cls = true := by decide +kernel
theorem ml_241 : mL 241 = 7 := rfl
/-- M.fewest -/
def bl_242 : Tb := [
  (0, none, [.aload 0, .getfield 2307, .aload 0, .getfield 2407, .iconst 0, .invokestatic 26032, .iconst 0, .istore 3, .goto_w 14]),
  (14, some [0, 1, 2, 3], [.iload 3, .iconst 3, .if_icmp .gt 75, .aload 0, .iconst 0, .iload 3, .iload 1, .iload 2, .invokevirtual 30921, .ifCond .ne 33, .goto 69]),
  (33, none, [.aload 0, .iconst 0, .putfield 2332, .iconst 0, .istore 4, .goto_w 41]),
  (41, some [0, 3, 4], [.iload 4, .iconst 2, .iload 3, .imul, .if_icmp .ge 67, .aload 0, .aload 0, .getfield 2411, .iload 4, .iaload, .i2l, .invokevirtual 21785, .iinc 4 1, .goto 41]),
  (67, none, [.iload 3, .ireturn]),
  (69, none, [.iinc 3 1, .goto 14]),
  (75, none, [.iconst (-2), .ireturn])]
theorem tk_242 : bl_242.all (fun q => chk 242 q.1 q.2.2) = true := by decide +kernel
theorem py_242 : plainName (mN 242).cls = true := by decide +kernel
theorem ml_242 : mL 242 = 5 := rfl
/-- M.goesOver -/
def bl_243 : Tb := [
  (0, none, [.aload 0, .iconst 0, .putfield 2336, .aload 0, .iload 1, .invokevirtual 21913, .ifCond .eq 29, .iload 2, .invokestatic 22160, .ifCond .eq 29, .aload 0, .iload 1, .iload 2, .invokevirtual 31017, .goto 30]),
  (29, none, [.iconst (-1), .ireturn]),
  (30, none, [.ireturn])]
theorem tk_243 : bl_243.all (fun q => chk 243 q.1 q.2.2) = true := by decide +kernel
theorem py_243 : plainName (mN 243).cls = true := by decide +kernel
theorem ml_243 : mL 243 = 3 := rfl
/-- M.peace -/
def bl_244 : Tb := [
  (0, none, [.aload 0, .iconst 0, .putfield 2336, .aload 0, .iconst (-1), .iconst 0, .invokevirtual 31017, .ireturn])]
theorem tk_244 : bl_244.all (fun q => chk 244 q.1 q.2.2) = true := by decide +kernel
theorem py_244 : plainName (mN 244).cls = true := by decide +kernel
theorem ml_244 : mL 244 = 1 := rfl
/-- M.goRound -/
def bl_245 : Tb := [
  (0, none, [.iconst 0, .istore 2, .goto_w 2]),
  (2, some [0, 1, 2], [.iload 2, .aload 0, .getfield 2308, .if_icmp .ge 45, .iload 2, .iconst 1, .iadd, .istore 3, .goto_w 14]),
  (14, some [0, 1, 2, 3], [.iload 3, .aload 0, .getfield 2308, .if_icmp .ge 39, .aload 0, .aload 1, .iload 2, .iload 3, .invokevirtual 26553, .ifCond .lt 33, .return_]),
  (33, none, [.iinc 3 1, .goto 14]),
  (39, none, [.iinc 2 1, .goto 2]),
  (45, none, [.return_])]
theorem tk_245 : bl_245.all (fun q => chk 245 q.1 q.2.2) = true := by decide +kernel
theorem py_245 : plainName (mN 245).cls = true := by decide +kernel
theorem ml_245 : mL 245 = 4 := rfl
/-- M.campaign -/
def bl_246 : Tb := [
  (0, none, [.aload 0, .iconst 0, .putfield 2336, .iload 1, .iconst 0, .iconst 40, .invokestatic 21424, .ifCond .ne 17, .iconst (-1), .ireturn]),
  (17, none, [.aload 0, .getfield 2307, .aload 0, .getfield 2399, .iconst 0, .invokestatic 26032, .aload 0, .getfield 2399, .iconst 49, .iconst 0, .iastore, .iconst 0, .istore 2, .goto_w 39]),
  (39, some [0, 1, 2], [.iload 2, .iload 1, .if_icmp .ge 66, .aload 0, .aload 0, .getfield 2399, .invokevirtual 31385, .aload 0, .aload 0, .getfield 2399, .invokevirtual 26905, .iinc 2 1, .goto 39]),
  (66, none, [.aload 0, .iconst 0, .putfield 2332, .iconst 0, .istore 2, .goto_w 73]),
  (73, some [0, 2], [.iload 2, .aload 0, .getfield 2308, .if_icmp .ge 101, .aload 0, .aload 0, .getfield 2399, .iconst 6, .iload 2, .iadd, .iaload, .i2l, .invokevirtual 21785, .iinc 2 1, .goto 73]),
  (101, none, [.aload 0, .getfield 2399, .iconst 49, .iaload, .ireturn])]
theorem tk_246 : bl_246.all (fun q => chk 246 q.1 q.2.2) = true := by decide +kernel
theorem py_246 : plainName (mN 246).cls = true := by decide +kernel
theorem ml_246 : mL 246 = 3 := rfl
/-- M.halves -/
def bl_247 : Tb := [
  (0, none, [.aload 0, .iconst 0, .putfield 2336, .iload 1, .invokestatic 22160, .ifCond .ne 14, .iconst (-1), .ireturn]),
  (14, none, [.iconst (-1), .istore 2, .iconst 1, .istore 3, .goto_w 18]),
  (18, some [0, 1, 2, 3], [.iload 3, .aload 0, .invokevirtual 22281, .if_icmp .gt 113, .iconst 0, .istore 4, .iconst 0, .istore 5, .goto_w 32]),
  (32, some [0, 1, 2, 3, 4, 5], [.iload 5, .aload 0, .getfield 2308, .if_icmp .ge 75, .iload 4, .iload 3, .iload 5, .invokestatic 21536, .ifCond .eq 65, .aload 0, .getfield 2307, .iload 5, .iload 1, .invokestatic 22448, .goto 66]),
  (65, none, [.iconst 0, .iadd, .istore 4, .iinc 5 1, .goto 32]),
  (66, none, [.iadd, .istore 4, .iinc 5 1, .goto 32]),
  (75, none, [.iconst 2, .iload 4, .imul, .iconst 12, .iload 3, .invokestatic 36496, .imul, .if_icmp .ne 107, .iload 2, .iconst (-1), .if_icmp .eq 105, .iload 3, .invokestatic 36496, .iload 2, .invokestatic 36496, .if_icmp .ge 107, .iload 3, .istore 2, .iinc 3 1, .goto 18]),
  (105, none, [.iload 3, .istore 2, .iinc 3 1, .goto 18]),
  (107, none, [.iinc 3 1, .goto 18]),
  (113, none, [.iload 2, .iconst (-1), .if_icmp .ne 121, .iconst (-2), .ireturn]),
  (121, none, [.aload 0, .iconst 0, .putfield 2332, .aload 0, .iload 2, .i2l, .invokevirtual 21785, .iload 2, .invokestatic 36496, .ireturn])]
theorem tk_247 : bl_247.all (fun q => chk 247 q.1 q.2.2) = true := by decide +kernel
theorem py_247 : plainName (mN 247).cls = true := by decide +kernel
theorem ml_247 : mL 247 = 6 := rfl
/-- M.strengthOf -/
def bl_248 : Tb := [
  (0, none, [.iconst 0, .istore 2, .iconst 0, .istore 3, .goto_w 4]),
  (4, some [0, 1, 2, 3], [.iload 3, .aload 0, .getfield 2308, .if_icmp .ge 39, .iload 2, .iload 1, .iload 3, .invokestatic 21536, .ifCond .eq 30, .aload 0, .getfield 2307, .iload 3, .iaload, .goto 31]),
  (30, none, [.iconst 0, .iadd, .istore 2, .iinc 3 1, .goto 4]),
  (31, none, [.iadd, .istore 2, .iinc 3 1, .goto 4]),
  (39, none, [.iload 2, .ireturn])]
theorem tk_248 : bl_248.all (fun q => chk 248 q.1 q.2.2) = true := by decide +kernel
theorem py_248 : plainName (mN 248).cls = true := by decide +kernel
theorem ml_248 : mL 248 = 4 := rfl
/-- M.evens -/
def bl_249 : Tb := [
  (0, none, [.aload 0, .iconst 0, .putfield 2336, .aload 0, .aload 0, .invokevirtual 22281, .invokevirtual 31769, .istore 1, .iconst 0, .istore 2, .iconst 2, .istore 3, .goto_w 18]),
  (18, some [0, 1, 2, 3], [.iload 3, .aload 0, .invokevirtual 22281, .if_icmp .gt 61, .iconst 2, .aload 0, .iload 3, .invokevirtual 31769, .imul, .iload 1, .isub, .invokestatic 36752, .iconst 2, .aload 0, .iload 2, .invokevirtual 31769, .imul, .iload 1, .isub, .invokestatic 36752, .if_icmp .ge 55, .iload 3, .istore 2, .iinc 3 2, .goto 18]),
  (55, none, [.iinc 3 2, .goto 18]),
  (61, none, [.aload 0, .iconst 0, .putfield 2332, .aload 0, .iload 2, .i2l, .invokevirtual 21785, .iconst 2, .aload 0, .iload 2, .invokevirtual 31769, .imul, .iload 1, .isub, .invokestatic 36752, .ireturn])]
theorem tk_249 : bl_249.all (fun q => chk 249 q.1 q.2.2) = true := by decide +kernel
theorem py_249 : plainName (mN 249).cls = true := by decide +kernel
theorem ml_249 : mL 249 = 4 := rfl
end
section
/-! the methods' code, 250 to 292 -/
/-- M.orders -/
def bl_250 : Tb := [
  (0, none, [.iload 0, .ifCond .ne 8, .ldc2_w 1, .goto 17]),
  (8, none, [.iload 0, .i2l, .iload 0, .iconst 1, .isub, .invokestatic 32016, .lmul, .lreturn]),
  (17, none, [.lreturn])]
theorem tk_250 : bl_250.all (fun q => chk 250 q.1 q.2.2) = true := by decide +kernel
theorem py_250 : plainName (mN 250).cls = true := by decide +kernel
theorem ml_250 : mL 250 = 1 := rfl
/-- M.worth -/
def bl_251 : Tb := [
  (0, none, [.aload 0, .iconst 0, .putfield 2336, .aload 0, .iload 1, .invokevirtual 21913, .ifCond .ne 15, .iconst (-1), .ireturn]),
  (15, none, [.aload 0, .aload 0, .invokevirtual 22281, .invokevirtual 31769, .istore 2, .ldc2_w 0, .lstore 3, .iconst 0, .istore 5, .goto_w 29]),
  (29, some [0, 1, 2, 3, 5], [.iload 5, .aload 0, .invokevirtual 22281, .if_icmp .gt 111, .iload 5, .iload 1, .invokestatic 21536, .ifCond .ne 105, .iconst 2, .aload 0, .iload 5, .invokevirtual 31769, .imul, .iload 2, .if_icmp .gt 105, .iconst 2, .aload 0, .iload 5, .iconst 1, .iload 1, .ishl, .ior, .invokevirtual 31769, .imul, .iload 2, .if_icmp .gt 78, .goto 105]),
  (78, none, [.lload 3, .iload 5, .invokestatic 36496, .invokestatic 32016, .aload 0, .getfield 2308, .iconst 1, .isub, .iload 5, .invokestatic 36496, .isub, .invokestatic 32016, .lmul, .ladd, .lstore 3, .iinc 5 1, .goto 29]),
  (105, none, [.iinc 5 1, .goto 29]),
  (111, none, [.aload 0, .lload 3, .aload 0, .getfield 2308, .invokestatic 32016, .invokevirtual 28969, .iconst 0, .ireturn])]
theorem tk_251 : bl_251.all (fun q => chk 251 q.1 q.2.2) = true := by decide +kernel
theorem py_251 : plainName (mN 251).cls = true := by decide +kernel
theorem ml_251 : mL 251 = 6 := rfl
/-- M.patched -/
def bl_252 : Tb := [
  (0, none, [.aload 0, .iconst 0, .putfield 2336, .iload 1, .invokestatic 22160, .ifCond .eq 22, .iload 2, .iconst 0, .iconst 12, .invokestatic 21424, .ifCond .ne 24, .iconst (-1), .ireturn]),
  (22, none, [.iconst (-1), .ireturn]),
  (24, none, [.iconst 0, .istore 3, .iconst 0, .istore 4, .iconst 0, .istore 5, .goto_w 32]),
  (32, some [0, 1, 2, 3, 4, 5], [.iload 5, .aload 0, .getfield 2308, .if_icmp .ge 89, .iload 3, .aload 0, .getfield 2307, .iload 5, .iload 1, .invokestatic 22448, .iload 2, .if_icmp .lt 63, .iconst 1, .iload 5, .ishl, .goto 64]),
  (63, none, [.iconst 0, .ior, .istore 3, .iload 4, .aload 0, .getfield 2307, .iload 5, .iload 1, .invokestatic 22448, .invokestatic 36896, .istore 4, .iinc 5 1, .goto 32]),
  (64, none, [.ior, .istore 3, .iload 4, .aload 0, .getfield 2307, .iload 5, .iload 1, .invokestatic 22448, .invokestatic 36896, .istore 4, .iinc 5 1, .goto 32]),
  (89, none, [.aload 0, .iconst 0, .putfield 2332, .aload 0, .iload 3, .invokestatic 36496, .i2l, .invokevirtual 21785, .aload 0, .iload 4, .i2l, .invokevirtual 21785, .iload 3, .ireturn])]
theorem tk_252 : bl_252.all (fun q => chk 252 q.1 q.2.2) = true := by decide +kernel
theorem py_252 : plainName (mN 252).cls = true := by decide +kernel
theorem ml_252 : mL 252 = 6 := rfl
/-- M.seen -/
def bl_253 : Tb := [
  (0, none, [.aload 0, .iconst 0, .putfield 2336, .iload 1, .ifCond .eq 14, .iload 1, .iconst 2, .if_icmp .ne 18, .iconst 3, .goto 39]),
  (14, none, [.iconst 3, .goto 39]),
  (18, none, [.iload 1, .iconst 1, .if_icmp .ne 28, .iconst 9, .goto 39]),
  (28, none, [.iload 1, .iconst 4, .if_icmp .ne 37, .iconst 1, .goto 39]),
  (37, none, [.iconst 99, .istore 3, .iload 1, .iconst 0, .iconst 4, .invokestatic 21424, .ifCond .eq 67, .iload 2, .iconst 0, .iload 3, .invokestatic 21424, .ifCond .eq 67, .aload 0, .getfield 2424, .iconst 12, .if_icmp .ne 69, .iconst (-1), .ireturn]),
  (39, none, [.istore 3, .iload 1, .iconst 0, .iconst 4, .invokestatic 21424, .ifCond .eq 67, .iload 2, .iconst 0, .iload 3, .invokestatic 21424, .ifCond .eq 67, .aload 0, .getfield 2424, .iconst 12, .if_icmp .ne 69, .iconst (-1), .ireturn]),
  (67, none, [.iconst (-1), .ireturn]),
  (69, none, [.aload 0, .getfield 2419, .aload 0, .getfield 2424, .iload 1, .iastore, .aload 0, .getfield 2423, .aload 0, .getfield 2424, .iload 2, .iastore, .aload 0, .dup, .getfield 2424, .iconst 1, .iadd, .putfield 2424, .aload 0, .getfield 2424, .ireturn])]
theorem tk_253 : bl_253.all (fun q => chk 253 q.1 q.2.2) = true := by decide +kernel
theorem py_253 : plainName (mN 253).cls = true := by decide +kernel
theorem ml_253 : mL 253 = 4 := rfl
/-- M.forget -/
def bl_254 : Tb := [
  (0, none, [.aload 0, .iconst 0, .putfield 2336, .aload 0, .getfield 2424, .istore 1, .aload 0, .iconst 0, .putfield 2424, .iload 1, .ireturn])]
theorem tk_254 : bl_254.all (fun q => chk 254 q.1 q.2.2) = true := by decide +kernel
theorem py_254 : plainName (mN 254).cls = true := by decide +kernel
theorem ml_254 : mL 254 = 2 := rfl
/-- M.fits3 -/
def bl_255 : Tb := [
  (0, none, [.iload 2, .lookupswitch 104 #[(0, 32), (1, 51), (2, 67), (3, 85)]]),
  (32, none, [.aload 0, .getfield 2307, .iconst 6, .iload 1, .iadd, .iaload, .iload 3, .if_icmp .ne 49, .iconst 1, .goto 50]),
  (49, none, [.iconst 0, .freturn]),
  (50, none, [.freturn]),
  (51, none, [.aload 0, .getfield 2307, .iload 1, .iaload, .iload 3, .if_icmp .lt 65, .iconst 1, .goto 66]),
  (65, none, [.iconst 0, .freturn]),
  (66, none, [.freturn]),
  (67, none, [.aload 0, .getfield 2307, .iload 1, .iload 3, .invokestatic 22448, .ifCond .le 83, .iconst 1, .goto 84]),
  (83, none, [.iconst 0, .freturn]),
  (84, none, [.freturn]),
  (85, none, [.aload 0, .getfield 2307, .iconst 36, .iload 1, .iadd, .iaload, .iload 3, .if_icmp .lt 102, .iconst 1, .goto 103]),
  (102, none, [.iconst 0, .freturn]),
  (103, none, [.freturn]),
  (104, none, [.aload 0, .getfield 2307, .iconst 42, .iload 1, .iadd, .iaload, .ifCond .le 120, .iconst 1, .goto 121]),
  (120, none, [.iconst 0, .iload 3, .iconst 1, .if_icmp .ne 130, .iconst 1, .goto 131]),
  (121, none, [.iload 3, .iconst 1, .if_icmp .ne 130, .iconst 1, .goto 131]),
  (130, none, [.iconst 0, .if_icmp .ne 138, .iconst 1, .goto 139]),
  (131, none, [.if_icmp .ne 138, .iconst 1, .goto 139]),
  (138, none, [.iconst 0, .freturn]),
  (139, none, [.freturn])]
theorem tk_255 : bl_255.all (fun q => chk 255 q.1 q.2.2) = true := by decide +kernel
theorem py_255 : plainName (mN 255).cls = true := by decide +kernel
theorem ml_255 : mL 255 = 4 := rfl
/-- M.fitting -/
def bl_256 : Tb := [
  (0, none, [.iconst 0, .istore 1, .iconst 0, .istore 2, .goto_w 4]),
  (4, some [0, 1, 2], [.iload 2, .aload 0, .getfield 2308, .if_icmp .ge 84, .iconst 1, .istore 3, .iconst 0, .istore 4, .goto_w 17]),
  (17, some [0, 1, 2, 3, 4], [.iload 4, .aload 0, .getfield 2424, .if_icmp .ge 64, .iload 3, .ifCond .eq 56, .aload 0, .iload 2, .aload 0, .getfield 2419, .iload 4, .iaload, .aload 0, .getfield 2423, .iload 4, .iaload, .invokevirtual 32697, .ifCond .eq 56, .iconst 1, .goto 57]),
  (56, none, [.iconst 0, .istore 3, .iinc 4 1, .goto 17]),
  (57, none, [.istore 3, .iinc 4 1, .goto 17]),
  (64, none, [.iload 1, .iload 3, .ifCond .eq 75, .iconst 1, .iload 2, .ishl, .goto 76]),
  (75, none, [.iconst 0, .ior, .istore 1, .iinc 2 1, .goto 4]),
  (76, none, [.ior, .istore 1, .iinc 2 1, .goto 4]),
  (84, none, [.iload 1, .ireturn])]
theorem tk_256 : bl_256.all (fun q => chk 256 q.1 q.2.2) = true := by decide +kernel
theorem py_256 : plainName (mN 256).cls = true := by decide +kernel
theorem ml_256 : mL 256 = 5 := rfl
/-- M.fits0 -/
def bl_257 : Tb := [
  (0, none, [.aload 0, .iconst 0, .putfield 2336, .aload 0, .invokevirtual 32777, .istore 1, .aload 0, .iconst 0, .putfield 2332, .aload 0, .iload 1, .invokestatic 36496, .i2l, .invokevirtual 21785, .iload 1, .ireturn])]
theorem tk_257 : bl_257.all (fun q => chk 257 q.1 q.2.2) = true := by decide +kernel
theorem py_257 : plainName (mN 257).cls = true := by decide +kernel
theorem ml_257 : mL 257 = 2 := rfl
/-- M.looks -/
def bl_258 : Tb := [
  (0, none, [.aload 0, .iconst 0, .putfield 2336, .aload 0, .invokevirtual 32777, .istore 1, .iload 1, .ifCond .ne 17, .iconst (-2), .ireturn]),
  (17, none, [.iconst (-1), .istore 2, .iconst 1000000, .istore 3, .iconst 0, .istore 4, .goto_w 26]),
  (26, some [0, 1, 2, 3, 4], [.iload 4, .iconst 4, .if_icmp .ge 121, .iconst 0, .istore 5, .iconst 0, .istore 6, .goto_w 38]),
  (38, some [0, 1, 2, 3, 4, 5, 6], [.iload 6, .aload 0, .getfield 2308, .if_icmp .ge 86, .iload 5, .iload 1, .iload 6, .invokestatic 21536, .ifCond .eq 76, .aload 0, .getfield 2307, .iload 6, .iload 4, .invokestatic 22448, .ifCond .le 76, .iconst 1, .goto 77]),
  (76, none, [.iconst 0, .iadd, .istore 5, .iinc 6 1, .goto 38]),
  (77, none, [.iadd, .istore 5, .iinc 6 1, .goto 38]),
  (86, none, [.iload 5, .iload 1, .invokestatic 36496, .iload 5, .isub, .invokestatic 36896, .istore 6, .iload 6, .iload 3, .if_icmp .lt 109, .goto 115]),
  (109, none, [.iload 4, .istore 2, .iload 6, .istore 3, .iinc 4 1, .goto 26]),
  (115, none, [.iinc 4 1, .goto 26]),
  (121, none, [.aload 0, .iconst 0, .putfield 2332, .aload 0, .iload 3, .i2l, .invokevirtual 21785, .iload 2, .ireturn])]
theorem tk_258 : bl_258.all (fun q => chk 258 q.1 q.2.2) = true := by decide +kernel
theorem py_258 : plainName (mN 258).cls = true := by decide +kernel
theorem ml_258 : mL 258 = 7 := rfl
/-- M.told -/
def bl_259 : Tb := [
  (0, none, [.aload 0, .iconst 0, .putfield 2336, .iload 1, .iconst 0, .iconst 12, .invokestatic 21424, .ifCond .eq 45, .iload 2, .iconst 0, .iconst 12, .iload 1, .isub, .invokestatic 21424, .ifCond .eq 45, .iload 3, .iconst 0, .iconst 1, .invokestatic 21424, .ifCond .eq 45, .aload 0, .getfield 2440, .iconst 12, .if_icmp .ne 47, .iconst (-1), .ireturn]),
  (45, none, [.iconst (-1), .ireturn]),
  (47, none, [.aload 0, .getfield 2431, .aload 0, .getfield 2440, .iload 1, .iastore, .aload 0, .getfield 2435, .aload 0, .getfield 2440, .iload 2, .iastore, .aload 0, .aload 0, .getfield 2436, .iconst 1, .aload 0, .getfield 2440, .ishl, .iconst (-1), .ixor, .iand, .iload 3, .aload 0, .getfield 2440, .ishl, .ior, .putfield 2436, .aload 0, .dup, .getfield 2440, .iconst 1, .iadd, .putfield 2440, .aload 0, .getfield 2440, .ireturn])]
theorem tk_259 : bl_259.all (fun q => chk 259 q.1 q.2.2) = true := by decide +kernel
theorem py_259 : plainName (mN 259).cls = true := by decide +kernel
theorem ml_259 : mL 259 = 4 := rfl
/-- M.deny -/
def bl_260 : Tb := [
  (0, none, [.aload 0, .iconst 0, .putfield 2336, .aload 0, .getfield 2440, .istore 1, .aload 0, .iconst 0, .putfield 2440, .iload 1, .ireturn])]
theorem tk_260 : bl_260.all (fun q => chk 260 q.1 q.2.2) = true := by decide +kernel
theorem py_260 : plainName (mN 260).cls = true := by decide +kernel
theorem ml_260 : mL 260 = 2 := rfl
/-- M.goesBy -/
def bl_261 : Tb := [
  (0, none, [.iload 2, .iload 0, .if_icmp .lt 12, .iload 3, .iload 2, .iload 1, .iadd, .if_icmp .lt 16, .iconst 1, .goto 17]),
  (12, none, [.iconst 1, .goto 17]),
  (16, none, [.iconst 0, .freturn]),
  (17, none, [.freturn])]
theorem tk_261 : bl_261.all (fun q => chk 261 q.1 q.2.2) = true := by decide +kernel
theorem py_261 : plainName (mN 261).cls = true := by decide +kernel
theorem ml_261 : mL 261 = 4 := rfl
/-- M.isLaw -/
def bl_262 : Tb := [
  (0, none, [.iconst 0, .istore 3, .goto_w 2]),
  (2, some [0, 1, 2, 3], [.iload 3, .aload 0, .getfield 2440, .if_icmp .ge 46, .iload 1, .iload 2, .aload 0, .getfield 2431, .iload 3, .iaload, .aload 0, .getfield 2435, .iload 3, .iaload, .invokestatic 33472, .aload 0, .getfield 2436, .iload 3, .invokestatic 21536, .if_icmp .eq 40, .iconst 0, .freturn]),
  (40, none, [.iinc 3 1, .goto 2]),
  (46, none, [.iconst 1, .freturn])]
theorem tk_262 : bl_262.all (fun q => chk 262 q.1 q.2.2) = true := by decide +kernel
theorem py_262 : plainName (mN 262).cls = true := by decide +kernel
theorem ml_262 : mL 262 = 4 := rfl
/-- M.laws -/
def bl_263 : Tb := [
  (0, none, [.aload 0, .iconst 0, .putfield 2336, .iconst 0, .istore 1, .aload 0, .iconst 0, .putfield 2332, .iconst 0, .istore 2, .goto_w 14]),
  (14, some [0, 1, 2], [.iload 2, .iconst 12, .if_icmp .gt 71, .iconst 0, .istore 3, .goto_w 22]),
  (22, some [0, 1, 2, 3], [.iload 3, .iconst 12, .if_icmp .gt 65, .aload 0, .iload 2, .iload 3, .invokevirtual 33577, .ifCond .ne 40, .goto 59]),
  (40, none, [.iload 1, .ifCond .ne 56, .aload 0, .iload 2, .i2l, .invokevirtual 21785, .aload 0, .iload 3, .i2l, .invokevirtual 21785, .iinc 1 1, .iinc 3 1, .goto 22]),
  (56, none, [.iinc 1 1, .iinc 3 1, .goto 22]),
  (59, none, [.iinc 3 1, .goto 22]),
  (65, none, [.iinc 2 1, .goto 14]),
  (71, none, [.iload 1, .ireturn])]
theorem tk_263 : bl_263.all (fun q => chk 263 q.1 q.2.2) = true := by decide +kernel
theorem py_263 : plainName (mN 263).cls = true := by decide +kernel
theorem ml_263 : mL 263 = 4 := rfl
/-- M.leftBy -/
def bl_264 : Tb := [
  (0, none, [.iconst 0, .istore 3, .iconst 0, .istore 4, .iconst 0, .istore 5, .goto_w 8]),
  (8, some [0, 1, 2, 3, 4, 5], [.iload 5, .iconst 12, .if_icmp .gt 72, .iconst 0, .istore 6, .goto_w 18]),
  (18, some [0, 1, 2, 3, 4, 5, 6], [.iload 6, .iconst 12, .if_icmp .gt 66, .aload 0, .iload 5, .iload 6, .invokevirtual 33577, .ifCond .ne 39, .goto 60]),
  (39, none, [.iload 5, .iload 6, .iload 1, .iload 2, .invokestatic 33472, .ifCond .eq 57, .iinc 3 1, .goto 60]),
  (57, none, [.iinc 4 1, .iinc 6 1, .goto 18]),
  (60, none, [.iinc 6 1, .goto 18]),
  (66, none, [.iinc 5 1, .goto 8]),
  (72, none, [.iload 3, .iload 4, .invokestatic 36896, .ireturn])]
theorem tk_264 : bl_264.all (fun q => chk 264 q.1 q.2.2) = true := by decide +kernel
theorem py_264 : plainName (mN 264).cls = true := by decide +kernel
theorem ml_264 : mL 264 = 7 := rfl
/-- M.asks -/
def bl_265 : Tb := [
  (0, none, [.aload 0, .iconst 0, .putfield 2336, .iconst (-1), .istore 1, .iconst 1000000, .istore 2, .iconst 0, .istore 3, .goto_w 13]),
  (13, some [0, 1, 2, 3], [.iload 3, .iconst 12, .if_icmp .gt 72, .iconst 0, .istore 4, .goto_w 22]),
  (22, some [0, 1, 2, 3, 4], [.iload 4, .iconst 12, .iload 3, .isub, .if_icmp .gt 66, .aload 0, .iload 3, .iload 4, .invokevirtual 33833, .istore 5, .iload 5, .iload 2, .if_icmp .lt 49, .goto 60]),
  (49, none, [.iconst 13, .iload 3, .imul, .iload 4, .iadd, .istore 1, .iload 5, .istore 2, .iinc 4 1, .goto 22]),
  (60, none, [.iinc 4 1, .goto 22]),
  (66, none, [.iinc 3 1, .goto 13]),
  (72, none, [.iload 2, .ifCond .ne 79, .iconst (-2), .ireturn]),
  (79, none, [.aload 0, .iconst 0, .putfield 2332, .aload 0, .iload 2, .i2l, .invokevirtual 21785, .iload 1, .ireturn])]
theorem tk_265 : bl_265.all (fun q => chk 265 q.1 q.2.2) = true := by decide +kernel
theorem py_265 : plainName (mN 265).cls = true := by decide +kernel
theorem ml_265 : mL 265 = 6 := rfl
/-- M.isLost -/
def bl_266 : Tb := [
  (0, none, [.aload 0, .getfield 2447, .iconst 31, .iload 1, .imul, .iload 2, .iadd, .saload, .freturn])]
theorem tk_266 : bl_266.all (fun q => chk 266 q.1 q.2.2) = true := by decide +kernel
theorem py_266 : plainName (mN 266).cls = true := by decide +kernel
theorem ml_266 : mL 266 = 3 := rfl
/-- M.bestMove -/
def bl_267 : Tb := [
  (0, none, [.iconst 0, .istore 3, .goto_w 2]),
  (2, some [0, 1, 2, 3], [.iload 3, .iload 1, .if_icmp .gt 76, .iload 3, .ifCond .ne 15, .iconst 1, .goto 16]),
  (15, none, [.iconst 0, .istore 4, .goto_w 18]),
  (16, none, [.istore 4, .goto_w 18]),
  (18, some [0, 1, 2, 3, 4], [.iload 4, .iload 2, .if_icmp .gt 70, .iload 3, .ifCond .le 42, .iload 4, .ifCond .le 42, .iload 3, .iload 4, .if_icmp .eq 42, .goto 64]),
  (42, none, [.aload 0, .iload 1, .iload 3, .isub, .iload 2, .iload 4, .isub, .invokevirtual 34089, .ifCond .eq 64, .iconst 31, .iload 3, .imul, .iload 4, .iadd, .ireturn]),
  (64, none, [.iinc 4 1, .goto 18]),
  (70, none, [.iinc 3 1, .goto 2]),
  (76, none, [.iconst 0, .ireturn])]
theorem tk_267 : bl_267.all (fun q => chk 267 q.1 q.2.2) = true := by decide +kernel
theorem py_267 : plainName (mN 267).cls = true := by decide +kernel
theorem ml_267 : mL 267 = 5 := rfl
/-- M.treaty -/
def bl_268 : Tb := [
  (0, none, [.aload 0, .iconst 0, .putfield 2336, .iload 1, .iconst 0, .iconst 30, .invokestatic 21424, .ifCond .eq 25, .iload 2, .iconst 0, .iconst 30, .invokestatic 21424, .ifCond .ne 27, .iconst (-1), .ireturn]),
  (25, none, [.iconst (-1), .ireturn]),
  (27, none, [.iconst 0, .istore 3, .goto_w 29]),
  (29, some [0, 1, 2, 3], [.iload 3, .iload 1, .if_icmp .gt 82, .iconst 0, .istore 4, .goto_w 37]),
  (37, some [0, 1, 2, 3, 4], [.iload 4, .iload 2, .if_icmp .gt 76, .aload 0, .getfield 2447, .iconst 31, .iload 3, .imul, .iload 4, .iadd, .aload 0, .iload 3, .iload 4, .invokevirtual 34217, .ifCond .ne 68, .iconst 1, .goto 69]),
  (68, none, [.iconst 0, .sastore, .iinc 4 1, .goto 37]),
  (69, none, [.sastore, .iinc 4 1, .goto 37]),
  (76, none, [.iinc 3 1, .goto 29]),
  (82, none, [.aload 0, .iload 1, .iload 2, .invokevirtual 34217, .istore 3, .aload 0, .iconst 0, .putfield 2332, .iload 3, .ifCond .ne 100, .iconst 0, .ireturn]),
  (100, none, [.aload 0, .iload 3, .iconst 31, .idiv, .i2l, .invokevirtual 21785, .aload 0, .iload 3, .iconst 31, .irem, .i2l, .invokevirtual 21785, .iconst 1, .ireturn])]
theorem tk_268 : bl_268.all (fun q => chk 268 q.1 q.2.2) = true := by decide +kernel
theorem py_268 : plainName (mN 268).cls = true := by decide +kernel
theorem ml_268 : mL 268 = 5 := rfl
/-- M.power -/
def bl_269 : Tb := [
  (0, none, [.ldc2_w 1, .lstore 3, .iconst 0, .istore 5, .goto_w 5]),
  (5, some [0, 2, 3, 5], [.iload 5, .iload 2, .if_icmp .ge 21, .lload 3, .lload 0, .lmul, .lstore 3, .iinc 5 1, .goto 5]),
  (21, none, [.lload 3, .lreturn])]
theorem tk_269 : bl_269.all (fun q => chk 269 q.1 q.2.2) = true := by decide +kernel
theorem py_269 : plainName (mN 269).cls = true := by decide +kernel
theorem ml_269 : mL 269 = 6 := rfl
/-- M.series -/
def bl_270 : Tb := [
  (0, none, [.aload 0, .iconst 0, .putfield 2336, .iload 1, .iconst 1, .iconst 8, .invokestatic 21424, .ifCond .eq 35, .iload 2, .iconst 1, .iconst 8, .invokestatic 21424, .ifCond .eq 35, .iload 3, .iconst 0, .iconst 10, .invokestatic 21424, .ifCond .ne 37, .iconst (-1), .ireturn]),
  (35, none, [.iconst (-1), .ireturn]),
  (37, none, [.iload 1, .iload 2, .iadd, .iconst 1, .isub, .istore 4, .ldc2_w 0, .lstore 5, .ldc2_w 1, .lstore 7, .iconst 0, .istore 9, .goto_w 53]),
  (53, some [0, 1, 3, 4, 5, 7, 9], [.iload 9, .iload 4, .if_icmp .gt 122, .lload 5, .iload 9, .iload 1, .if_icmp .lt 95, .lload 7, .iload 3, .i2l, .iload 9, .invokestatic 34464, .lmul, .iconst 10, .iload 3, .isub, .i2l, .iload 4, .iload 9, .isub, .invokestatic 34464, .lmul, .goto 96]),
  (95, none, [.ldc2_w 0, .ladd, .lstore 5, .lload 7, .iload 4, .iload 9, .isub, .i2l, .lmul, .iload 9, .iconst 1, .iadd, .i2l, .ldiv, .lstore 7, .iinc 9 1, .goto 53]),
  (96, none, [.ladd, .lstore 5, .lload 7, .iload 4, .iload 9, .isub, .i2l, .lmul, .iload 9, .iconst 1, .iadd, .i2l, .ldiv, .lstore 7, .iinc 9 1, .goto 53]),
  (122, none, [.aload 0, .lload 5, .ldc2_w 10, .iload 4, .invokestatic 34464, .invokevirtual 28969, .iconst 0, .ireturn])]
theorem tk_270 : bl_270.all (fun q => chk 270 q.1 q.2.2) = true := by decide +kernel
theorem py_270 : plainName (mN 270).cls = true := by decide +kernel
theorem ml_270 : mL 270 = 10 := rfl
/-- M.gets -/
def bl_271 : Tb := [
  (0, none, [.iload 0, .iload 1, .if_icmp .le 9, .iload 2, .goto 21]),
  (9, none, [.iload 0, .iload 1, .if_icmp .ne 20, .iload 2, .iconst 2, .idiv, .goto 21]),
  (20, none, [.iconst 0, .iload 0, .isub, .iload 0, .iload 1, .iconst 3, .iadd, .if_icmp .lt 34, .iconst 2, .goto 35]),
  (21, none, [.iload 0, .isub, .iload 0, .iload 1, .iconst 3, .iadd, .if_icmp .lt 34, .iconst 2, .goto 35]),
  (34, none, [.iconst 0, .isub, .ireturn]),
  (35, none, [.isub, .ireturn])]
theorem tk_271 : bl_271.all (fun q => chk 271 q.1 q.2.2) = true := by decide +kernel
theorem py_271 : plainName (mN 271).cls = true := by decide +kernel
theorem ml_271 : mL 271 = 3 := rfl
/-- M.isBest -/
def bl_272 : Tb := [
  (0, none, [.iconst 0, .istore 3, .goto_w 2]),
  (2, some [0, 1, 2, 3], [.iload 3, .iconst 9, .if_icmp .gt 31, .iload 3, .iload 1, .iload 2, .invokestatic 34736, .iload 0, .iload 1, .iload 2, .invokestatic 34736, .if_icmp .le 25, .iconst 0, .freturn]),
  (25, none, [.iinc 3 1, .goto 2]),
  (31, none, [.iconst 1, .freturn])]
theorem tk_272 : bl_272.all (fun q => chk 272 q.1 q.2.2) = true := by decide +kernel
theorem py_272 : plainName (mN 272).cls = true := by decide +kernel
theorem ml_272 : mL 272 = 4 := rfl
/-- M.rests -/
def bl_273 : Tb := [
  (0, none, [.aload 0, .iconst 0, .putfield 2336, .iload 1, .iconst 0, .iconst 20, .invokestatic 21424, .ifCond .ne 17, .iconst (-1), .ireturn]),
  (17, none, [.iconst 0, .istore 2, .aload 0, .iconst 0, .putfield 2332, .iconst 0, .istore 3, .goto_w 26]),
  (26, some [0, 1, 2, 3], [.iload 3, .iconst 9, .if_icmp .gt 97, .iconst 0, .istore 4, .goto_w 35]),
  (35, some [0, 1, 2, 3, 4], [.iload 4, .iconst 9, .if_icmp .gt 91, .iload 3, .iload 4, .iload 1, .invokestatic 34864, .ifCond .eq 85, .iload 4, .iload 3, .iload 1, .invokestatic 34864, .ifCond .ne 65, .goto 85]),
  (65, none, [.iload 2, .ifCond .ne 82, .aload 0, .iload 3, .i2l, .invokevirtual 21785, .aload 0, .iload 4, .i2l, .invokevirtual 21785, .iinc 2 1, .iinc 4 1, .goto 35]),
  (82, none, [.iinc 2 1, .iinc 4 1, .goto 35]),
  (85, none, [.iinc 4 1, .goto 35]),
  (91, none, [.iinc 3 1, .goto 26]),
  (97, none, [.iload 2, .ireturn])]
theorem tk_273 : bl_273.all (fun q => chk 273 q.1 q.2.2) = true := by decide +kernel
theorem py_273 : plainName (mN 273).cls = true := by decide +kernel
theorem ml_273 : mL 273 = 5 := rfl
/-- M.lesserWins -/
def bl_274 : Tb := [
  (0, none, [.iconst 0, .istore 1, .iconst 0, .istore 2, .goto_w 4]),
  (4, some [0, 1, 2], [.iload 2, .aload 0, .getfield 2308, .if_icmp .ge 58, .iload 2, .iconst 1, .iadd, .istore 3, .goto_w 16]),
  (16, some [0, 1, 2, 3], [.iload 3, .aload 0, .getfield 2308, .if_icmp .ge 52, .iload 1, .aload 0, .aload 0, .getfield 2307, .iload 2, .iload 3, .invokevirtual 26425, .iload 2, .if_icmp .ne 43, .iconst 1, .goto 44]),
  (43, none, [.iconst 0, .iadd, .istore 1, .iinc 3 1, .goto 16]),
  (44, none, [.iadd, .istore 1, .iinc 3 1, .goto 16]),
  (52, none, [.iinc 2 1, .goto 4]),
  (58, none, [.iload 1, .ireturn])]
theorem tk_274 : bl_274.all (fun q => chk 274 q.1 q.2.2) = true := by decide +kernel
theorem py_274 : plainName (mN 274).cls = true := by decide +kernel
theorem ml_274 : mL 274 = 4 := rfl
/-- M.law -/
def bl_275 : Tb := [
  (0, none, [.aload 0, .iconst 0, .putfield 2336, .aload 0, .getfield 2324, .istore 1, .aload 0, .invokevirtual 24969, .ifCond .ne 26, .iconst (-10000), .aload 0, .getfield 2356, .isub, .ireturn]),
  (26, none, [.aload 0, .invokevirtual 35081, .istore 2, .aload 0, .getfield 2366, .astore 3, .aload 0, .getfield 2372, .istore 4, .aload 0, .aload 0, .getfield 2370, .putfield 2366, .aload 0, .iload 1, .putfield 2372, .iconst 0, .istore 5, .goto_w 58]),
  (58, some [0, 1, 2, 3, 4, 5], [.iload 5, .iload 1, .if_icmp .ge 84, .aload 0, .getfield 2366, .iload 5, .aload 0, .getfield 2323, .iload 5, .baload, .bastore, .iinc 5 1, .goto 58]),
  (84, none, [.aload 0, .invokevirtual 35081, .istore 5, .aload 0, .aload 3, .putfield 2366, .aload 0, .iload 4, .putfield 2372, .aload 0, .iconst 0, .putfield 2332, .aload 0, .iload 5, .i2l, .invokevirtual 21785, .aload 0, .iload 2, .i2l, .invokevirtual 21785, .iload 5, .iload 2, .isub, .ireturn])]
theorem tk_275 : bl_275.all (fun q => chk 275 q.1 q.2.2) = true := by decide +kernel
theorem py_275 : plainName (mN 275).cls = true := by decide +kernel
theorem ml_275 : mL 275 = 6 := rfl
/-- M.draw -/
def bl_276 : Tb := [
  (0, none, [.aload 0, .aload 0, .getfield 2448, .iconst 1103515245, .imul, .iconst 12345, .iadd, .putfield 2448, .aload 0, .getfield 2448, .iconst 16, .iushr, .iload 1, .irem, .ireturn])]
theorem tk_276 : bl_276.all (fun q => chk 276 q.1 q.2.2) = true := by decide +kernel
theorem py_276 : plainName (mN 276).cls = true := by decide +kernel
theorem ml_276 : mL 276 = 2 := rfl
/-- M.years -/
def bl_277 : Tb := [
  (0, none, [.aload 0, .iconst 0, .putfield 2336, .iload 2, .iconst 1, .iconst 60, .invokestatic 21424, .ifCond .ne 17, .iconst (-1), .ireturn]),
  (17, none, [.aload 0, .iload 1, .putfield 2448, .aload 0, .getfield 2307, .aload 0, .getfield 2399, .iconst 0, .invokestatic 26032, .aload 0, .getfield 2399, .iconst 49, .iconst 0, .iastore, .iconst 0, .istore 3, .goto_w 44]),
  (44, some [0, 2, 3], [.iload 3, .iload 2, .if_icmp .ge 180, .aload 0, .iconst 4, .invokevirtual 35353, .istore 4, .iload 4, .ifCond .ne 69, .aload 0, .aload 0, .getfield 2399, .invokevirtual 26905, .iload 4, .ifCond .eq 174, .aload 0, .getfield 2308, .ifCond .ne 84, .goto 174]),
  (69, none, [.iload 4, .ifCond .eq 174, .aload 0, .getfield 2308, .ifCond .ne 84, .goto 174]),
  (84, none, [.aload 0, .aload 0, .getfield 2308, .invokevirtual 35353, .istore 5, .aload 0, .iload 4, .iconst 3, .if_icmp .ne 105, .iconst 4, .goto 109]),
  (105, none, [.aload 0, .getfield 2308, .invokevirtual 35353, .istore 6, .iload 4, .iconst 3, .if_icmp .ne 148, .aload 0, .aload 0, .getfield 2399, .iload 5, .iload 6, .iconst 1, .invokevirtual 27465, .ifCond .ne 148, .aload 0, .getfield 2399, .iload 5, .iload 6, .iconst 1, .invokestatic 27584, .iload 4, .iconst 3, .if_icmp .ge 174, .iload 5, .iload 6, .if_icmp .eq 174, .aload 0, .aload 0, .getfield 2399, .iload 5, .iload 6, .invokevirtual 26553, .pop, .iinc 3 1, .goto 44]),
  (109, none, [.invokevirtual 35353, .istore 6, .iload 4, .iconst 3, .if_icmp .ne 148, .aload 0, .aload 0, .getfield 2399, .iload 5, .iload 6, .iconst 1, .invokevirtual 27465, .ifCond .ne 148, .aload 0, .getfield 2399, .iload 5, .iload 6, .iconst 1, .invokestatic 27584, .iload 4, .iconst 3, .if_icmp .ge 174, .iload 5, .iload 6, .if_icmp .eq 174, .aload 0, .aload 0, .getfield 2399, .iload 5, .iload 6, .invokevirtual 26553, .pop, .iinc 3 1, .goto 44]),
  (148, none, [.iload 4, .iconst 3, .if_icmp .ge 174, .iload 5, .iload 6, .if_icmp .eq 174, .aload 0, .aload 0, .getfield 2399, .iload 5, .iload 6, .invokevirtual 26553, .pop, .iinc 3 1, .goto 44]),
  (174, none, [.iinc 3 1, .goto 44]),
  (180, none, [.aload 0, .iconst 0, .putfield 2332, .aload 0, .aload 0, .aload 0, .getfield 2399, .iconst 0, .invokevirtual 25769, .i2l, .invokevirtual 21785, .aload 0, .aload 0, .aload 0, .getfield 2399, .iconst 36, .invokevirtual 25769, .i2l, .invokevirtual 21785, .aload 0, .getfield 2399, .iconst 49, .iaload, .ireturn])]
theorem tk_277 : bl_277.all (fun q => chk 277 q.1 q.2.2) = true := by decide +kernel
theorem py_277 : plainName (mN 277).cls = true := by decide +kernel
theorem ml_277 : mL 277 = 7 := rfl
/-- M.keep -/
def bl_278 : Tb := [
  (0, none, [.aload 0, .iconst 0, .putfield 2336, .iload 1, .iconst 0, .iconst 1, .invokestatic 21424, .ifCond .ne 16, .iconst 0, .freturn]),
  (16, none, [.aload 0, .getfield 2463, .iload 1, .iconst 1, .sastore, .aload 0, .getfield 2467, .iload 1, .aload 0, .getfield 2452, .iastore, .aload 0, .getfield 2307, .aload 0, .getfield 2459, .iconst 50, .iload 1, .imul, .invokestatic 26032, .iconst 1, .freturn])]
theorem tk_278 : bl_278.all (fun q => chk 278 q.1 q.2.2) = true := by decide +kernel
theorem py_278 : plainName (mN 278).cls = true := by decide +kernel
theorem ml_278 : mL 278 = 2 := rfl
/-- M.again -/
def bl_279 : Tb := [
  (0, none, [.aload 0, .iconst 0, .putfield 2336, .iload 1, .iconst 0, .iconst 1, .invokestatic 21424, .ifCond .eq 36, .aload 0, .getfield 2463, .iload 1, .saload, .ifCond .eq 36, .aload 0, .getfield 2467, .iload 1, .iaload, .aload 0, .getfield 2452, .if_icmp .eq 38, .iconst 0, .freturn]),
  (36, none, [.iconst 0, .freturn]),
  (38, none, [.iconst 0, .istore 2, .goto_w 40]),
  (40, some [0, 1, 2], [.iload 2, .iconst 50, .if_icmp .ge 69, .aload 0, .getfield 2307, .iload 2, .aload 0, .getfield 2459, .iconst 50, .iload 1, .imul, .iload 2, .iadd, .iaload, .iastore, .iinc 2 1, .goto 40]),
  (69, none, [.aload 0, .iconst 0, .putfield 2388, .iconst 1, .freturn])]
theorem tk_279 : bl_279.all (fun q => chk 279 q.1 q.2.2) = true := by decide +kernel
theorem py_279 : plainName (mN 279).cls = true := by decide +kernel
theorem ml_279 : mL 279 = 3 := rfl
/-- M.foreign -/
def bl_280 : Tb := [
  (0, none, [.iconst 0, .istore 1, .iconst 0, .istore 2, .goto_w 4]),
  (4, some [0, 1, 2], [.iload 2, .aload 0, .getfield 2308, .if_icmp .ge 32, .iload 1, .iconst 12, .aload 0, .getfield 2307, .iload 2, .invokestatic 22560, .isub, .iadd, .istore 1, .iinc 2 1, .goto 4]),
  (32, none, [.iload 1, .ireturn])]
theorem tk_280 : bl_280.all (fun q => chk 280 q.1 q.2.2) = true := by decide +kernel
theorem py_280 : plainName (mN 280).cls = true := by decide +kernel
theorem ml_280 : mL 280 = 3 := rfl
/-- M.wholes -/
def bl_281 : Tb := [
  (0, none, [.iconst 0, .istore 1, .iconst 0, .istore 2, .goto_w 4]),
  (4, some [0, 1, 2], [.iload 2, .aload 0, .getfield 2308, .if_icmp .ge 40, .iload 1, .aload 0, .getfield 2307, .iload 2, .invokestatic 29344, .iconst (-1), .if_icmp .ne 29, .iconst 0, .goto 32]),
  (29, none, [.iconst 1, .iload 2, .ishl, .ior, .istore 1, .iinc 2 1, .goto 4]),
  (32, none, [.ior, .istore 1, .iinc 2 1, .goto 4]),
  (40, none, [.iload 1, .ireturn])]
theorem tk_281 : bl_281.all (fun q => chk 281 q.1 q.2.2) = true := by decide +kernel
theorem py_281 : plainName (mN 281).cls = true := by decide +kernel
theorem ml_281 : mL 281 = 3 := rfl
/-- M.count -/
def bl_282 : Tb := [
  (0, none, [.aload 0, .iconst 0, .putfield 2336, .iload 1, .lookupswitch 169 #[(0, 76), (1, 81), (2, 86), (3, 94), (4, 102), (5, 112), (6, 123), (7, 134), (8, 139), (9, 144), (10, 149), (11, 154), (12, 159), (13, 164)]]),
  (76, none, [.aload 0, .getfield 2308, .ireturn]),
  (81, none, [.aload 0, .getfield 2312, .ireturn]),
  (86, none, [.aload 0, .getfield 2307, .iconst 48, .iaload, .ireturn]),
  (94, none, [.aload 0, .getfield 2307, .iconst 49, .iaload, .ireturn]),
  (102, none, [.aload 0, .aload 0, .getfield 2307, .iconst 0, .invokevirtual 25769, .ireturn]),
  (112, none, [.aload 0, .aload 0, .getfield 2307, .iconst 36, .invokevirtual 25769, .ireturn]),
  (123, none, [.aload 0, .aload 0, .getfield 2307, .iconst 42, .invokevirtual 25769, .ireturn]),
  (134, none, [.aload 0, .getfield 2424, .ireturn]),
  (139, none, [.aload 0, .getfield 2440, .ireturn]),
  (144, none, [.aload 0, .getfield 2388, .ireturn]),
  (149, none, [.aload 0, .getfield 2332, .ireturn]),
  (154, none, [.aload 0, .getfield 2324, .ireturn]),
  (159, none, [.aload 0, .invokevirtual 35849, .ireturn]),
  (164, none, [.aload 0, .invokevirtual 35977, .ireturn]),
  (169, none, [.iconst (-1), .ireturn])]
theorem tk_282 : bl_282.all (fun q => chk 282 q.1 q.2.2) = true := by decide +kernel
theorem py_282 : plainName (mN 282).cls = true := by decide +kernel
theorem ml_282 : mL 282 = 2 := rfl
/-- M.row -/
def bl_283 : Tb := [
  (0, none, [.aload 0, .iconst 0, .putfield 2336, .iload 1, .iconst 0, .aload 0, .getfield 2332, .iconst 1, .isub, .invokestatic 21424, .ifCond .eq 28, .aload 0, .getfield 2331, .iload 1, .laload, .goto 33]),
  (28, none, [.aload 0, .invokevirtual 21641, .i2l, .lreturn]),
  (33, none, [.lreturn])]
theorem tk_283 : bl_283.all (fun q => chk 283 q.1 q.2.2) = true := by decide +kernel
theorem py_283 : plainName (mN 283).cls = true := by decide +kernel
theorem ml_283 : mL 283 = 2 := rfl
/-- Integer.compare -/
def bl_284 : Tb := [
  (0, none, [.iload 0, .iload 1, .if_icmp .ge 9, .iconst (-1), .goto 19]),
  (9, none, [.iload 0, .iload 1, .if_icmp .ne 18, .iconst 0, .goto 19]),
  (18, none, [.iconst 1, .ireturn]),
  (19, none, [.ireturn])]
theorem tk_284 : bl_284.all (fun q => chk 284 q.1 q.2.2) = true := by decide +kernel
theorem py_284 : plainName (mN 284).cls = true := by decide +kernel
theorem ml_284 : mL 284 = 2 := rfl
/-- Integer.bitCount -/
def bl_285 : Tb := [
  (0, none, [.iload 0, .iload 0, .iconst 1, .iushr, .iconst 1431655765, .iand, .isub, .istore 0, .iload 0, .iconst 858993459, .iand, .iload 0, .iconst 2, .iushr, .iconst 858993459, .iand, .iadd, .istore 0, .iload 0, .iload 0, .iconst 4, .iushr, .iadd, .iconst 252645135, .iand, .istore 0, .iload 0, .iload 0, .iconst 8, .iushr, .iadd, .istore 0, .iload 0, .iload 0, .iconst 16, .iushr, .iadd, .istore 0, .iload 0, .iconst 63, .iand, .ireturn])]
theorem tk_285 : bl_285.all (fun q => chk 285 q.1 q.2.2) = true := by decide +kernel
theorem py_285 : plainName (mN 285).cls = true := by decide +kernel
theorem ml_285 : mL 285 = 1 := rfl
/-- Math.floorMod -/
def bl_286 : Tb := [
  (0, none, [.iload 0, .iload 1, .irem, .istore 2, .iload 0, .iload 1, .ixor, .ifCond .ge 18, .iload 2, .ifCond .eq 18, .iload 2, .iload 1, .iadd, .ireturn]),
  (18, none, [.iload 2, .ireturn])]
theorem tk_286 : bl_286.all (fun q => chk 286 q.1 q.2.2) = true := by decide +kernel
theorem py_286 : plainFor (mN 286) = true := by decide +kernel
theorem ml_286 : mL 286 = 3 := rfl
/-- Math.abs -/
def bl_287 : Tb := [
  (0, none, [.iload 0, .ifCond .ge 9, .iload 0, .ineg, .goto 10]),
  (9, none, [.iload 0, .ireturn]),
  (10, none, [.ireturn])]
theorem tk_287 : bl_287.all (fun q => chk 287 q.1 q.2.2) = true := by decide +kernel
theorem py_287 : plainFor (mN 287) = true := by decide +kernel
theorem ml_287 : mL 287 = 1 := rfl
/-- Math.max -/
def bl_288 : Tb := [
  (0, none, [.iload 0, .iload 1, .if_icmp .lt 9, .iload 0, .goto 10]),
  (9, none, [.iload 1, .ireturn]),
  (10, none, [.ireturn])]
theorem tk_288 : bl_288.all (fun q => chk 288 q.1 q.2.2) = true := by decide +kernel
theorem py_288 : plainFor (mN 288) = true := by decide +kernel
theorem ml_288 : mL 288 = 2 := rfl
/-- Math.min -/
def bl_289 : Tb := [
  (0, none, [.iload 0, .iload 1, .if_icmp .gt 9, .iload 0, .goto 10]),
  (9, none, [.iload 1, .ireturn]),
  (10, none, [.ireturn])]
theorem tk_289 : bl_289.all (fun q => chk 289 q.1 q.2.2) = true := by decide +kernel
theorem py_289 : plainFor (mN 289) = true := by decide +kernel
theorem ml_289 : mL 289 = 2 := rfl
/-- L.ship -/
def bl_290 : Tb := [
  (0, none, [.aload 3, .iconst 0, .aload 0, .iload 1, .iload 2, .invokevirtual 11432, .i2l, .lastore, .goto 17]),
  (17, none, [.iconst 0, .ireturn])]
theorem tk_290 : bl_290.all (fun q => chk 290 q.1 q.2.2) = true := by decide +kernel
theorem py_290 : plainName (mN 290).cls = true := by decide +kernel
theorem ml_290 : mL 290 = 5 := rfl
/-- L.row -/
def bl_291 : Tb := [
  (0, none, [.aload 2, .iconst 0, .aload 0, .iload 1, .invokevirtual 17176, .lastore, .goto 14]),
  (14, none, [.iconst 0, .ireturn])]
theorem tk_291 : bl_291.all (fun q => chk 291 q.1 q.2.2) = true := by decide +kernel
theorem py_291 : plainName (mN 291).cls = true := by decide +kernel
theorem ml_291 : mL 291 = 4 := rfl
end
section
/-! methods of java.lang.Math; the words that a walk is simplified by -/
section CALF
variable {l : Launch} {g : GE} {e d kc ks pc : Nat} {ls : List (Nat × TV)} {st : List TV} {t : Tau} {σ : Mem} {Q : Post} {E : EC}
theorem wp_inF {as : List TV} (hy : plainFor (mN e) = true) (hl : (as.map catT).sum ≤ mL e) (k : Wp l g e d kc ks 0 (largs 0 as) [] t σ Q) : WPc l g e d kc ks as t σ Q := by
  refine va_MetF (cc := mC e) (maxL := mL e) (ret := mR e) hy rfl ?_
  intro p en s m args below meth c s₁ B hml hv
  obtain ⟨rfl, hok, hKF, hH, hO, hT⟩ := hv
  have hle := lv_entry (as.map (cv g)) (n := mL e) (by rw [lg_len]; exact hl)
  rw [lg_entry_eq]
  generalize (lg_sl (as.map (cv g)) ++ List.replicate (mL e - (lg_sl (as.map (cv g))).length) Slot.unset).toArray = lsA at hle ⊢
  rw [largs_cv] at hle
  have hrt : meth.sig.returnType = mR e := B.returns
  have hlocks := B.notSynchronized
  have hx := B.exec
  have hb : c.code = mC e := B.bytes
  refine k p en (rmD d kc ks) s m _ below meth c s.heap [] 0 0 _ lsA ⟨hx, hb, hrt, hml, findClass_of_methodNamed B.named, fun w hw => atoms_spec (ws := wsM e) B.pre w (List.mem_cons_of_mem _ hw), hlocks, (name_of_methodNamed B.named B.method).1, hKF⟩ (Nat.le_refl _) (Nat.le_refl _) (by show 0 + kc ≤ kc; omega) (by show 0 + ks ≤ ks; omega) hH va_S.rf ⟨hO, fun z => by have := hT z; omega⟩ hle (largs_ok as 0 hok) (fun q hq => by cases hq) ?_
  intro v t' σ' H locs cells slots lsA' pc' i hQ hok' hH' hS' hc hs hT' hd hro
  refine W.widen (k := kc) (n := ks) (by omega) (by omega) ?_
  have hq : ∀ (ov : Option Value), ov = v.map (cv g) → ∀ u : State, u.heap = H → s.WarmedH u.vm → QcM g kc Q ((as.map (cv g)).toArray) s (.returned ov) u := fun ov ho u hu _ => ⟨v, t', σ', by rw [ho], hQ, hok', by rw [hu]; exact hH', hS'.F hu, fun z => by have := hT' z; omega⟩
  unfold rOK at hro
  split at hro
  · rename_i h
    subst hro
    exact W.vret hx hb (hrt.trans h) (hq none rfl) hS'.2.2 hd
  · rename_i y h
    subst hro
    exact W.iret hx hb (hrt.trans h) (hq _ rfl) hS'.2.2 hd
  · rename_i y h
    obtain ⟨rfl, hy⟩ := hro
    exact W.zret hx hb (hrt.trans h) (narrow_z hy) (hq _ rfl) hS'.2.2 hd
  · rename_i y h
    obtain ⟨rfl, hy0, hy1⟩ := hro
    exact W.zret hx hb (hrt.trans h) (narrow_c hy0 hy1) (hq _ rfl) hS'.2.2 hd
  · rename_i y h
    subst hro
    exact W.lret hx hb (hrt.trans h) (hq _ rfl) hS'.2.2 hd
  · rename_i n y h
    subst hro
    refine W.aret hx hb (hrt.trans h) (Or.inl ⟨_, rfl⟩) ?_ (hq _ rfl) hS'.2.2 hd
    rcases rf_cases g y with ⟨-, h⟩ | ⟨-, a, h⟩
    · exact Or.inl h
    · exact Or.inr ⟨a, h⟩
  · cases hro
theorem wp_goF {tb : Tb} {as : List TV} {ml : Nat} (hE : e < 293) (hEC : ∀ e' as t σ Q', E e' as t σ Q' → WPc l g e' d 0 0 as t σ Q') (htb : tb.all (fun q => chk e q.1 q.2.2) = true) (hy : plainFor (mN e) = true) (hml : mL e = ml) (n : Nat) (hl : (as.map catT).sum ≤ ml) (h : vcl g E (vcN l g e d E Q tb n) Q (lkp 0 tb).2 kc ks (largs 0 as) [] t σ) : WPc l g e (d + 1) kc ks as t σ Q :=
  wp_inF hy (by rw [hml]; exact hl) (wp_at hE hEC htb n h)
end CALF
section WRD
variable {l : Launch} {g : GE} {e d n kc ks tg : Nat} {ls : List (Nat × TV)} {st : List TV} {t : Tau} {σ : Mem} {Q : Post} {E : EC} {J : Nat → Cont} {tb : Tb}
theorem vcN_s : vcN l g e d E Q tb (n + 1) tg kc ks ls st t σ = vcJ l g e d E Q tg (vcN l g e d E Q tb n) (lkp tg tb) kc ks ls st t σ := rfl
theorem vcJ_n {is : List Instr} {f : Nat → Cont} : vcJ l g e d E Q tg f (none, is) kc ks ls st t σ = vcl g E f Q is kc ks ls st t σ := rfl
theorem vcJ_s {is : List Instr} {f : Nat → Cont} {lv : List Nat} : vcJ l g e d E Q tg f (some lv, is) kc ks ls st t σ = Wp l g e (d + 1) kc ks tg (lkeep lv ls) st t σ Q := rfl
theorem vcl_c {i : Instr} {r : List Instr} : vcl g E J Q (i :: r) kc ks ls st t σ = ex1 g E J Q i (vcl g E J Q r) kc ks ls st t σ := rfl
end WRD
/-! a register of contracts, that a walk looks up -/
abbrev Sp : Type := List TV → Tau → Mem → Post → Prop
abbrev Reg : Type := List (Nat × Sp)
def rlk (e : Nat) : Reg → Option Sp
  | [] => none
  | (j, f) :: r => if e = j then some f else rlk e r
def rOr (f : Option Sp) (w : Sp) : Sp := match f with
  | some f => f
  | none => w
def rE (l : Launch) (g : GE) (d : Nat) (r : Reg) : EC := fun e as t σ Q => rOr (rlk e r) (WPc l g e d 0 0) as t σ Q
theorem rE_nil {l : Launch} {g : GE} {d : Nat} : ∀ e as t σ Q, rE l g d [] e as t σ Q → WPc l g e d 0 0 as t σ Q := fun _ _ _ _ _ h => h
theorem rE_cons {l : Launch} {g : GE} {d j : Nat} {f : Sp} {r : Reg} (hf : ∀ as t σ Q, f as t σ Q → WPc l g j d 0 0 as t σ Q) (hr : ∀ e as t σ Q, rE l g d r e as t σ Q → WPc l g e d 0 0 as t σ Q) : ∀ e as t σ Q, rE l g d ((j, f) :: r) e as t σ Q → WPc l g e d 0 0 as t σ Q := by
  intro e as t σ Q h
  unfold rE rlk at h
  by_cases he : e = j
  · rw [if_pos he] at h
    subst he
    exact hf as t σ Q h
  · rw [if_neg he] at h
    exact hr e as t σ Q h
/-! patterns of arguments -/
def aR (as : List TV) (f : Int → Prop) : Prop := match as with
  | [.inr (.inr a)] => f a
  | _ => False
def aI (as : List TV) (f : Int → Prop) : Prop := match as with
  | [.inl a] => f a
  | _ => False
def aII (as : List TV) (f : Int → Int → Prop) : Prop := match as with
  | [.inl a, .inl b] => f a b
  | _ => False
def aIII (as : List TV) (f : Int → Int → Int → Prop) : Prop := match as with
  | [.inl a, .inl b, .inl c] => f a b c
  | _ => False
def aRI (as : List TV) (f : Int → Int → Prop) : Prop := match as with
  | [.inr (.inr a), .inl b] => f a b
  | _ => False
def aRII (as : List TV) (f : Int → Int → Int → Prop) : Prop := match as with
  | [.inr (.inr a), .inl b, .inl c] => f a b c
  | _ => False
def aRIII (as : List TV) (f : Int → Int → Int → Int → Prop) : Prop := match as with
  | [.inr (.inr a), .inl b, .inl c, .inl d] => f a b c d
  | _ => False
theorem aR_e {as : List TV} {f : Int → Prop} (h : aR as f) : ∃ a, as = [vR a] ∧ f a := by
  unfold aR at h
  split at h
  · exact ⟨_, rfl, h⟩
  · exact h.elim
theorem aI_e {as : List TV} {f : Int → Prop} (h : aI as f) : ∃ a, as = [vI a] ∧ f a := by
  unfold aI at h
  split at h
  · exact ⟨_, rfl, h⟩
  · exact h.elim
theorem aII_e {as : List TV} {f : Int → Int → Prop} (h : aII as f) : ∃ a b, as = [vI a, vI b] ∧ f a b := by
  unfold aII at h
  split at h
  · exact ⟨_, _, rfl, h⟩
  · exact h.elim
theorem aIII_e {as : List TV} {f : Int → Int → Int → Prop} (h : aIII as f) : ∃ a b c, as = [vI a, vI b, vI c] ∧ f a b c := by
  unfold aIII at h
  split at h
  · exact ⟨_, _, _, rfl, h⟩
  · exact h.elim
theorem aRI_e {as : List TV} {f : Int → Int → Prop} (h : aRI as f) : ∃ a b, as = [vR a, vI b] ∧ f a b := by
  unfold aRI at h
  split at h
  · exact ⟨_, _, rfl, h⟩
  · exact h.elim
theorem aRII_e {as : List TV} {f : Int → Int → Int → Prop} (h : aRII as f) : ∃ a b c, as = [vR a, vI b, vI c] ∧ f a b c := by
  unfold aRII at h
  split at h
  · exact ⟨_, _, _, rfl, h⟩
  · exact h.elim
theorem aRIII_e {as : List TV} {f : Int → Int → Int → Int → Prop} (h : aRIII as f) : ∃ a b c d, as = [vR a, vI b, vI c, vI d] ∧ f a b c d := by
  unfold aRIII at h
  split at h
  · exact ⟨_, _, _, _, rfl, h⟩
  · exact h.elim
end
section
/-! code lists without cuts -/
/-- Sea.mayGoOver -/
def bn_61 : Tb := [
  (0, none, [.iconst 0, .istore 2, .iconst 1, .istore 3, .iload 3, .iconst 4, .if_icmp .ge 36, .aload 0, .iload 1, .iload 3, .invokevirtual 6181, .aload 0, .iload 1, .iload 2, .invokevirtual 6181, .if_icmp .le 28, .iload 3, .goto 29]),
  (4, none, [.iload 3, .iconst 4, .if_icmp .ge 36, .aload 0, .iload 1, .iload 3, .invokevirtual 6181, .aload 0, .iload 1, .iload 2, .invokevirtual 6181, .if_icmp .le 28, .iload 3, .goto 29]),
  (28, none, [.iload 2, .istore 2, .iinc 3 1, .goto 4]),
  (29, none, [.istore 2, .iinc 3 1, .goto 4]),
  (36, none, [.aload 0, .iload 1, .invokevirtual 5269, .ifCond .eq 86, .aload 0, .iload 1, .iload 2, .invokevirtual 6181, .aload 0, .iload 1, .aload 0, .iload 1, .invokevirtual 5781, .invokevirtual 6181, .if_icmp .le 86, .aload 0, .getfield 1303, .iload 1, .iload 2, .iastore, .aload 0, .aload 0, .getfield 1288, .iconst 1, .iadd, .iconst 9999, .invokestatic 37024, .putfield 1288, .return_]),
  (86, none, [.return_])]
theorem tn_61 : bn_61.all (fun q => chk 61 q.1 q.2.2) = true := by decide +kernel
/-- Sea.hoists -/
def bn_58 : Tb := [
  (0, none, [.aload 0, .iload 1, .invokevirtual 5269, .ifCond .eq 15, .iload 2, .invokestatic 18448, .ifCond .ne 16, .return_]),
  (15, none, [.return_]),
  (16, none, [.iconst 0, .istore 3, .iload 3, .iconst 4, .if_icmp .ge 50, .aload 0, .getfield 1315, .iload 1, .iconst 4, .imul, .iload 3, .iadd, .iload 3, .iload 2, .if_icmp .ne 42, .iconst 12, .goto 43]),
  (18, none, [.iload 3, .iconst 4, .if_icmp .ge 50, .aload 0, .getfield 1315, .iload 1, .iconst 4, .imul, .iload 3, .iadd, .iload 3, .iload 2, .if_icmp .ne 42, .iconst 12, .goto 43]),
  (42, none, [.iconst 0, .iastore, .iinc 3 1, .goto 18]),
  (43, none, [.iastore, .iinc 3 1, .goto 18]),
  (50, none, [.aload 0, .getfield 1303, .iload 1, .iload 2, .iastore, .return_])]
theorem tn_58 : bn_58.all (fun q => chk 58 q.1 q.2.2) = true := by decide +kernel
/-- Sea.mendsFlag -/
def bn_66 : Tb := [
  (0, none, [.iconst (-1), .istore 2, .iconst 0, .istore 3, .iload 3, .iconst 4, .if_icmp .ge 67, .iload 3, .aload 0, .iload 1, .invokevirtual 5781, .if_icmp .eq 31, .aload 0, .iload 1, .iload 3, .invokevirtual 6181, .ifCond .le 31, .iconst 1, .goto 32]),
  (4, none, [.iload 3, .iconst 4, .if_icmp .ge 67, .iload 3, .aload 0, .iload 1, .invokevirtual 5781, .if_icmp .eq 31, .aload 0, .iload 1, .iload 3, .invokevirtual 6181, .ifCond .le 31, .iconst 1, .goto 32]),
  (31, none, [.iconst 0, .istore 4, .iload 4, .ifCond .eq 61, .iload 2, .iconst (-1), .if_icmp .eq 59, .aload 0, .iload 1, .iload 3, .invokevirtual 6181, .aload 0, .iload 1, .iload 2, .invokevirtual 6181, .if_icmp .ge 61, .iload 3, .istore 2, .iinc 3 1, .goto 4]),
  (32, none, [.istore 4, .iload 4, .ifCond .eq 61, .iload 2, .iconst (-1), .if_icmp .eq 59, .aload 0, .iload 1, .iload 3, .invokevirtual 6181, .aload 0, .iload 1, .iload 2, .invokevirtual 6181, .if_icmp .ge 61, .iload 3, .istore 2, .iinc 3 1, .goto 4]),
  (59, none, [.iload 3, .istore 2, .iinc 3 1, .goto 4]),
  (61, none, [.iinc 3 1, .goto 4]),
  (67, none, [.iload 2, .iconst (-1), .if_icmp .eq 84, .aload 0, .iload 1, .iload 2, .aload 0, .iload 1, .invokevirtual 5781, .iconst 1, .invokevirtual 7749, .return_]),
  (84, none, [.return_])]
theorem tn_66 : bn_66.all (fun q => chk 66 q.1 q.2.2) = true := by decide +kernel
/-- Sea.difference -/
def bn_56 : Tb := [
  (0, none, [.iconst 0, .istore 3, .iconst 0, .istore 4, .iload 4, .iconst 4, .if_icmp .ge 38, .iload 3, .aload 0, .iload 1, .iload 4, .invokevirtual 6181, .aload 0, .iload 2, .iload 4, .invokevirtual 6181, .isub, .invokestatic 36752, .iadd, .istore 3, .iinc 4 1, .goto 5]),
  (5, none, [.iload 4, .iconst 4, .if_icmp .ge 38, .iload 3, .aload 0, .iload 1, .iload 4, .invokevirtual 6181, .aload 0, .iload 2, .iload 4, .invokevirtual 6181, .isub, .invokestatic 36752, .iadd, .istore 3, .iinc 4 1, .goto 5]),
  (38, none, [.iload 3, .ireturn])]
theorem tn_56 : bn_56.all (fun q => chk 56 q.1 q.2.2) = true := by decide +kernel
/-- M.goOver -/
def bn_205 : Tb := [
  (0, none, [.iconst 0, .istore 2, .iconst 1, .istore 3, .iload 3, .iconst 4, .if_icmp .ge 36, .aload 0, .iload 1, .iload 3, .invokestatic 22448, .aload 0, .iload 1, .iload 2, .invokestatic 22448, .if_icmp .le 28, .iload 3, .goto 29]),
  (4, none, [.iload 3, .iconst 4, .if_icmp .ge 36, .aload 0, .iload 1, .iload 3, .invokestatic 22448, .aload 0, .iload 1, .iload 2, .invokestatic 22448, .if_icmp .le 28, .iload 3, .goto 29]),
  (28, none, [.iload 2, .istore 2, .iinc 3 1, .goto 4]),
  (29, none, [.istore 2, .iinc 3 1, .goto 4]),
  (36, none, [.aload 0, .iload 1, .iload 2, .invokestatic 22448, .aload 0, .iload 1, .invokestatic 22560, .if_icmp .gt 51, .return_]),
  (51, none, [.aload 0, .iconst 6, .iload 1, .iadd, .iload 2, .iastore, .aload 0, .iconst 49, .iconst 9999, .aload 0, .iconst 49, .iaload, .iconst 1, .iadd, .invokestatic 37024, .iastore, .return_])]
theorem tn_205 : bn_205.all (fun q => chk 205 q.1 q.2.2) = true := by decide +kernel
/-- M.mend -/
def bn_209 : Tb := [
  (0, none, [.iconst (-1), .istore 3, .iconst 0, .istore 4, .iload 4, .iconst 4, .if_icmp .ge 65, .iload 4, .aload 1, .iconst 6, .iload 2, .iadd, .iaload, .if_icmp .eq 59, .aload 1, .iload 2, .iload 4, .invokestatic 22448, .ifCond .ne 35, .goto 59]),
  (5, none, [.iload 4, .iconst 4, .if_icmp .ge 65, .iload 4, .aload 1, .iconst 6, .iload 2, .iadd, .iaload, .if_icmp .eq 59, .aload 1, .iload 2, .iload 4, .invokestatic 22448, .ifCond .ne 35, .goto 59]),
  (35, none, [.iload 3, .iconst (-1), .if_icmp .eq 56, .aload 1, .iload 2, .iload 4, .invokestatic 22448, .aload 1, .iload 2, .iload 3, .invokestatic 22448, .if_icmp .ge 59, .iload 4, .istore 3, .iinc 4 1, .goto 5]),
  (56, none, [.iload 4, .istore 3, .iinc 4 1, .goto 5]),
  (59, none, [.iinc 4 1, .goto 5]),
  (65, none, [.iload 3, .iconst (-1), .if_icmp .ne 71, .return_]),
  (71, none, [.aload 1, .iconst 12, .iconst 4, .iload 2, .imul, .iadd, .iload 3, .iadd, .dup2, .iaload, .iconst 1, .isub, .iastore, .aload 1, .iconst 12, .iconst 4, .iload 2, .imul, .iadd, .aload 1, .iconst 6, .iload 2, .iadd, .iaload, .iadd, .dup2, .iaload, .iconst 1, .iadd, .iastore, .return_])]
theorem tn_209 : bn_209.all (fun q => chk 209 q.1 q.2.2) = true := by decide +kernel
/-- M.goYielding -/
def bn_218 : Tb := [
  (0, none, [.iconst 0, .istore 3, .iload 3, .iconst 4, .if_icmp .ge 37, .aload 0, .getfield 2307, .iconst 12, .iconst 4, .iload 1, .imul, .iadd, .iload 3, .iadd, .iload 3, .iload 2, .if_icmp .ne 29, .iconst 12, .goto 30]),
  (2, none, [.iload 3, .iconst 4, .if_icmp .ge 37, .aload 0, .getfield 2307, .iconst 12, .iconst 4, .iload 1, .imul, .iadd, .iload 3, .iadd, .iload 3, .iload 2, .if_icmp .ne 29, .iconst 12, .goto 30]),
  (29, none, [.iconst 0, .iastore, .iinc 3 1, .goto 2]),
  (30, none, [.iastore, .iinc 3 1, .goto 2]),
  (37, none, [.aload 0, .getfield 2307, .iconst 6, .iload 1, .iadd, .iload 2, .iastore, .return_])]
theorem tn_218 : bn_218.all (fun q => chk 218 q.1 q.2.2) = true := by decide +kernel
theorem w32_0 : w32 0 = 0 := by rw [w32_eq]; rfl
theorem w32_1 : w32 1 = 1 := by rw [w32_eq]; rfl
theorem w32_2 : w32 2 = 2 := by rw [w32_eq]; rfl
theorem w32_3 : w32 3 = 3 := by rw [w32_eq]; rfl
theorem w32_4 : w32 4 = 4 := by rw [w32_eq]; rfl
theorem w32_5 : w32 5 = 5 := by rw [w32_eq]; rfl
theorem w32_6 : w32 6 = 6 := by rw [w32_eq]; rfl
theorem w32_7 : w32 7 = 7 := by rw [w32_eq]; rfl
theorem w32_8 : w32 8 = 8 := by rw [w32_eq]; rfl
theorem w32_9 : w32 9 = 9 := by rw [w32_eq]; rfl
theorem w32_10 : w32 10 = 10 := by rw [w32_eq]; rfl
theorem w32_11 : w32 11 = 11 := by rw [w32_eq]; rfl
theorem w32_12 : w32 12 = 12 := by rw [w32_eq]; rfl
theorem w32_13 : w32 13 = 13 := by rw [w32_eq]; rfl
theorem w32_14 : w32 14 = 14 := by rw [w32_eq]; rfl
theorem w32_15 : w32 15 = 15 := by rw [w32_eq]; rfl
theorem w32_16 : w32 16 = 16 := by rw [w32_eq]; rfl
theorem w32_17 : w32 17 = 17 := by rw [w32_eq]; rfl
theorem w32_18 : w32 18 = 18 := by rw [w32_eq]; rfl
theorem w32_19 : w32 19 = 19 := by rw [w32_eq]; rfl
theorem w32_20 : w32 20 = 20 := by rw [w32_eq]; rfl
theorem w32_21 : w32 21 = 21 := by rw [w32_eq]; rfl
theorem w32_22 : w32 22 = 22 := by rw [w32_eq]; rfl
theorem w32_23 : w32 23 = 23 := by rw [w32_eq]; rfl
theorem w32_24 : w32 24 = 24 := by rw [w32_eq]; rfl
theorem w32_25 : w32 25 = 25 := by rw [w32_eq]; rfl
theorem w32_26 : w32 26 = 26 := by rw [w32_eq]; rfl
theorem w32_27 : w32 27 = 27 := by rw [w32_eq]; rfl
theorem w32_28 : w32 28 = 28 := by rw [w32_eq]; rfl
theorem w32_29 : w32 29 = 29 := by rw [w32_eq]; rfl
theorem w32_30 : w32 30 = 30 := by rw [w32_eq]; rfl
theorem w32_31 : w32 31 = 31 := by rw [w32_eq]; rfl
theorem w32_32 : w32 32 = 32 := by rw [w32_eq]; rfl
theorem w32_33 : w32 33 = 33 := by rw [w32_eq]; rfl
theorem w32_34 : w32 34 = 34 := by rw [w32_eq]; rfl
theorem w32_35 : w32 35 = 35 := by rw [w32_eq]; rfl
theorem w32_36 : w32 36 = 36 := by rw [w32_eq]; rfl
theorem w32_37 : w32 37 = 37 := by rw [w32_eq]; rfl
theorem w32_38 : w32 38 = 38 := by rw [w32_eq]; rfl
theorem w32_39 : w32 39 = 39 := by rw [w32_eq]; rfl
theorem w32_40 : w32 40 = 40 := by rw [w32_eq]; rfl
end
section
/-! the walk with its continuation kept opaque -/
section OPQ
variable {l : Launch} {g : GE} {e d n kc ks tg pc : Nat} {ls : List (Nat × TV)} {st : List TV} {t : Tau} {σ : Mem} {Q : Post} {E : EC} {J : Nat → Cont} {tb : Tb}
theorem vJn {is : List Instr} {f : Nat → Cont} : vcJ l g e d E Q tg f (none, is) kc ks ls st t σ = vcl g E f Q is kc ks ls st t σ := propext Iff.rfl
theorem vJs {is : List Instr} {f : Nat → Cont} {lv : List Nat} : vcJ l g e d E Q tg f (some lv, is) kc ks ls st t σ = Wp l g e (d + 1) kc ks tg (lkeep lv ls) st t σ Q := propext Iff.rfl
theorem vlc {i : Instr} {r : List Instr} : vcl g E J Q (i :: r) kc ks ls st t σ = ex1 g E J Q i (vcl g E J Q r) kc ks ls st t σ := propext Iff.rfl
def NEq (l : Launch) (g : GE) (e d : Nat) (E : EC) (Q : Post) (tb : Tb) (N : Nat → Nat → Cont) : Prop := ∀ n tg kc ks ls st t σ, N (n + 1) tg kc ks ls st t σ = vcJ l g e d E Q tg (N n) (lkp tg tb) kc ks ls st t σ
theorem wa (hE : e < 293) (hEC : ∀ e' as t σ Q', E e' as t σ Q' → WPc l g e' d 0 0 as t σ Q') (htb : tb.all (fun q => chk e q.1 q.2.2) = true) (n : Nat) (h : ∀ N : Nat → Nat → Cont, NEq l g e d E Q tb N → vcl g E (N n) Q (lkp pc tb).2 kc ks ls st t σ) : Wp l g e (d + 1) kc ks pc ls st t σ Q :=
  wp_at hE hEC htb n (h (vcN l g e d E Q tb) fun _ _ _ _ _ _ _ _ => rfl)
theorem wg {as : List TV} {ml : Nat} (hE : e < 293) (hEC : ∀ e' as t σ Q', E e' as t σ Q' → WPc l g e' d 0 0 as t σ Q') (htb : tb.all (fun q => chk e q.1 q.2.2) = true) (hy : plainName (mN e).cls = true) (hml : mL e = ml) (n : Nat) (hl : (as.map catT).sum ≤ ml) (h : ∀ N : Nat → Nat → Cont, NEq l g e d E Q tb N → vcl g E (N n) Q (lkp 0 tb).2 kc ks (largs 0 as) [] t σ) : WPc l g e (d + 1) kc ks as t σ Q :=
  wp_in hy (by rw [hml]; exact hl) (wa hE hEC htb n h)
end OPQ
end
section
/-! words of the walk: proved by propext, so that no step is taken by unfolding alone -/
section WDS
variable {g : GE} {E : EC} {J : Nat → Cont} {Q : Post} {k : Cont} {kc ks : Nat} {ls : List (Nat × TV)} {st : List TV} {t : Tau} {σ : Mem}
theorem x_iconst {n : Int} : ex1 g E J Q (.iconst n) k kc ks ls st t σ = (k kc ks ls (vI n :: st) t σ) := propext Iff.rfl
theorem x_ldc2_w {n : Nat} : ex1 g E J Q (.ldc2_w n) k kc ks ls st t σ = (k kc ks ls (vL n :: st) t σ) := propext Iff.rfl
theorem x_aconst_null : ex1 g E J Q .aconst_null k kc ks ls st t σ = (k kc ks ls (vR (-1) :: st) t σ) := propext Iff.rfl
theorem x_iload {j : Nat} : ex1 g E J Q (.iload j) k kc ks ls st t σ = (gI (lget j ls) fun x => k kc ks ls (vI x :: st) t σ) := propext Iff.rfl
theorem x_lload {j : Nat} : ex1 g E J Q (.lload j) k kc ks ls st t σ = (gL' (lget j ls) fun x => k kc ks ls (vL x :: st) t σ) := propext Iff.rfl
theorem x_aload {j : Nat} : ex1 g E J Q (.aload j) k kc ks ls st t σ = (gR (lget j ls) fun x => k kc ks ls (vR x :: st) t σ) := propext Iff.rfl
theorem x_istore {j : Nat} : ex1 g E J Q (.istore j) k kc ks ls st t σ = (pI st fun x r => k kc ks (lset j (vI x) ls) r t σ) := propext Iff.rfl
theorem x_lstore {j : Nat} : ex1 g E J Q (.lstore j) k kc ks ls st t σ = (pL st fun x r => k kc ks (lset j (vL x) ls) r t σ) := propext Iff.rfl
theorem x_astore {j : Nat} : ex1 g E J Q (.astore j) k kc ks ls st t σ = (pR st fun x r => k kc ks (lset j (vR x) ls) r t σ) := propext Iff.rfl
theorem x_iinc {j : Nat} {n : Int} : ex1 g E J Q (.iinc j n) k kc ks ls st t σ = (gI (lget j ls) fun x => k kc ks (lset j (vI (w32 (x + n))) ls) st t σ) := propext Iff.rfl
theorem x_iadd : ex1 g E J Q .iadd k kc ks ls st t σ = (pI st fun y r => pI r fun x r => k kc ks ls (vI (w32 (x + y)) :: r) t σ) := propext Iff.rfl
theorem x_isub : ex1 g E J Q .isub k kc ks ls st t σ = (pI st fun y r => pI r fun x r => k kc ks ls (vI (w32 (x - y)) :: r) t σ) := propext Iff.rfl
theorem x_imul : ex1 g E J Q .imul k kc ks ls st t σ = (pI st fun y r => pI r fun x r => k kc ks ls (vI (w32 (x * y)) :: r) t σ) := propext Iff.rfl
theorem x_idiv : ex1 g E J Q .idiv k kc ks ls st t σ = (pI st fun y r => pI r fun x r => y ≠ 0 ∧ k kc ks ls (vI (w32 (x.tdiv y)) :: r) t σ) := propext Iff.rfl
theorem x_irem : ex1 g E J Q .irem k kc ks ls st t σ = (pI st fun y r => pI r fun x r => y ≠ 0 ∧ k kc ks ls (vI (w32 (x.tmod y)) :: r) t σ) := propext Iff.rfl
theorem x_iand : ex1 g E J Q .iand k kc ks ls st t σ = (pI st fun y r => pI r fun x r => k kc ks ls (vI (iand x y) :: r) t σ) := propext Iff.rfl
theorem x_ior : ex1 g E J Q .ior k kc ks ls st t σ = (pI st fun y r => pI r fun x r => k kc ks ls (vI (ior x y) :: r) t σ) := propext Iff.rfl
theorem x_ixor : ex1 g E J Q .ixor k kc ks ls st t σ = (pI st fun y r => pI r fun x r => k kc ks ls (vI (ixor x y) :: r) t σ) := propext Iff.rfl
theorem x_ishl : ex1 g E J Q .ishl k kc ks ls st t σ = (pI st fun y r => pI r fun x r => k kc ks ls (vI (ishl x y) :: r) t σ) := propext Iff.rfl
theorem x_ishr : ex1 g E J Q .ishr k kc ks ls st t σ = (pI st fun y r => pI r fun x r => k kc ks ls (vI (ishr x y) :: r) t σ) := propext Iff.rfl
theorem x_iushr : ex1 g E J Q .iushr k kc ks ls st t σ = (pI st fun y r => pI r fun x r => k kc ks ls (vI (iushr x y) :: r) t σ) := propext Iff.rfl
theorem x_ineg : ex1 g E J Q .ineg k kc ks ls st t σ = (pI st fun x r => k kc ks ls (vI (w32 (-x)) :: r) t σ) := propext Iff.rfl
theorem x_ladd : ex1 g E J Q .ladd k kc ks ls st t σ = (pL st fun y r => pL r fun x r => k kc ks ls (vL (w64 (x + y)) :: r) t σ) := propext Iff.rfl
theorem x_lsub : ex1 g E J Q .lsub k kc ks ls st t σ = (pL st fun y r => pL r fun x r => k kc ks ls (vL (w64 (x - y)) :: r) t σ) := propext Iff.rfl
theorem x_lmul : ex1 g E J Q .lmul k kc ks ls st t σ = (pL st fun y r => pL r fun x r => k kc ks ls (vL (w64 (x * y)) :: r) t σ) := propext Iff.rfl
theorem x_ldiv : ex1 g E J Q .ldiv k kc ks ls st t σ = (pL st fun y r => pL r fun x r => y ≠ 0 ∧ k kc ks ls (vL (w64 (x.tdiv y)) :: r) t σ) := propext Iff.rfl
theorem x_lrem : ex1 g E J Q .lrem k kc ks ls st t σ = (pL st fun y r => pL r fun x r => y ≠ 0 ∧ k kc ks ls (vL (w64 (x.tmod y)) :: r) t σ) := propext Iff.rfl
theorem x_lcmp : ex1 g E J Q .lcmp k kc ks ls st t σ = (pL st fun y r => pL r fun x r => k kc ks ls (vI (icmp x y) :: r) t σ) := propext Iff.rfl
theorem x_i2l : ex1 g E J Q .i2l k kc ks ls st t σ = (pI st fun x r => k kc ks ls (vL x :: r) t σ) := propext Iff.rfl
theorem x_i2b : ex1 g E J Q .i2b k kc ks ls st t σ = (pI st fun x r => k kc ks ls (vI (i8 x) :: r) t σ) := propext Iff.rfl
theorem x_i2s : ex1 g E J Q .i2s k kc ks ls st t σ = (pI st fun x r => k kc ks ls (vI (i16 x) :: r) t σ) := propext Iff.rfl
theorem x_i2c : ex1 g E J Q .i2c k kc ks ls st t σ = (pI st fun x r => k kc ks ls (vI (iu16 x) :: r) t σ) := propext Iff.rfl
theorem x_dup : ex1 g E J Q .dup k kc ks ls st t σ = (pV st fun v r => k kc ks ls (v :: v :: r) t σ) := propext Iff.rfl
theorem x_pop : ex1 g E J Q .pop k kc ks ls st t σ = (pV st fun _ r => k kc ks ls r t σ) := propext Iff.rfl
theorem x_dup_x1 : ex1 g E J Q .dup_x1 k kc ks ls st t σ = (pV st fun v r => pV r fun w r => k kc ks ls (v :: w :: v :: r) t σ) := propext Iff.rfl
theorem x_dup2 : ex1 g E J Q .dup2 k kc ks ls st t σ = (pV st fun v r => pV r fun w r => k kc ks ls (v :: w :: v :: w :: r) t σ) := propext Iff.rfl
theorem x_getfield {n : Nat} : ex1 g E J Q (.getfield n) k kc ks ls st t σ = (pR st fun x r => isO t x (n / 256) ∧ k kc ks ls ((if n % 4 ≤ 1 then vI (σ x (n / 4 % 64 : Nat)) else if n % 4 = 2 then vR (σ x (n / 4 % 64 : Nat)) else vR (finOf t x (n / 4 % 64))) :: r) t σ) := propext Iff.rfl
theorem x_putfield {n : Nat} : ex1 g E J Q (.putfield n) k kc ks ls st t σ = (if n % 4 = 2 then pR st fun y r => pR r fun x r => isO t x (n / 256) ∧ k kc ks ls r t (up σ x (n / 4 % 64 : Nat) y) else pI st fun y r => pR r fun x r => isO t x (n / 256) ∧ (n % 4 = 0 ∨ (n % 4 = 1 ∧ (y = 0 ∨ y = 1))) ∧ k kc ks ls r t (up σ x (n / 4 % 64 : Nat) y)) := propext Iff.rfl
theorem x_iaload : ex1 g E J Q .iaload k kc ks ls st t σ = (pI st fun j r => pR r fun x r => isT t x 0 ∧ (0 ≤ j ∧ j < lenOf t x) ∧ k kc ks ls (vI (σ x j) :: r) t σ) := propext Iff.rfl
theorem x_baload : ex1 g E J Q .baload k kc ks ls st t σ = (pI st fun j r => pR r fun x r => isT t x 2 ∧ (0 ≤ j ∧ j < lenOf t x) ∧ k kc ks ls (vI (σ x j) :: r) t σ) := propext Iff.rfl
theorem x_saload : ex1 g E J Q .saload k kc ks ls st t σ = (pI st fun j r => pR r fun x r => isT t x 3 ∧ (0 ≤ j ∧ j < lenOf t x) ∧ k kc ks ls (vI (σ x j) :: r) t σ) := propext Iff.rfl
theorem x_caload : ex1 g E J Q .caload k kc ks ls st t σ = (pI st fun j r => pR r fun x r => isT t x 4 ∧ (0 ≤ j ∧ j < lenOf t x) ∧ k kc ks ls (vI (σ x j) :: r) t σ) := propext Iff.rfl
theorem x_daload : ex1 g E J Q .daload k kc ks ls st t σ = (pI st fun j r => pR r fun x r => if x = -2 then (0 ≤ j ∧ j < 7) ∧ k kc ks ls (vI (sCt g 2 j.toNat) :: r) t σ else isT t x 4 ∧ (0 ≤ j ∧ j < lenOf t x) ∧ k kc ks ls (vI (σ x j) :: r) t σ) := propext Iff.rfl
theorem x_faload : ex1 g E J Q .faload k kc ks ls st t σ = (pI st fun j r => pR r fun x r => (3 ≤ (-x).toNat ∧ (-x).toNat ≤ 5 ∧ x < 0) ∧ (0 ≤ j ∧ j < sLen g (-x).toNat) ∧ k kc ks ls (vI (sCt g (-x).toNat j.toNat) :: r) t σ) := propext Iff.rfl
theorem x_laload : ex1 g E J Q .laload k kc ks ls st t σ = (pI st fun j r => pR r fun x r => isT t x 1 ∧ (0 ≤ j ∧ j < lenOf t x) ∧ k kc ks ls (vL (σ x j) :: r) t σ) := propext Iff.rfl
theorem x_aaload : ex1 g E J Q .aaload k kc ks ls st t σ = (pI st fun j r => pR r fun x r => isT t x 5 ∧ (0 ≤ j ∧ j < lenOf t x) ∧ k kc ks ls (vR (σ x j) :: r) t σ) := propext Iff.rfl
theorem x_iastore : ex1 g E J Q .iastore k kc ks ls st t σ = (pI st fun y r => pI r fun j r => pR r fun x r => isT t x 0 ∧ (0 ≤ j ∧ j < lenOf t x) ∧ k kc ks ls r t (up σ x j y)) := propext Iff.rfl
theorem x_bastore : ex1 g E J Q .bastore k kc ks ls st t σ = (pI st fun y r => pI r fun j r => pR r fun x r => isT t x 2 ∧ (0 ≤ j ∧ j < lenOf t x) ∧ k kc ks ls r t (up σ x j (i8 y))) := propext Iff.rfl
theorem x_sastore : ex1 g E J Q .sastore k kc ks ls st t σ = (pI st fun y r => pI r fun j r => pR r fun x r => isT t x 3 ∧ (0 ≤ j ∧ j < lenOf t x) ∧ k kc ks ls r t (up σ x j (i1 y))) := propext Iff.rfl
theorem x_castore : ex1 g E J Q .castore k kc ks ls st t σ = (pI st fun y r => pI r fun j r => pR r fun x r => isT t x 4 ∧ (0 ≤ j ∧ j < lenOf t x) ∧ k kc ks ls r t (up σ x j (ich y))) := propext Iff.rfl
theorem x_lastore : ex1 g E J Q .lastore k kc ks ls st t σ = (pL st fun y r => pI r fun j r => pR r fun x r => isT t x 1 ∧ (0 ≤ j ∧ j < lenOf t x) ∧ k kc ks ls r t (up σ x j y)) := propext Iff.rfl
theorem x_aastore : ex1 g E J Q .aastore k kc ks ls st t σ = (pR st fun y r => pI r fun j r => pR r fun x r => isT t x 5 ∧ isO t y 5 ∧ (0 ≤ j ∧ j < lenOf t x) ∧ k kc ks ls r t (up σ x j y)) := propext Iff.rfl
theorem x_arraylength : ex1 g E J Q .arraylength k kc ks ls st t σ = (pR st fun x r => if x < 0 then (2 ≤ (-x).toNat ∧ (-x).toNat ≤ 5) ∧ k kc ks ls (vI (sLen g (-x).toNat) :: r) t σ else isArr t x ∧ k kc ks ls (vI (lenOf t x) :: r) t σ) := propext Iff.rfl
theorem x_getstatic {n : Nat} : ex1 g E J Q (.getstatic n) k kc ks ls st t σ = (k kc ks ls (vR (-(n : Int)) :: st) t σ) := propext Iff.rfl
theorem x_goto {n : Int} : ex1 g E J Q (.goto n) k kc ks ls st t σ = (J n.toNat kc ks ls st t σ) := propext Iff.rfl
theorem x_goto_w {n : Int} : ex1 g E J Q (.goto_w n) k kc ks ls st t σ = (J n.toNat kc ks ls st t σ) := propext Iff.rfl
theorem x_ifCond {c : Jvm.ClassFile.Cond} {n : Int} : ex1 g E J Q (.ifCond c n) k kc ks ls st t σ = (pI st fun x r => (cnd c x 0 → J n.toNat kc ks ls r t σ) ∧ (¬ cnd c x 0 → k kc ks ls r t σ)) := propext Iff.rfl
theorem x_if_icmp {c : Jvm.ClassFile.Cond} {n : Int} : ex1 g E J Q (.if_icmp c n) k kc ks ls st t σ = (pI st fun y r => pI r fun x r => (cnd c x y → J n.toNat kc ks ls r t σ) ∧ (¬ cnd c x y → k kc ks ls r t σ)) := propext Iff.rfl
theorem x_ifnull {n : Int} : ex1 g E J Q (.ifnull n) k kc ks ls st t σ = (pR st fun x r => (x = -1 → J n.toNat kc ks ls r t σ) ∧ (¬ x = -1 → k kc ks ls r t σ)) := propext Iff.rfl
theorem x_ifnonnull {n : Int} : ex1 g E J Q (.ifnonnull n) k kc ks ls st t σ = (pR st fun x r => (¬ x = -1 → J n.toNat kc ks ls r t σ) ∧ (x = -1 → k kc ks ls r t σ)) := propext Iff.rfl
theorem x_lookupswitch {n : Int} {ps : Array (Int × Int)} : ex1 g E J Q (.lookupswitch n ps) k kc ks ls st t σ = (pI st fun x r => swL x (J n.toNat kc ks ls r t σ) (ps.toList.map fun q => (q.1, J q.2.toNat kc ks ls r t σ))) := propext Iff.rfl
theorem x_invokevirtual {n : Nat} : ex1 g E J Q (.invokevirtual n) k kc ks ls st t σ = (pN (n / 16 % 8) [] st fun as r => pR r fun x r => (r.map catT).sum ≤ 8 ∧ isO t x (n % 16) ∧ E (n / 128) (vR x :: as) t σ fun v t' σ' => k kc ks ls (v.toList ++ r) t' σ') := propext Iff.rfl
theorem x_invokestatic {n : Nat} : ex1 g E J Q (.invokestatic n) k kc ks ls st t σ = (pN (n / 16 % 8) [] st fun as r => E (n / 128) as t σ fun v t' σ' => k kc ks ls (v.toList ++ r) t' σ') := propext Iff.rfl
theorem x_invokedynamic {n : Nat} : ex1 g E J Q (.invokedynamic n) k kc ks ls st t σ = (pI st fun n r => pI r fun dp r => pR r fun b r => pI r fun sp r => pR r fun a r => isT t a 0 ∧ isT t b 0 ∧ (0 ≤ sp ∧ 0 ≤ dp ∧ 0 ≤ n ∧ sp + n ≤ lenOf t a ∧ dp + n ≤ lenOf t b) ∧ (r.map catT).sum ≤ 8 ∧ k kc ks ls r t (cpy σ a sp b dp n)) := propext Iff.rfl
theorem x_ireturn : ex1 g E J Q .ireturn k kc ks ls st t σ = (pI st fun x r => r = [] ∧ (kc = 0 ∨ gB g = false) ∧ Q (some (vI x)) t σ) := propext Iff.rfl
theorem x_freturn : ex1 g E J Q .freturn k kc ks ls st t σ = (pI st fun x r => r = [] ∧ (kc = 0 ∨ gB g = false) ∧ (x = 0 ∨ x = 1) ∧ Q (some (vI x)) t σ) := propext Iff.rfl
theorem x_dreturn : ex1 g E J Q .dreturn k kc ks ls st t σ = (pI st fun x r => r = [] ∧ (kc = 0 ∨ gB g = false) ∧ (0 ≤ x ∧ x < 65536) ∧ Q (some (vI x)) t σ) := propext Iff.rfl
theorem x_lreturn : ex1 g E J Q .lreturn k kc ks ls st t σ = (pL st fun x r => r = [] ∧ (kc = 0 ∨ gB g = false) ∧ Q (some (vL x)) t σ) := propext Iff.rfl
theorem x_areturn : ex1 g E J Q .areturn k kc ks ls st t σ = (pR st fun x r => r = [] ∧ (kc = 0 ∨ gB g = false) ∧ Q (some (vR x)) t σ) := propext Iff.rfl
theorem x_return_ : ex1 g E J Q .return_ k kc ks ls st t σ = (st = [] ∧ (kc = 0 ∨ gB g = false) ∧ Q none t σ) := propext Iff.rfl
theorem pI_c {x : Int} {r : List TV} {f : Int → List TV → Prop} : pI (.inl x :: r) f = f x r := propext Iff.rfl
theorem pL_c {x : Int} {r : List TV} {f : Int → List TV → Prop} : pL (.inr (.inl x) :: r) f = f x r := propext Iff.rfl
theorem pR_c {x : Int} {r : List TV} {f : Int → List TV → Prop} : pR (.inr (.inr x) :: r) f = f x r := propext Iff.rfl
theorem pV_i {x : Int} {r : List TV} {f : TV → List TV → Prop} : pV (.inl x :: r) f = f (.inl x) r := propext Iff.rfl
theorem pV_r {x : Int} {r : List TV} {f : TV → List TV → Prop} : pV (.inr (.inr x) :: r) f = f (.inr (.inr x)) r := propext Iff.rfl
theorem gI_c {x : Int} {f : Int → Prop} : gI (some (.inl x)) f = f x := propext Iff.rfl
theorem gL_c {x : Int} {f : Int → Prop} : gL' (some (.inr (.inl x))) f = f x := propext Iff.rfl
theorem gR_c {x : Int} {f : Int → Prop} : gR (some (.inr (.inr x))) f = f x := propext Iff.rfl
theorem pN_z {as st : List TV} {f : List TV → List TV → Prop} : pN 0 as st f = ((st.map catT).sum ≤ 8 ∧ f as st) := propext Iff.rfl
theorem pN_s {n : Nat} {v : TV} {as st : List TV} {f : List TV → List TV → Prop} : pN (n + 1) as (v :: st) f = pN n (v :: as) st f := propext Iff.rfl
theorem lget_c {i j : Nat} {v : TV} {r : List (Nat × TV)} : lget i ((j, v) :: r) = if i = j then some v else lget i r := congrArg id (rfl : lget i ((j, v) :: r) = _)
theorem lins_z {i : Nat} {v : TV} : lins i v [] = [(i, v)] := congrArg id (rfl : lins i v [] = _)
theorem lins_c {i j : Nat} {v w : TV} {r : List (Nat × TV)} : lins i v ((j, w) :: r) = if i < j then (i, v) :: (j, w) :: r else (j, w) :: lins i v r := congrArg id (rfl : lins i v ((j, w) :: r) = _)
theorem ldel_z {i : Nat} : ldel i [] = [] := congrArg id (rfl : ldel i [] = _)
theorem ldel_c {i j : Nat} {w : TV} {r : List (Nat × TV)} : ldel i ((j, w) :: r) = if i = j ∨ (j + 1 = i ∧ catT w = 2) then ldel i r else (j, w) :: ldel i r := congrArg id (rfl : ldel i ((j, w) :: r) = _)
theorem ldel2_z {i : Nat} : ldel2 i [] = [] := congrArg id (rfl : ldel2 i [] = _)
theorem ldel2_c {i j : Nat} {w : TV} {r : List (Nat × TV)} : ldel2 i ((j, w) :: r) = if i = j ∨ j = i + 1 ∨ (j + 1 = i ∧ catT w = 2) then ldel2 i r else (j, w) :: ldel2 i r := congrArg id (rfl : ldel2 i ((j, w) :: r) = _)
theorem lset_i {i : Nat} {x : Int} {ls : List (Nat × TV)} : lset i (.inl x) ls = lins i (.inl x) (ldel i ls) := congrArg id (rfl : lset i (.inl x) ls = _)
theorem lset_l {i : Nat} {x : Int} {ls : List (Nat × TV)} : lset i (.inr (.inl x)) ls = lins i (.inr (.inl x)) (ldel2 i ls) := congrArg id (rfl : lset i (.inr (.inl x)) ls = _)
theorem lset_r {i : Nat} {x : Int} {ls : List (Nat × TV)} : lset i (.inr (.inr x)) ls = lins i (.inr (.inr x)) (ldel i ls) := congrArg id (rfl : lset i (.inr (.inr x)) ls = _)
theorem lkeep_z {ks : List Nat} : lkeep ks [] = [] := congrArg id (rfl : lkeep ks [] = _)
theorem lkeep_c {ks : List Nat} {j : Nat} {w : TV} {r : List (Nat × TV)} : lkeep ks ((j, w) :: r) = if j ∈ ks then (j, w) :: lkeep ks r else lkeep ks r := congrArg id (rfl : lkeep ks ((j, w) :: r) = _)
theorem largs_z {i : Nat} : largs i [] = [] := congrArg id (rfl : largs i [] = _)
theorem largs_c {i : Nat} {v : TV} {vs : List TV} : largs i (v :: vs) = (i, v) :: largs (i + catT v) vs := congrArg id (rfl : largs i (v :: vs) = _)
theorem cat_i {x : Int} : catT (.inl x) = 1 := congrArg id (rfl : catT (.inl x) = _)
theorem cat_l {x : Int} : catT (.inr (.inl x)) = 2 := congrArg id (rfl : catT (.inr (.inl x)) = _)
theorem cat_r {x : Int} : catT (.inr (.inr x)) = 1 := congrArg id (rfl : catT (.inr (.inr x)) = _)
theorem lkp_c {tg p : Nat} {x : Option (List Nat) × List Instr} {r : Tb} : lkp tg ((p, x) :: r) = if tg = p then x else lkp tg r := congrArg id (rfl : lkp tg ((p, x) :: r) = _)
theorem cnd_eq {x y : Int} : cnd .eq x y = (x = y) := propext Iff.rfl
theorem cnd_ne {x y : Int} : cnd .ne x y = (x ≠ y) := propext Iff.rfl
theorem cnd_lt {x y : Int} : cnd .lt x y = (x < y) := propext Iff.rfl
theorem cnd_ge {x y : Int} : cnd .ge x y = (y ≤ x) := propext Iff.rfl
theorem cnd_gt {x y : Int} : cnd .gt x y = (y < x) := propext Iff.rfl
theorem cnd_le {x y : Int} : cnd .le x y = (x ≤ y) := propext Iff.rfl
theorem swL_z {x : Int} {d : Prop} : swL x d [] = d := propext Iff.rfl
theorem swL_c {x key : Int} {d p : Prop} {r : List (Int × Prop)} : swL x d ((key, p) :: r) = ((x = key → p) ∧ (x ≠ key → swL x d r)) := propext Iff.rfl
theorem rE_e {l : Launch} {d e : Nat} {r : Reg} {as : List TV} : rE l g d r e as t σ Q = rOr (rlk e r) (WPc l g e d 0 0) as t σ Q := propext Iff.rfl
theorem rOr_s {f w : Sp} {as : List TV} : rOr (some f) w as t σ Q = f as t σ Q := propext Iff.rfl
theorem rOr_n {w : Sp} {as : List TV} : rOr none w as t σ Q = w as t σ Q := propext Iff.rfl
theorem rlk_z {e : Nat} : rlk e [] = none := congrArg id (rfl : rlk e [] = _)
theorem rlk_c {e j : Nat} {f : Sp} {r : Reg} : rlk e ((j, f) :: r) = if e = j then some f else rlk e r := congrArg id (rfl : rlk e ((j, f) :: r) = _)
theorem aR_c {a : Int} {f : Int → Prop} : aR [.inr (.inr a)] f = f a := propext Iff.rfl
theorem aI_c {a : Int} {f : Int → Prop} : aI [.inl a] f = f a := propext Iff.rfl
theorem aII_c {a b : Int} {f : Int → Int → Prop} : aII [.inl a, .inl b] f = f a b := propext Iff.rfl
theorem aIII_c {a b c : Int} {f : Int → Int → Int → Prop} : aIII [.inl a, .inl b, .inl c] f = f a b c := propext Iff.rfl
theorem aRI_c {a b : Int} {f : Int → Int → Prop} : aRI [.inr (.inr a), .inl b] f = f a b := propext Iff.rfl
theorem aRII_c {a b c : Int} {f : Int → Int → Int → Prop} : aRII [.inr (.inr a), .inl b, .inl c] f = f a b c := propext Iff.rfl
theorem aRIII_c {a b c e : Int} {f : Int → Int → Int → Int → Prop} : aRIII [.inr (.inr a), .inl b, .inl c, .inl e] f = f a b c e := propext Iff.rfl
end WDS
end
section
/-! code lists in pieces, cut behind calls that change memory -/
/-- Past.adds -/
def sg_14_0_1 : List Instr := .aload 0 :: .dup :: .getfield 520 :: .iconst 1 :: .iadd :: .putfield 520 :: .return_ :: []
def sg_14_32_1 : List Instr := .aload 0 :: .dup :: .getfield 520 :: .iconst 1 :: .iadd :: .putfield 520 :: .return_ :: []
def bs_14 : Tb := [
  (0, none, .aload 0 :: .getfield 520 :: .iconst 12 :: .if_icmp .ne 32 :: .aload 0 :: .aload 0 :: .getfield 516 :: .iconst 1 :: .iadd :: .iconst 12 :: .irem :: .putfield 516 :: .aload 0 :: .dup :: .getfield 520 :: .iconst 1 :: .isub :: .putfield 520 :: .aload 0 :: .aload 0 :: .getfield 520 :: .invokevirtual 1682 :: .astore 2 :: .aload 2 :: .ifnull 60 :: .aload 2 :: .aload 1 :: .invokevirtual 5141 :: sg_14_0_1),
  (32, none, .aload 0 :: .aload 0 :: .getfield 520 :: .invokevirtual 1682 :: .astore 2 :: .aload 2 :: .ifnull 60 :: .aload 2 :: .aload 1 :: .invokevirtual 5141 :: sg_14_32_1),
  (60, none, .return_ :: [])]
theorem ts_14 : bs_14.all (fun q => chk 14 q.1 q.2.2) = true := by decide +kernel
/-- Past.returns -/
def sg_15_28_1 : List Instr := .aload 0 :: .dup :: .getfield 520 :: .iconst 1 :: .isub :: .putfield 520 :: .iconst 1 :: .freturn :: []
def bs_15 : Tb := [
  (0, none, .aload 0 :: .getfield 520 :: .ifCond .le 20 :: .aload 0 :: .aload 0 :: .getfield 520 :: .iconst 1 :: .isub :: .invokevirtual 1682 :: .goto 21 :: []),
  (20, none, .aconst_null :: .astore 2 :: .aload 2 :: .ifnonnull 28 :: .iconst 0 :: .freturn :: []),
  (21, none, .astore 2 :: .aload 2 :: .ifnonnull 28 :: .iconst 0 :: .freturn :: []),
  (28, none, .aload 1 :: .aload 2 :: .invokevirtual 5141 :: sg_15_28_1)]
theorem ts_15 : bs_15.all (fun q => chk 15 q.1 q.2.2) = true := by decide +kernel
/-- Row.addsFraction -/
def sg_19_0_2 : List Instr := .return_ :: []
def sg_19_0_1 : List Instr := .aload 0 :: .lload 3 :: .lload 5 :: .ldiv :: .invokevirtual 2323 :: sg_19_0_2
def bs_19 : Tb := [
  (0, none, .lload 1 :: .lload 3 :: .invokestatic 2592 :: .lstore 5 :: .lload 5 :: .ldc2_w 0 :: .lcmp :: .ifCond .eq 30 :: .aload 0 :: .lload 1 :: .lload 5 :: .ldiv :: .invokevirtual 2323 :: sg_19_0_1),
  (30, none, .return_ :: [])]
theorem ts_19 : bs_19.all (fun q => chk 19 q.1 q.2.2) = true := by decide +kernel
/-- Rule.reads -/
def sg_24_40_1 : List Instr := .ifCond .eq 85 :: .goto 88 :: []
def sg_24_74_1 : List Instr := .ifCond .ne 88 :: .iload 4 :: .ireturn :: []
def sg_24_119_1 : List Instr := .iconst (-1) :: .ireturn :: []
def bs_24 : Tb := [
  (0, none, .aload 0 :: .iconst 0 :: .putfield 1036 :: .aload 0 :: .iconst 0 :: .putfield 1040 :: .aload 0 :: .iconst 0 :: .putfield 1044 :: .aload 0 :: .iconst 0 :: .putfield 1048 :: .aload 0 :: .iconst 0 :: .putfield 1052 :: .aload 0 :: .iconst 1 :: .putfield 1057 :: .iload 2 :: .iconst 40 :: .invokestatic 37024 :: .istore 3 :: .iconst 0 :: .istore 4 :: .goto_w 40 :: []),
  (40, some [0, 1, 2, 3, 4], .iload 4 :: .iload 3 :: .if_icmp .ge 94 :: .iload 4 :: .aload 1 :: .arraylength :: .if_icmp .ge 94 :: .aload 0 :: .getfield 1057 :: .ifCond .eq 74 :: .aload 0 :: .aload 1 :: .iload 4 :: .daload :: .invokevirtual 3220 :: sg_24_40_1),
  (74, none, .aload 0 :: .aload 1 :: .iload 4 :: .daload :: .invokevirtual 3348 :: sg_24_74_1),
  (85, none, .iload 4 :: .ireturn :: []),
  (88, none, .iinc 4 1 :: .goto 40 :: []),
  (94, none, .aload 0 :: .getfield 1057 :: .ifCond .ne 108 :: .aload 0 :: .getfield 1044 :: .ifCond .le 110 :: .iload 3 :: .ireturn :: []),
  (108, none, .iload 3 :: .ireturn :: []),
  (110, none, .iload 2 :: .iconst 40 :: .if_icmp .le 119 :: .iconst 40 :: .ireturn :: []),
  (119, none, .aload 0 :: .iconst 1 :: .invokevirtual 4244 :: sg_24_119_1)]
theorem ts_24 : bs_24.all (fun q => chk 24 q.1 q.2.2) = true := by decide +kernel
/-- Rule.beginsThing -/
def sg_25_0_1 : List Instr := .aload 0 :: .iconst 1 :: .putfield 1052 :: .aload 0 :: .iconst 0 :: .putfield 1057 :: .iconst 1 :: .freturn :: []
def sg_25_27_1 : List Instr := .aload 0 :: .iconst 0 :: .putfield 1052 :: .aload 0 :: .iconst 0 :: .putfield 1057 :: .iconst 1 :: .freturn :: []
def sg_25_55_1 : List Instr := .iconst 1 :: .freturn :: []
def sg_25_85_1 : List Instr := .aload 0 :: .dup :: .getfield 1044 :: .iconst 1 :: .iadd :: .putfield 1044 :: .aload 0 :: .dup :: .getfield 1048 :: .iconst 1 :: .aload 0 :: .getfield 1044 :: .ishl :: .iconst (-1) :: .ixor :: .iand :: .putfield 1048 :: .iconst 1 :: .freturn :: []
def bs_25 : Tb := [
  (0, none, .iload 1 :: .invokestatic 18192 :: .ifCond .eq 27 :: .aload 0 :: .iload 1 :: .iconst 48 :: .isub :: .invokevirtual 3988 :: sg_25_0_1),
  (27, none, .iload 1 :: .invokestatic 3728 :: .ifCond .eq 55 :: .aload 0 :: .iconst 1000 :: .iload 1 :: .iadd :: .invokevirtual 3988 :: sg_25_27_1),
  (55, none, .iload 1 :: .iconst 45 :: .if_icmp .ne 69 :: .aload 0 :: .iconst 126 :: .invokevirtual 4116 :: sg_25_55_1),
  (69, none, .iload 1 :: .iconst 40 :: .if_icmp .ne 83 :: .aload 0 :: .getfield 1044 :: .iconst 4 :: .if_icmp .lt 85 :: .iconst 0 :: .freturn :: []),
  (83, none, .iconst 0 :: .freturn :: []),
  (85, none, .aload 0 :: .iload 1 :: .invokevirtual 4116 :: sg_25_85_1)]
theorem ts_25 : bs_25.all (fun q => chk 25 q.1 q.2.2) = true := by decide +kernel
/-- Rule.comesBehind -/
def sg_26_0_1 : List Instr := .freturn :: []
def sg_26_16_1 : List Instr := .freturn :: []
def sg_26_65_2 : List Instr := .aload 0 :: .iconst 1 :: .putfield 1057 :: .iconst 1 :: .freturn :: []
def sg_26_65_1 : List Instr := .aload 0 :: .iload 1 :: .invokevirtual 4116 :: sg_26_65_2
def sg_26_80_2 : List Instr := .aload 0 :: .iconst 1 :: .putfield 1057 :: .iconst 1 :: .freturn :: []
def sg_26_80_1 : List Instr := .aload 0 :: .iload 1 :: .invokevirtual 4116 :: sg_26_80_2
def bs_26 : Tb := [
  (0, none, .iload 1 :: .invokestatic 18192 :: .ifCond .eq 16 :: .aload 0 :: .iload 1 :: .iconst 48 :: .isub :: .invokevirtual 3476 :: sg_26_0_1),
  (16, none, .iload 1 :: .iconst 41 :: .if_icmp .ne 27 :: .aload 0 :: .invokevirtual 3588 :: sg_26_16_1),
  (27, none, .iload 1 :: .invokestatic 3856 :: .istore 2 :: .iload 2 :: .ifCond .eq 42 :: .iload 1 :: .iconst 126 :: .if_icmp .ne 44 :: .iconst 0 :: .freturn :: []),
  (42, none, .iconst 0 :: .freturn :: []),
  (44, none, .iload 2 :: .iconst 1 :: .if_icmp .ne 80 :: .aload 0 :: .getfield 1048 :: .iconst 1 :: .aload 0 :: .getfield 1044 :: .ishl :: .iand :: .ifCond .eq 65 :: .iconst 0 :: .freturn :: []),
  (65, none, .aload 0 :: .dup :: .getfield 1048 :: .iconst 1 :: .aload 0 :: .getfield 1044 :: .ishl :: .ior :: .putfield 1048 :: .aload 0 :: .iload 2 :: .invokevirtual 4244 :: sg_26_65_1),
  (80, none, .aload 0 :: .iload 2 :: .invokevirtual 4244 :: sg_26_80_1)]
theorem ts_26 : bs_26.all (fun q => chk 26 q.1 q.2.2) = true := by decide +kernel
/-- Rule.closes -/
def sg_28_9_1 : List Instr := .aload 0 :: .getfield 1040 :: .ifCond .le 31 :: .aload 0 :: .dup :: .getfield 1040 :: .iconst 1 :: .isub :: .putfield 1040 :: .aload 0 :: .dup :: .getfield 1044 :: .iconst 1 :: .isub :: .putfield 1044 :: .aload 0 :: .iconst 0 :: .putfield 1052 :: .iconst 1 :: .freturn :: []
def bs_28 : Tb := [
  (0, none, .aload 0 :: .getfield 1044 :: .ifCond .ne 9 :: .iconst 0 :: .freturn :: []),
  (9, none, .aload 0 :: .iconst 1 :: .invokevirtual 4244 :: sg_28_9_1),
  (31, none, .aload 0 :: .dup :: .getfield 1044 :: .iconst 1 :: .isub :: .putfield 1044 :: .aload 0 :: .iconst 0 :: .putfield 1052 :: .iconst 1 :: .freturn :: [])]
theorem ts_28 : bs_28.all (fun q => chk 28 q.1 q.2.2) = true := by decide +kernel
/-- Rule.joins -/
def sg_33_7_1 : List Instr := .aload 0 :: .iload 2 :: .putfield 1040 :: .iinc 2 (-1) :: .goto 7 :: []
def bs_33 : Tb := [
  (0, none, .aload 0 :: .getfield 1040 :: .iconst 1 :: .isub :: .istore 2 :: .goto_w 7 :: []),
  (7, some [0, 1, 2], .iload 2 :: .ifCond .lt 58 :: .iload 2 :: .aload 0 :: .getfield 1031 :: .arraylength :: .if_icmp .ge 58 :: .aload 0 :: .getfield 1031 :: .iload 2 :: .caload :: .invokestatic 3856 :: .iload 1 :: .if_icmp .lt 58 :: .aload 0 :: .iconst 1000 :: .aload 0 :: .getfield 1031 :: .iload 2 :: .caload :: .iadd :: .invokevirtual 3988 :: sg_33_7_1),
  (58, none, .return_ :: [])]
theorem ts_33 : bs_33.all (fun q => chk 33 q.1 q.2.2) = true := by decide +kernel
/-- Rule.measures -/
def sg_34_6_1 : List Instr := .istore 4 :: .goto 105 :: []
def sg_34_55_1 : List Instr := .istore 4 :: .goto 105 :: []
def sg_34_91_1 : List Instr := .istore 4 :: .iinc 5 1 :: .goto 6 :: []
def bs_34 : Tb := [
  (0, none, .iconst 0 :: .istore 4 :: .iconst 0 :: .istore 5 :: .goto_w 6 :: []),
  (6, some [0, 1, 2, 3, 4, 5], .iload 5 :: .aload 0 :: .getfield 1036 :: .if_icmp .ge 111 :: .iload 5 :: .aload 0 :: .getfield 1027 :: .arraylength :: .if_icmp .ge 111 :: .aload 0 :: .getfield 1027 :: .iload 5 :: .iaload :: .istore 6 :: .iload 6 :: .iconst 1000 :: .if_icmp .ge 55 :: .aload 0 :: .iload 4 :: .iload 6 :: .invokevirtual 4516 :: sg_34_6_1),
  (55, none, .iload 6 :: .iconst 1000 :: .isub :: .i2c :: .invokestatic 3728 :: .ifCond .eq 91 :: .aload 0 :: .iload 4 :: .iload 6 :: .iconst 1000 :: .isub :: .aload 1 :: .iload 2 :: .iload 3 :: .invokestatic 4928 :: .invokevirtual 4516 :: sg_34_55_1),
  (91, none, .aload 0 :: .iload 4 :: .iload 6 :: .iconst 1000 :: .isub :: .invokevirtual 4644 :: sg_34_91_1),
  (105, none, .iinc 5 1 :: .goto 6 :: []),
  (111, none, .aload 0 :: .getfield 1035 :: .iconst 0 :: .iaload :: .ireturn :: [])]
theorem ts_34 : bs_34.all (fun q => chk 34 q.1 q.2.2) = true := by decide +kernel
/-- Sea.joins -/
def sg_57_23_1 : List Instr := .return_ :: []
def bs_57 : Tb := [
  (0, none, .aload 0 :: .getfield 1280 :: .istore 3 :: .iload 3 :: .ifCond .lt 22 :: .iload 3 :: .iconst 6 :: .if_icmp .ge 22 :: .iload 1 :: .invokestatic 18448 :: .ifCond .ne 23 :: .return_ :: []),
  (22, none, .return_ :: []),
  (23, none, .aload 0 :: .dup :: .getfield 1280 :: .iconst 1 :: .iadd :: .putfield 1280 :: .aload 0 :: .getfield 1295 :: .iload 3 :: .iload 2 :: .iastore :: .aload 0 :: .getfield 1299 :: .iload 3 :: .iload 2 :: .iastore :: .aload 0 :: .getfield 1307 :: .iload 3 :: .iconst 0 :: .iastore :: .aload 0 :: .getfield 1311 :: .iload 3 :: .iconst 0 :: .iastore :: .aload 0 :: .iload 3 :: .iload 1 :: .invokevirtual 7461 :: sg_57_23_1)]
theorem ts_57 : bs_57.all (fun q => chk 57 q.1 q.2.2) = true := by decide +kernel
/-- Sea.winner -/
def sg_62_27_2 : List Instr := .istore 5 :: .iload 4 :: .iload 5 :: .if_icmp .ne 57 :: .iconst (-3) :: .goto 69 :: []
def sg_62_27_1 : List Instr := .istore 4 :: .aload 1 :: .aload 0 :: .iload 3 :: .iload 2 :: .invokevirtual 4404 :: sg_62_27_2
def bs_62 : Tb := [
  (0, none, .aload 0 :: .iload 2 :: .iload 3 :: .invokevirtual 5413 :: .ifCond .ne 11 :: .iconst (-1) :: .ireturn :: []),
  (11, none, .aload 0 :: .iload 2 :: .invokevirtual 5781 :: .aload 0 :: .iload 3 :: .invokevirtual 5781 :: .if_icmp .ne 27 :: .iconst (-2) :: .ireturn :: []),
  (27, none, .aload 1 :: .aload 0 :: .iload 2 :: .iload 3 :: .invokevirtual 4404 :: sg_62_27_1),
  (57, none, .iload 4 :: .iload 5 :: .if_icmp .le 68 :: .iload 2 :: .goto 69 :: []),
  (68, none, .iload 3 :: .ireturn :: []),
  (69, none, .ireturn :: [])]
theorem ts_62 : bs_62.all (fun q => chk 62 q.1 q.2.2) = true := by decide +kernel
/-- Sea.battle -/
def sg_63_0_1 : List Instr := .istore 5 :: .iload 5 :: .ifCond .lt 34 :: .aload 0 :: .iload 5 :: .iload 5 :: .iload 3 :: .if_icmp .ne 29 :: .iload 4 :: .goto 30 :: []
def sg_63_29_1 : List Instr := .iload 5 :: .ireturn :: []
def sg_63_30_1 : List Instr := .iload 5 :: .ireturn :: []
def bs_63 : Tb := [
  (0, none, .aload 0 :: .aload 1 :: .iload 3 :: .iload 4 :: .invokevirtual 7989 :: sg_63_0_1),
  (29, none, .iload 3 :: .iload 2 :: .invokevirtual 8245 :: sg_63_29_1),
  (30, none, .iload 2 :: .invokevirtual 8245 :: sg_63_30_1),
  (34, none, .iload 5 :: .ireturn :: [])]
theorem ts_63 : bs_63.all (fun q => chk 63 q.1 q.2.2) = true := by decide +kernel
/-- Sea.strikesTo -/
def sg_64_10_3 : List Instr := .return_ :: []
def sg_64_10_2 : List Instr := .aload 0 :: .iload 2 :: .invokevirtual 7829 :: sg_64_10_3
def sg_64_10_1 : List Instr := .aload 0 :: .getfield 1307 :: .iload 1 :: .aload 0 :: .getfield 1307 :: .iload 1 :: .iaload :: .iconst 1 :: .iadd :: .iconst 99 :: .invokestatic 37024 :: .iastore :: .aload 0 :: .getfield 1299 :: .iload 2 :: .aload 0 :: .getfield 1299 :: .iload 2 :: .iaload :: .iconst 1 :: .isub :: .iconst 0 :: .invokestatic 36896 :: .iastore :: .aload 0 :: .getfield 1311 :: .iload 2 :: .aload 0 :: .getfield 1311 :: .iload 2 :: .iaload :: .iconst 1 :: .iadd :: .iconst 99 :: .invokestatic 37024 :: .iastore :: .aload 0 :: .iload 1 :: .invokevirtual 7829 :: sg_64_10_2
def bs_64 : Tb := [
  (0, none, .aload 0 :: .iload 1 :: .iload 2 :: .invokevirtual 5413 :: .ifCond .ne 10 :: .return_ :: []),
  (10, none, .aload 0 :: .iload 1 :: .invokevirtual 5781 :: .istore 4 :: .aload 0 :: .iload 1 :: .iload 4 :: .aload 0 :: .iload 2 :: .invokevirtual 5781 :: .iload 3 :: .aload 0 :: .iload 1 :: .iload 4 :: .invokevirtual 6181 :: .invokestatic 37024 :: .invokevirtual 7749 :: sg_64_10_1)]
theorem ts_64 : bs_64.all (fun q => chk 64 q.1 q.2.2) = true := by decide +kernel
/-- Sea.dawns -/
def sg_65_9_2 : List Instr := .iinc 3 1 :: .goto 9 :: []
def sg_65_9_1 : List Instr := .aload 0 :: .iload 3 :: .invokevirtual 8469 :: sg_65_9_2
def bs_65 : Tb := [
  (0, none, .iconst 0 :: .istore 2 :: .goto_w 2 :: []),
  (2, some [0, 1, 2], .iload 2 :: .iload 1 :: .if_icmp .ge 56 :: .iconst 0 :: .istore 3 :: .goto_w 9 :: []),
  (9, some [0, 1, 2, 3], .iload 3 :: .aload 0 :: .getfield 1280 :: .if_icmp .ge 40 :: .aload 0 :: .iload 3 :: .aload 0 :: .iload 3 :: .invokevirtual 5653 :: .iconst 1 :: .iadd :: .invokevirtual 7589 :: sg_65_9_1),
  (40, none, .aload 0 :: .dup :: .getfield 1284 :: .iconst 1 :: .iadd :: .putfield 1284 :: .iinc 2 1 :: .goto 2 :: []),
  (56, none, .return_ :: [])]
theorem ts_65 : bs_65.all (fun q => chk 65 q.1 q.2.2) = true := by decide +kernel
/-- Sea.mendsFlag -/
def sg_66_67_1 : List Instr := .return_ :: []
def bs_66 : Tb := [
  (0, none, .iconst (-1) :: .istore 2 :: .iconst 0 :: .istore 3 :: .goto_w 4 :: []),
  (4, some [0, 1, 2, 3], .iload 3 :: .iconst 4 :: .if_icmp .ge 67 :: .iload 3 :: .aload 0 :: .iload 1 :: .invokevirtual 5781 :: .if_icmp .eq 31 :: .aload 0 :: .iload 1 :: .iload 3 :: .invokevirtual 6181 :: .ifCond .le 31 :: .iconst 1 :: .goto 32 :: []),
  (31, none, .iconst 0 :: .istore 4 :: .iload 4 :: .ifCond .eq 61 :: .iload 2 :: .iconst (-1) :: .if_icmp .eq 59 :: .aload 0 :: .iload 1 :: .iload 3 :: .invokevirtual 6181 :: .aload 0 :: .iload 1 :: .iload 2 :: .invokevirtual 6181 :: .if_icmp .ge 61 :: .iload 3 :: .istore 2 :: .iinc 3 1 :: .goto 4 :: []),
  (32, none, .istore 4 :: .iload 4 :: .ifCond .eq 61 :: .iload 2 :: .iconst (-1) :: .if_icmp .eq 59 :: .aload 0 :: .iload 1 :: .iload 3 :: .invokevirtual 6181 :: .aload 0 :: .iload 1 :: .iload 2 :: .invokevirtual 6181 :: .if_icmp .ge 61 :: .iload 3 :: .istore 2 :: .iinc 3 1 :: .goto 4 :: []),
  (59, none, .iload 3 :: .istore 2 :: .iinc 3 1 :: .goto 4 :: []),
  (61, none, .iinc 3 1 :: .goto 4 :: []),
  (67, none, .iload 2 :: .iconst (-1) :: .if_icmp .eq 84 :: .aload 0 :: .iload 1 :: .iload 2 :: .aload 0 :: .iload 1 :: .invokevirtual 5781 :: .iconst 1 :: .invokevirtual 7749 :: sg_66_67_1),
  (84, none, .return_ :: [])]
theorem ts_66 : bs_66.all (fun q => chk 66 q.1 q.2.2) = true := by decide +kernel
/-- Sea.sewsIn -/
def sg_67_57_2 : List Instr := .aload 0 :: .iload 1 :: .invokevirtual 5781 :: .ireturn :: []
def sg_67_57_1 : List Instr := .aload 0 :: .iload 1 :: .invokevirtual 7829 :: sg_67_57_2
def bs_67 : Tb := [
  (0, none, .aload 0 :: .iload 1 :: .invokevirtual 5269 :: .ifCond .eq 26 :: .iload 2 :: .invokestatic 18448 :: .ifCond .eq 26 :: .iload 3 :: .iconst 1 :: .if_icmp .lt 26 :: .iload 3 :: .iconst 12 :: .if_icmp .le 28 :: .iconst (-1) :: .ireturn :: []),
  (26, none, .iconst (-1) :: .ireturn :: []),
  (28, none, .aload 0 :: .iload 1 :: .aload 0 :: .iload 1 :: .invokevirtual 5781 :: .invokevirtual 6181 :: .iload 3 :: .if_icmp .ge 45 :: .iconst (-2) :: .ireturn :: []),
  (45, none, .aload 0 :: .iload 1 :: .invokevirtual 5781 :: .iload 2 :: .if_icmp .ne 57 :: .iconst (-3) :: .ireturn :: []),
  (57, none, .aload 0 :: .iload 1 :: .aload 0 :: .iload 1 :: .invokevirtual 5781 :: .iload 2 :: .iload 3 :: .invokevirtual 7749 :: sg_67_57_1)]
theorem ts_67 : bs_67.all (fun q => chk 67 q.1 q.2.2) = true := by decide +kernel
/-- Sea.strikesAll -/
def sg_68_34_1 : List Instr := .iload 3 :: .ireturn :: []
def bs_68 : Tb := [
  (0, none, .aload 0 :: .iload 1 :: .invokevirtual 5269 :: .ifCond .eq 15 :: .iload 2 :: .invokestatic 18448 :: .ifCond .ne 17 :: .iconst (-1) :: .ireturn :: []),
  (15, none, .iconst (-1) :: .ireturn :: []),
  (17, none, .iconst 12 :: .aload 0 :: .iload 1 :: .iload 2 :: .invokevirtual 6181 :: .isub :: .istore 3 :: .iload 3 :: .ifCond .ne 34 :: .iconst (-2) :: .ireturn :: []),
  (34, none, .aload 0 :: .iload 1 :: .iload 2 :: .invokevirtual 7461 :: sg_68_34_1)]
theorem ts_68 : bs_68.all (fun q => chk 68 q.1 q.2.2) = true := by decide +kernel
/-- Search.fewest -/
def sg_73_20_1 : List Instr := .iconst 0 :: .istore 3 :: .goto_w 27 :: []
def sg_73_27_1 : List Instr := .ifCond .eq 43 :: .iload 3 :: .ireturn :: []
def bs_73 : Tb := [
  (0, none, .aload 0 :: .iconst 0 :: .invokevirtual 9238 :: .astore 2 :: .aload 2 :: .ifnull 17 :: .aload 0 :: .getfield 1546 :: .ifnonnull 20 :: .iconst (-2) :: .ireturn :: []),
  (17, none, .iconst (-2) :: .ireturn :: []),
  (20, none, .aload 2 :: .aload 1 :: .invokevirtual 5141 :: sg_73_20_1),
  (27, some [0, 3], .iload 3 :: .iconst 3 :: .if_icmp .gt 49 :: .aload 0 :: .iconst 0 :: .iload 3 :: .invokevirtual 9510 :: sg_73_27_1),
  (43, none, .iinc 3 1 :: .goto 27 :: []),
  (49, none, .iconst (-2) :: .ireturn :: [])]
theorem ts_73 : bs_73.all (fun q => chk 73 q.1 q.2.2) = true := by decide +kernel
/-- Search.reaches -/
def sg_74_90_1 : List Instr := .istore 6 :: .iload 6 :: .ifCond .lt 146 :: .aload 0 :: .iload 1 :: .iload 6 :: .iload 6 :: .iload 4 :: .if_icmp .ne 125 :: .iload 5 :: .goto 127 :: []
def sg_74_125_2 : List Instr := .ifCond .eq 146 :: .iconst 1 :: .freturn :: []
def sg_74_125_1 : List Instr := .ifCond .eq 146 :: .aload 0 :: .iload 1 :: .iconst 1 :: .iadd :: .iload 2 :: .invokevirtual 9510 :: sg_74_125_2
def sg_74_127_2 : List Instr := .ifCond .eq 146 :: .iconst 1 :: .freturn :: []
def sg_74_127_1 : List Instr := .ifCond .eq 146 :: .aload 0 :: .iload 1 :: .iconst 1 :: .iadd :: .iload 2 :: .invokevirtual 9510 :: sg_74_127_2
def bs_74 : Tb := [
  (0, none, .aload 0 :: .iload 1 :: .invokevirtual 9238 :: .astore 3 :: .aload 3 :: .ifnull 15 :: .iload 1 :: .iload 2 :: .if_icmp .lt 33 :: .aload 3 :: .ifnull 31 :: .aload 0 :: .aload 3 :: .invokevirtual 9622 :: .ifCond .eq 31 :: .iconst 1 :: .goto 32 :: []),
  (15, none, .aload 3 :: .ifnull 31 :: .aload 0 :: .aload 3 :: .invokevirtual 9622 :: .ifCond .eq 31 :: .iconst 1 :: .goto 32 :: []),
  (31, none, .iconst 0 :: .freturn :: []),
  (32, none, .freturn :: []),
  (33, none, .aload 0 :: .aload 3 :: .iload 2 :: .iload 1 :: .isub :: .invokevirtual 9766 :: .ifCond .eq 46 :: .iconst 0 :: .freturn :: []),
  (46, none, .iconst 0 :: .istore 4 :: .goto_w 49 :: []),
  (49, some [0, 1, 2, 3, 4], .iload 4 :: .aload 3 :: .getfield 1280 :: .if_icmp .ge 158 :: .iload 4 :: .iconst 1 :: .iadd :: .istore 5 :: .goto_w 64 :: []),
  (64, some [0, 1, 2, 3, 4, 5], .iload 5 :: .aload 3 :: .getfield 1280 :: .if_icmp .ge 152 :: .aload 0 :: .iload 4 :: .iload 5 :: .iload 2 :: .iload 1 :: .isub :: .invokevirtual 9910 :: .ifCond .ne 90 :: .goto 146 :: []),
  (90, none, .aload 3 :: .aload 0 :: .getfield 1546 :: .iload 4 :: .iload 5 :: .invokevirtual 7989 :: sg_74_90_1),
  (125, none, .iload 4 :: .invokevirtual 10038 :: sg_74_125_1),
  (127, none, .invokevirtual 10038 :: sg_74_127_1),
  (146, none, .iinc 5 1 :: .goto 64 :: []),
  (152, none, .iinc 4 1 :: .goto 49 :: []),
  (158, none, .iconst 0 :: .freturn :: [])]
theorem ts_74 : bs_74.all (fun q => chk 74 q.1 q.2.2) = true := by decide +kernel
/-- Search.goes -/
def sg_78_45_2 : List Instr := .aload 0 :: .getfield 1543 :: .iconst 2 :: .iload 1 :: .imul :: .iload 2 :: .iload 3 :: .invokestatic 37024 :: .iastore :: .aload 0 :: .getfield 1543 :: .iconst 2 :: .iload 1 :: .imul :: .iconst 1 :: .iadd :: .iload 2 :: .iload 3 :: .invokestatic 36896 :: .iastore :: .iconst 1 :: .freturn :: []
def sg_78_45_1 : List Instr := .aload 5 :: .iload 2 :: .iload 3 :: .aload 0 :: .getfield 1548 :: .invokevirtual 8245 :: sg_78_45_2
def bs_78 : Tb := [
  (0, none, .aload 0 :: .iload 1 :: .invokevirtual 9238 :: .astore 4 :: .aload 0 :: .iload 1 :: .iconst 1 :: .iadd :: .invokevirtual 9238 :: .astore 5 :: .aload 4 :: .ifnull 43 :: .aload 5 :: .ifnull 43 :: .iload 1 :: .ifCond .lt 43 :: .iconst 2 :: .iload 1 :: .imul :: .iconst 1 :: .iadd :: .aload 0 :: .getfield 1543 :: .arraylength :: .if_icmp .lt 45 :: .iconst 0 :: .freturn :: []),
  (43, none, .iconst 0 :: .freturn :: []),
  (45, none, .aload 5 :: .aload 4 :: .invokevirtual 5141 :: sg_78_45_1)]
theorem ts_78 : bs_78.all (fun q => chk 78 q.1 q.2.2) = true := by decide +kernel
/-- C.sign -/
def sg_85_17_1 : List Instr := .iinc 2 (-8) :: .goto 17 :: []
def bs_85 : Tb := [
  (0, none, .aload 0 :: .getfield 2051 :: .getfield 1796 :: .iconst 76 :: .if_icmp .le 14 :: .iconst (-1) :: .ireturn :: []),
  (14, none, .iconst 24 :: .istore 2 :: .goto_w 17 :: []),
  (17, some [0, 1, 2], .iload 2 :: .ifCond .lt 42 :: .aload 0 :: .getfield 2051 :: .iload 1 :: .iload 2 :: .iushr :: .iconst 255 :: .iand :: .i2c :: .invokevirtual 10391 :: sg_85_17_1),
  (42, none, .aload 0 :: .getfield 2051 :: .getfield 1796 :: .ireturn :: [])]
theorem ts_85 : bs_85.all (fun q => chk 85 q.1 q.2.2) = true := by decide +kernel
/-- C.ships -/
def sg_87_0_1 : List Instr := .istore 1 :: .aload 0 :: .iload 1 :: .invokevirtual 17304 :: .istore 2 :: .iload 2 :: .iconst (-1) :: .if_icmp .eq 23 :: .iconst (-1) :: .iload 2 :: .isub :: .ireturn :: []
def sg_87_32_1 : List Instr := .iinc 4 1 :: .goto 32 :: []
def sg_87_81_1 : List Instr := .aload 0 :: .iconst 0 :: .putfield 2108 :: .iload 3 :: .ireturn :: []
def bs_87 : Tb := [
  (0, none, .aload 0 :: .getfield 2051 :: .invokevirtual 10631 :: sg_87_0_1),
  (23, none, .iload 1 :: .iconst 1 :: .iadd :: .iconst 3 :: .idiv :: .istore 3 :: .iconst 0 :: .istore 4 :: .goto_w 32 :: []),
  (32, some [0, 3, 4], .iload 4 :: .iload 3 :: .if_icmp .ge 81 :: .aload 0 :: .getfield 2059 :: .aload 0 :: .getfield 2051 :: .iconst 3 :: .iload 4 :: .imul :: .invokevirtual 10519 :: .iconst 97 :: .isub :: .aload 0 :: .getfield 2051 :: .iconst 3 :: .iload 4 :: .imul :: .iconst 1 :: .iadd :: .invokevirtual 10519 :: .iconst 48 :: .isub :: .invokevirtual 7333 :: sg_87_32_1),
  (81, none, .iload 3 :: .ifCond .le 97 :: .aload 0 :: .getfield 2071 :: .invokevirtual 1538 :: sg_87_81_1),
  (97, none, .iload 3 :: .ireturn :: [])]
theorem ts_87 : bs_87.all (fun q => chk 87 q.1 q.2.2) = true := by decide +kernel
/-- C.rule -/
def sg_88_0_1 : List Instr := .istore 1 :: .iload 1 :: .iconst (-1) :: .if_icmp .eq 14 :: .iconst (-1) :: .iload 1 :: .isub :: .ireturn :: []
def bs_88 : Tb := [
  (0, none, .aload 0 :: .invokevirtual 17544 :: sg_88_0_1),
  (14, none, .aload 0 :: .getfield 2098 :: .astore 2 :: .aload 0 :: .aload 0 :: .getfield 2102 :: .putfield 2098 :: .aload 0 :: .aload 2 :: .putfield 2102 :: .iconst 0 :: .ireturn :: [])]
theorem ts_88 : bs_88.all (fun q => chk 88 q.1 q.2.2) = true := by decide +kernel
/-- C.force -/
def sg_90_14_1 : List Instr := .invokestatic 37024 :: .invokestatic 36896 :: .iadd :: .ireturn :: []
def bs_90 : Tb := [
  (0, none, .aload 0 :: .getfield 2059 :: .iload 1 :: .iload 2 :: .invokevirtual 5413 :: .ifCond .ne 14 :: .iconst (-1) :: .ireturn :: []),
  (14, none, .iconst 1000 :: .iconst (-999) :: .iconst 999 :: .aload 0 :: .getfield 2098 :: .aload 0 :: .getfield 2059 :: .iload 1 :: .iload 2 :: .invokevirtual 4404 :: sg_90_14_1)]
theorem ts_90 : bs_90.all (fun q => chk 90 q.1 q.2.2) = true := by decide +kernel
/-- C.sheet -/
def sg_92_83_1 : List Instr := .iinc 6 1 :: .goto 44 :: []
def sg_92_84_1 : List Instr := .iinc 6 1 :: .goto 44 :: []
def bs_92 : Tb := [
  (0, none, .iload 1 :: .ifCond .lt 15 :: .iload 1 :: .iconst 3 :: .if_icmp .gt 15 :: .iload 2 :: .iconst 6 :: .if_icmp .le 17 :: .iconst (-1) :: .ireturn :: []),
  (15, none, .iconst (-1) :: .ireturn :: []),
  (17, none, .iload 1 :: .iconst 3 :: .if_icmp .ge 29 :: .iload 2 :: .ifCond .ge 29 :: .iconst (-2) :: .ireturn :: []),
  (29, none, .iload 1 :: .iconst 3 :: .if_icmp .ne 38 :: .iconst 0 :: .goto 39 :: []),
  (38, none, .iload 2 :: .istore 5 :: .iconst 0 :: .istore 6 :: .goto_w 44 :: []),
  (39, none, .istore 5 :: .iconst 0 :: .istore 6 :: .goto_w 44 :: []),
  (44, some [0, 1, 3, 4, 5, 6], .iload 6 :: .aload 0 :: .getfield 2059 :: .getfield 1280 :: .if_icmp .ge 93 :: .aload 0 :: .getfield 2059 :: .iload 6 :: .iload 6 :: .iload 5 :: .if_icmp .ge 83 :: .iload 1 :: .iload 3 :: .iload 6 :: .iload 4 :: .imul :: .iadd :: .invokestatic 18592 :: .goto 84 :: []),
  (83, none, .iconst 0 :: .invokevirtual 7589 :: sg_92_83_1),
  (84, none, .invokevirtual 7589 :: sg_92_84_1),
  (93, none, .iload 1 :: .iconst 3 :: .if_icmp .ne 103 :: .iconst (-3) :: .goto 110 :: []),
  (103, none, .aload 0 :: .getfield 2059 :: .invokevirtual 6405 :: .ireturn :: []),
  (110, none, .ireturn :: [])]
theorem ts_92 : bs_92.all (fun q => chk 92 q.1 q.2.2) = true := by decide +kernel
/-- C.fight -/
def sg_93_0_3 : List Instr := .iload 3 :: .ireturn :: []
def sg_93_0_2 : List Instr := .istore 3 :: .iload 3 :: .ifCond .lt 44 :: .aload 0 :: .getfield 2071 :: .aload 0 :: .getfield 2063 :: .invokevirtual 1810 :: sg_93_0_3
def sg_93_0_1 : List Instr := .aload 0 :: .getfield 2059 :: .aload 0 :: .getfield 2098 :: .aload 0 :: .getfield 2104 :: .iload 1 :: .iload 2 :: .invokevirtual 8133 :: sg_93_0_2
def bs_93 : Tb := [
  (0, none, .aload 0 :: .getfield 2063 :: .aload 0 :: .getfield 2059 :: .invokevirtual 5141 :: sg_93_0_1),
  (44, none, .iload 3 :: .ireturn :: [])]
theorem ts_93 : bs_93.all (fun q => chk 93 q.1 q.2.2) = true := by decide +kernel
/-- C.days -/
def sg_94_12_3 : List Instr := .iconst 0 :: .istore 2 :: .goto_w 44 :: []
def sg_94_12_2 : List Instr := .aload 0 :: .getfield 2055 :: .invokevirtual 2179 :: sg_94_12_3
def sg_94_12_1 : List Instr := .aload 0 :: .getfield 2059 :: .iload 1 :: .invokevirtual 8341 :: sg_94_12_2
def sg_94_27_2 : List Instr := .iconst 0 :: .istore 2 :: .goto_w 44 :: []
def sg_94_27_1 : List Instr := .aload 0 :: .getfield 2055 :: .invokevirtual 2179 :: sg_94_27_2
def sg_94_44_1 : List Instr := .iinc 2 1 :: .goto 44 :: []
def bs_94 : Tb := [
  (0, none, .iload 1 :: .ifCond .lt 10 :: .iload 1 :: .iconst 60 :: .if_icmp .le 12 :: .iconst (-1) :: .ireturn :: []),
  (10, none, .iconst (-1) :: .ireturn :: []),
  (12, none, .iload 1 :: .ifCond .le 27 :: .aload 0 :: .getfield 2071 :: .aload 0 :: .getfield 2059 :: .invokevirtual 1810 :: sg_94_12_1),
  (27, none, .aload 0 :: .getfield 2059 :: .iload 1 :: .invokevirtual 8341 :: sg_94_27_1),
  (44, some [0, 2], .iload 2 :: .iconst 4 :: .if_icmp .ge 71 :: .aload 0 :: .getfield 2055 :: .aload 0 :: .getfield 2059 :: .iload 2 :: .invokevirtual 6677 :: .i2l :: .invokevirtual 2323 :: sg_94_44_1),
  (71, none, .aload 0 :: .getfield 2059 :: .invokevirtual 6405 :: .ireturn :: [])]
theorem ts_94 : bs_94.all (fun q => chk 94 q.1 q.2.2) = true := by decide +kernel
/-- C.sews -/
def sg_95_0_3 : List Instr := .iload 4 :: .ireturn :: []
def sg_95_0_2 : List Instr := .istore 4 :: .iload 4 :: .ifCond .lt 39 :: .aload 0 :: .getfield 2071 :: .aload 0 :: .getfield 2063 :: .invokevirtual 1810 :: sg_95_0_3
def sg_95_0_1 : List Instr := .aload 0 :: .getfield 2059 :: .iload 1 :: .iload 2 :: .iload 3 :: .invokevirtual 8629 :: sg_95_0_2
def bs_95 : Tb := [
  (0, none, .aload 0 :: .getfield 2063 :: .aload 0 :: .getfield 2059 :: .invokevirtual 5141 :: sg_95_0_1),
  (39, none, .iload 4 :: .ireturn :: [])]
theorem ts_95 : bs_95.all (fun q => chk 95 q.1 q.2.2) = true := by decide +kernel
/-- C.yields -/
def sg_96_0_3 : List Instr := .iload 3 :: .ireturn :: []
def sg_96_0_2 : List Instr := .istore 3 :: .iload 3 :: .ifCond .lt 36 :: .aload 0 :: .getfield 2071 :: .aload 0 :: .getfield 2063 :: .invokevirtual 1810 :: sg_96_0_3
def sg_96_0_1 : List Instr := .aload 0 :: .getfield 2059 :: .iload 1 :: .iload 2 :: .invokevirtual 8741 :: sg_96_0_2
def bs_96 : Tb := [
  (0, none, .aload 0 :: .getfield 2063 :: .aload 0 :: .getfield 2059 :: .invokevirtual 5141 :: sg_96_0_1),
  (36, none, .iload 3 :: .ireturn :: [])]
theorem ts_96 : bs_96.all (fun q => chk 96 q.1 q.2.2) = true := by decide +kernel
/-- C.war -/
def sg_97_0_1 : List Instr := .istore 1 :: .aload 0 :: .iload 1 :: .invokevirtual 17688 :: .istore 2 :: .iload 2 :: .iconst (-1) :: .if_icmp .eq 23 :: .iconst (-1) :: .iload 2 :: .isub :: .ireturn :: []
def sg_97_23_1 : List Instr := .iconst 0 :: .istore 3 :: .iconst 0 :: .istore 4 :: .iconst 0 :: .istore 5 :: .goto_w 42 :: []
def sg_97_42_1 : List Instr := .ifCond .ne 66 :: .iconst 1 :: .goto 67 :: []
def sg_97_102_2 : List Instr := .aload 0 :: .getfield 2055 :: .iload 4 :: .ifCond .eq 137 :: .ldc2_w 1 :: .goto 138 :: []
def sg_97_102_1 : List Instr := .aload 0 :: .getfield 2055 :: .invokevirtual 2179 :: sg_97_102_2
def sg_97_117_1 : List Instr := .aload 0 :: .getfield 2055 :: .iload 4 :: .ifCond .eq 137 :: .ldc2_w 1 :: .goto 138 :: []
def sg_97_137_2 : List Instr := .iload 3 :: .ireturn :: []
def sg_97_137_1 : List Instr := .aload 0 :: .getfield 2055 :: .aload 0 :: .getfield 2059 :: .getfield 1288 :: .i2l :: .invokevirtual 2323 :: sg_97_137_2
def sg_97_138_2 : List Instr := .iload 3 :: .ireturn :: []
def sg_97_138_1 : List Instr := .aload 0 :: .getfield 2055 :: .aload 0 :: .getfield 2059 :: .getfield 1288 :: .i2l :: .invokevirtual 2323 :: sg_97_138_2
def bs_97 : Tb := [
  (0, none, .aload 0 :: .getfield 2051 :: .invokevirtual 10631 :: sg_97_0_1),
  (23, none, .aload 0 :: .getfield 2063 :: .aload 0 :: .getfield 2059 :: .invokevirtual 5141 :: sg_97_23_1),
  (42, some [0, 1, 3, 4, 5], .iload 5 :: .iload 1 :: .if_icmp .ge 102 :: .iload 4 :: .ifCond .ne 102 :: .aload 0 :: .iload 5 :: .invokevirtual 18072 :: sg_97_42_1),
  (66, none, .iconst 0 :: .istore 4 :: .iload 3 :: .iload 4 :: .ifCond .eq 79 :: .iconst 0 :: .goto 80 :: []),
  (67, none, .istore 4 :: .iload 3 :: .iload 4 :: .ifCond .eq 79 :: .iconst 0 :: .goto 80 :: []),
  (79, none, .iconst 1 :: .iadd :: .istore 3 :: .iload 5 :: .aload 0 :: .getfield 2051 :: .iload 5 :: .invokevirtual 10519 :: .invokestatic 17936 :: .iadd :: .istore 5 :: .goto 42 :: []),
  (80, none, .iadd :: .istore 3 :: .iload 5 :: .aload 0 :: .getfield 2051 :: .iload 5 :: .invokevirtual 10519 :: .invokestatic 17936 :: .iadd :: .istore 5 :: .goto 42 :: []),
  (102, none, .iload 3 :: .ifCond .le 117 :: .aload 0 :: .getfield 2071 :: .aload 0 :: .getfield 2063 :: .invokevirtual 1810 :: sg_97_102_1),
  (117, none, .aload 0 :: .getfield 2055 :: .invokevirtual 2179 :: sg_97_117_1),
  (137, none, .ldc2_w 0 :: .invokevirtual 2323 :: sg_97_137_1),
  (138, none, .invokevirtual 2323 :: sg_97_138_1)]
theorem ts_97 : bs_97.all (fun q => chk 97 q.1 q.2.2) = true := by decide +kernel
/-- C.undo -/
def sg_98_0_1 : List Instr := .ifCond .eq 24 :: .aload 0 :: .getfield 2071 :: .getfield 520 :: .goto 25 :: []
def bs_98 : Tb := [
  (0, none, .aload 0 :: .getfield 2071 :: .aload 0 :: .getfield 2059 :: .invokevirtual 1938 :: sg_98_0_1),
  (24, none, .iconst (-1) :: .ireturn :: []),
  (25, none, .ireturn :: [])]
theorem ts_98 : bs_98.all (fun q => chk 98 q.1 q.2.2) = true := by decide +kernel
/-- C.fleet -/
def sg_99_66_3 : List Instr := .iload 2 :: .ireturn :: []
def sg_99_66_2 : List Instr := .aload 0 :: .getfield 2055 :: .aload 0 :: .getfield 2059 :: .iload 1 :: .invokevirtual 6677 :: .i2l :: .invokevirtual 2323 :: sg_99_66_3
def sg_99_66_1 : List Instr := .aload 0 :: .getfield 2055 :: .iload 3 :: .i2l :: .invokevirtual 2323 :: sg_99_66_2
def bs_99 : Tb := [
  (0, none, .iload 1 :: .invokestatic 18448 :: .ifCond .ne 9 :: .iconst (-1) :: .ireturn :: []),
  (9, none, .iconst 0 :: .istore 2 :: .iconst 0 :: .istore 3 :: .iconst 0 :: .istore 4 :: .goto_w 16 :: []),
  (16, some [0, 1, 2, 3, 4], .iload 4 :: .aload 0 :: .getfield 2059 :: .getfield 1280 :: .if_icmp .ge 66 :: .aload 0 :: .getfield 2059 :: .iload 4 :: .invokevirtual 5781 :: .iload 1 :: .if_icmp .ne 60 :: .iload 2 :: .iconst 1 :: .iload 4 :: .ishl :: .ior :: .istore 2 :: .iload 3 :: .aload 0 :: .getfield 2059 :: .iload 4 :: .invokevirtual 5653 :: .iadd :: .istore 3 :: .iinc 4 1 :: .goto 16 :: []),
  (60, none, .iinc 4 1 :: .goto 16 :: []),
  (66, none, .aload 0 :: .getfield 2055 :: .invokevirtual 2179 :: sg_99_66_1)]
theorem ts_99 : bs_99.all (fun q => chk 99 q.1 q.2.2) = true := by decide +kernel
/-- C.share -/
def sg_100_19_2 : List Instr := .iconst 0 :: .ireturn :: []
def sg_100_19_1 : List Instr := .aload 0 :: .getfield 2055 :: .aload 0 :: .getfield 2059 :: .iload 1 :: .invokevirtual 6677 :: .i2l :: .iconst 12 :: .aload 0 :: .getfield 2059 :: .getfield 1280 :: .imul :: .i2l :: .invokevirtual 2467 :: sg_100_19_2
def bs_100 : Tb := [
  (0, none, .iload 1 :: .invokestatic 18448 :: .ifCond .eq 17 :: .aload 0 :: .getfield 2059 :: .getfield 1280 :: .ifCond .ne 19 :: .iconst (-1) :: .ireturn :: []),
  (17, none, .iconst (-1) :: .ireturn :: []),
  (19, none, .aload 0 :: .getfield 2055 :: .invokevirtual 2179 :: sg_100_19_1)]
theorem ts_100 : bs_100.all (fun q => chk 100 q.1 q.2.2) = true := by decide +kernel
/-- C.later -/
def sg_101_23_3 : List Instr := .iconst 0 :: .istore 3 :: .goto_w 51 :: []
def sg_101_23_2 : List Instr := .aload 0 :: .getfield 2055 :: .invokevirtual 2179 :: sg_101_23_3
def sg_101_23_1 : List Instr := .aload 0 :: .getfield 2067 :: .iload 2 :: .invokevirtual 8341 :: sg_101_23_2
def sg_101_51_1 : List Instr := .iinc 3 1 :: .goto 51 :: []
def bs_101 : Tb := [
  (0, none, .aload 0 :: .getfield 2059 :: .iload 1 :: .invokevirtual 5269 :: .ifCond .eq 21 :: .iload 2 :: .ifCond .lt 21 :: .iload 2 :: .iconst 99 :: .if_icmp .le 23 :: .iconst (-1) :: .ireturn :: []),
  (21, none, .iconst (-1) :: .ireturn :: []),
  (23, none, .aload 0 :: .getfield 2067 :: .aload 0 :: .getfield 2059 :: .invokevirtual 5141 :: sg_101_23_1),
  (51, some [0, 1, 3], .iload 3 :: .iconst 4 :: .if_icmp .ge 79 :: .aload 0 :: .getfield 2055 :: .aload 0 :: .getfield 2067 :: .iload 1 :: .iload 3 :: .invokevirtual 6181 :: .i2l :: .invokevirtual 2323 :: sg_101_51_1),
  (79, none, .aload 0 :: .getfield 2067 :: .iload 1 :: .invokevirtual 5781 :: .ireturn :: [])]
theorem ts_101 : bs_101.all (fun q => chk 101 q.1 q.2.2) = true := by decide +kernel
/-- C.whole -/
def sg_102_13_2 : List Instr := .aload 0 :: .getfield 2059 :: .iload 1 :: .invokevirtual 6293 :: .ireturn :: []
def sg_102_13_1 : List Instr := .aload 0 :: .getfield 2055 :: .aload 0 :: .getfield 2059 :: .iload 1 :: .invokevirtual 5781 :: .i2l :: .invokevirtual 2323 :: sg_102_13_2
def bs_102 : Tb := [
  (0, none, .aload 0 :: .getfield 2059 :: .iload 1 :: .invokevirtual 5269 :: .ifCond .ne 13 :: .iconst (-1) :: .ireturn :: []),
  (13, none, .aload 0 :: .getfield 2055 :: .invokevirtual 2179 :: sg_102_13_1)]
theorem ts_102 : bs_102.all (fun q => chk 102 q.1 q.2.2) = true := by decide +kernel
/-- C.sisters -/
def sg_103_33_3 : List Instr := .iinc 3 1 :: .goto 33 :: []
def sg_103_33_2 : List Instr := .aload 0 :: .getfield 2055 :: .iload 3 :: .i2l :: .invokevirtual 2323 :: sg_103_33_3
def sg_103_33_1 : List Instr := .aload 0 :: .getfield 2055 :: .iload 2 :: .i2l :: .invokevirtual 2323 :: sg_103_33_2
def sg_103_66_3 : List Instr := .iinc 3 1 :: .goto 33 :: []
def sg_103_66_2 : List Instr := .aload 0 :: .getfield 2055 :: .iload 3 :: .i2l :: .invokevirtual 2323 :: sg_103_66_3
def sg_103_66_1 : List Instr := .aload 0 :: .getfield 2055 :: .iload 2 :: .i2l :: .invokevirtual 2323 :: sg_103_66_2
def bs_103 : Tb := [
  (0, none, .aload 0 :: .getfield 2059 :: .getfield 1280 :: .iconst 2 :: .if_icmp .ge 14 :: .iconst (-2) :: .ireturn :: []),
  (14, none, .iconst (-1) :: .istore 1 :: .iconst 0 :: .istore 2 :: .goto_w 18 :: []),
  (18, some [0, 1, 2], .iload 2 :: .aload 0 :: .getfield 2059 :: .getfield 1280 :: .if_icmp .ge 106 :: .iload 2 :: .iconst 1 :: .iadd :: .istore 3 :: .goto_w 33 :: []),
  (33, some [0, 1, 2, 3], .iload 3 :: .aload 0 :: .getfield 2059 :: .getfield 1280 :: .if_icmp .ge 100 :: .aload 0 :: .getfield 2059 :: .iload 2 :: .iload 3 :: .invokevirtual 7205 :: .istore 4 :: .iload 1 :: .iconst (-1) :: .if_icmp .eq 66 :: .iload 4 :: .iload 1 :: .if_icmp .ge 94 :: .iload 4 :: .istore 1 :: .aload 0 :: .getfield 2055 :: .invokevirtual 2179 :: sg_103_33_1),
  (66, none, .iload 4 :: .istore 1 :: .aload 0 :: .getfield 2055 :: .invokevirtual 2179 :: sg_103_66_1),
  (94, none, .iinc 3 1 :: .goto 33 :: []),
  (100, none, .iinc 2 1 :: .goto 18 :: []),
  (106, none, .iload 1 :: .ireturn :: [])]
theorem ts_103 : bs_103.all (fun q => chk 103 q.1 q.2.2) = true := by decide +kernel
/-- C.motley -/
def sg_104_97_3 : List Instr := .iload 1 :: .ireturn :: []
def sg_104_97_2 : List Instr := .aload 0 :: .getfield 2055 :: .iload 2 :: .i2l :: .invokevirtual 2323 :: sg_104_97_3
def sg_104_97_1 : List Instr := .aload 0 :: .getfield 2055 :: .aload 0 :: .getfield 2059 :: .iload 1 :: .invokevirtual 6293 :: .i2l :: .invokevirtual 2323 :: sg_104_97_2
def bs_104 : Tb := [
  (0, none, .aload 0 :: .getfield 2059 :: .getfield 1280 :: .ifCond .ne 13 :: .iconst (-2) :: .ireturn :: []),
  (13, none, .iconst 0 :: .istore 1 :: .iconst 1 :: .istore 2 :: .goto_w 17 :: []),
  (17, some [0, 1, 2], .iload 2 :: .aload 0 :: .getfield 2059 :: .getfield 1280 :: .if_icmp .ge 55 :: .aload 0 :: .getfield 2059 :: .iload 2 :: .invokevirtual 6293 :: .aload 0 :: .getfield 2059 :: .iload 1 :: .invokevirtual 6293 :: .if_icmp .le 49 :: .iload 2 :: .istore 1 :: .iinc 2 1 :: .goto 17 :: []),
  (49, none, .iinc 2 1 :: .goto 17 :: []),
  (55, none, .iconst 0 :: .istore 2 :: .iconst 0 :: .istore 3 :: .goto_w 59 :: []),
  (59, some [0, 1, 2, 3], .iload 3 :: .iconst 4 :: .if_icmp .ge 97 :: .iload 3 :: .aload 0 :: .getfield 2059 :: .iload 1 :: .invokevirtual 5781 :: .if_icmp .eq 91 :: .aload 0 :: .getfield 2059 :: .iload 1 :: .iload 3 :: .invokevirtual 6181 :: .ifCond .le 91 :: .iinc 2 1 :: .iinc 3 1 :: .goto 59 :: []),
  (91, none, .iinc 3 1 :: .goto 59 :: []),
  (97, none, .aload 0 :: .getfield 2055 :: .invokevirtual 2179 :: sg_104_97_1)]
theorem ts_104 : bs_104.all (fun q => chk 104 q.1 q.2.2) = true := by decide +kernel
/-- C.order -/
def sg_105_9_1 : List Instr := .iconst 0 :: .istore 2 :: .iconst 12 :: .istore 3 :: .goto_w 21 :: []
def sg_105_28_1 : List Instr := .iload 2 :: .iload 3 :: .ifCond .le 73 :: .iconst 1 :: .goto 74 :: []
def bs_105 : Tb := [
  (0, none, .iload 1 :: .invokestatic 18448 :: .ifCond .ne 9 :: .iconst (-1) :: .ireturn :: []),
  (9, none, .aload 0 :: .getfield 2055 :: .invokevirtual 2179 :: sg_105_9_1),
  (21, some [0, 1, 2, 3], .iload 3 :: .ifCond .lt 88 :: .iconst 0 :: .istore 4 :: .goto_w 28 :: []),
  (28, some [0, 1, 2, 3, 4], .iload 4 :: .aload 0 :: .getfield 2059 :: .getfield 1280 :: .if_icmp .ge 82 :: .aload 0 :: .getfield 2059 :: .iload 4 :: .iload 1 :: .invokevirtual 6181 :: .iload 3 :: .if_icmp .ne 76 :: .aload 0 :: .getfield 2055 :: .iload 4 :: .i2l :: .invokevirtual 2323 :: sg_105_28_1),
  (73, none, .iconst 0 :: .iadd :: .istore 2 :: .iinc 4 1 :: .goto 28 :: []),
  (74, none, .iadd :: .istore 2 :: .iinc 4 1 :: .goto 28 :: []),
  (76, none, .iinc 4 1 :: .goto 28 :: []),
  (82, none, .iinc 3 (-1) :: .goto 21 :: []),
  (88, none, .iload 2 :: .ireturn :: [])]
theorem ts_105 : bs_105.all (fun q => chk 105 q.1 q.2.2) = true := by decide +kernel
/-- C.rivals -/
def sg_106_23_1 : List Instr := .istore 6 :: .iload 6 :: .iload 1 :: .if_icmp .ne 67 :: .iload 2 :: .iconst 1 :: .iload 5 :: .ishl :: .ior :: .istore 2 :: .goto 100 :: []
def sg_106_106_3 : List Instr := .iload 2 :: .ireturn :: []
def sg_106_106_2 : List Instr := .aload 0 :: .getfield 2055 :: .iload 4 :: .i2l :: .invokevirtual 2323 :: sg_106_106_3
def sg_106_106_1 : List Instr := .aload 0 :: .getfield 2055 :: .iload 3 :: .i2l :: .invokevirtual 2323 :: sg_106_106_2
def bs_106 : Tb := [
  (0, none, .aload 0 :: .getfield 2059 :: .iload 1 :: .invokevirtual 5269 :: .ifCond .ne 13 :: .iconst (-1) :: .ireturn :: []),
  (13, none, .iconst 0 :: .istore 2 :: .iconst 0 :: .istore 3 :: .iconst 0 :: .istore 4 :: .iconst 0 :: .istore 5 :: .goto_w 23 :: []),
  (23, some [0, 1, 2, 3, 4, 5], .iload 5 :: .aload 0 :: .getfield 2059 :: .getfield 1280 :: .if_icmp .ge 106 :: .aload 0 :: .getfield 2059 :: .aload 0 :: .getfield 2098 :: .iload 1 :: .iload 5 :: .invokevirtual 7989 :: sg_106_23_1),
  (67, none, .iload 6 :: .iload 5 :: .if_icmp .ne 84 :: .iload 3 :: .iconst 1 :: .iload 5 :: .ishl :: .ior :: .istore 3 :: .goto 100 :: []),
  (84, none, .iload 6 :: .iconst (-3) :: .if_icmp .ne 100 :: .iload 4 :: .iconst 1 :: .iload 5 :: .ishl :: .ior :: .istore 4 :: .iinc 5 1 :: .goto 23 :: []),
  (100, none, .iinc 5 1 :: .goto 23 :: []),
  (106, none, .aload 0 :: .getfield 2055 :: .invokevirtual 2179 :: sg_106_106_1)]
theorem ts_106 : bs_106.all (fun q => chk 106 q.1 q.2.2) = true := by decide +kernel
/-- C.duel -/
def sg_107_25_1 : List Instr := .iconst 0 :: .istore 4 :: .iconst 0 :: .istore 5 :: .iconst 0 :: .istore 6 :: .goto_w 45 :: []
def sg_107_45_1 : List Instr := .istore 7 :: .iload 7 :: .ifCond .ge 78 :: .goto 111 :: []
def sg_107_93_1 : List Instr := .iinc 6 1 :: .goto 45 :: []
def sg_107_94_1 : List Instr := .iinc 6 1 :: .goto 45 :: []
def sg_107_111_4 : List Instr := .iload 4 :: .ireturn :: []
def sg_107_111_3 : List Instr := .aload 0 :: .getfield 2055 :: .aload 0 :: .getfield 2067 :: .iload 2 :: .invokevirtual 5781 :: .i2l :: .invokevirtual 2323 :: sg_107_111_4
def sg_107_111_2 : List Instr := .aload 0 :: .getfield 2055 :: .aload 0 :: .getfield 2067 :: .iload 1 :: .invokevirtual 5781 :: .i2l :: .invokevirtual 2323 :: sg_107_111_3
def sg_107_111_1 : List Instr := .aload 0 :: .getfield 2055 :: .iload 5 :: .i2l :: .invokevirtual 2323 :: sg_107_111_2
def bs_107 : Tb := [
  (0, none, .aload 0 :: .getfield 2059 :: .iload 1 :: .iload 2 :: .invokevirtual 5413 :: .ifCond .eq 23 :: .iload 3 :: .iconst 1 :: .if_icmp .lt 23 :: .iload 3 :: .iconst 20 :: .if_icmp .le 25 :: .iconst (-1) :: .ireturn :: []),
  (23, none, .iconst (-1) :: .ireturn :: []),
  (25, none, .aload 0 :: .getfield 2067 :: .aload 0 :: .getfield 2059 :: .invokevirtual 5141 :: sg_107_25_1),
  (45, some [0, 1, 2, 3, 4, 5, 6], .iload 6 :: .iload 3 :: .if_icmp .ge 111 :: .aload 0 :: .getfield 2067 :: .aload 0 :: .getfield 2098 :: .aload 0 :: .getfield 2104 :: .iload 1 :: .iload 2 :: .invokevirtual 8133 :: sg_107_45_1),
  (78, none, .iinc 4 1 :: .iload 5 :: .iload 7 :: .iload 1 :: .if_icmp .ne 93 :: .iconst 1 :: .goto 94 :: []),
  (93, none, .iconst 0 :: .iadd :: .istore 5 :: .aload 0 :: .getfield 2067 :: .iconst 1 :: .invokevirtual 8341 :: sg_107_93_1),
  (94, none, .iadd :: .istore 5 :: .aload 0 :: .getfield 2067 :: .iconst 1 :: .invokevirtual 8341 :: sg_107_94_1),
  (111, none, .aload 0 :: .getfield 2055 :: .invokevirtual 2179 :: sg_107_111_1)]
theorem ts_107 : bs_107.all (fun q => chk 107 q.1 q.2.2) = true := by decide +kernel
end
section
/-! code lists in pieces, cut behind calls that change memory -/
/-- C.tempts -/
def sg_108_19_3 : List Instr := .iload 2 :: .ireturn :: []
def sg_108_19_2 : List Instr := .aload 0 :: .getfield 2055 :: .iload 3 :: .i2l :: .invokevirtual 2323 :: sg_108_19_3
def sg_108_19_1 : List Instr := .ifCond .eq 58 :: .aload 0 :: .getfield 2055 :: .invokevirtual 2179 :: sg_108_19_2
def bs_108 : Tb := [
  (0, none, .iload 1 :: .invokestatic 18448 :: .ifCond .ne 9 :: .iconst (-1) :: .ireturn :: []),
  (9, none, .iconst 1 :: .istore 2 :: .goto_w 11 :: []),
  (11, some [0, 1, 2], .iload 2 :: .iconst 12 :: .if_icmp .gt 70 :: .iconst 0 :: .istore 3 :: .goto_w 19 :: []),
  (19, some [0, 1, 2, 3], .iload 3 :: .aload 0 :: .getfield 2059 :: .getfield 1280 :: .if_icmp .ge 64 :: .aload 0 :: .iload 3 :: .iload 1 :: .iload 2 :: .invokevirtual 18872 :: sg_108_19_1),
  (58, none, .iinc 3 1 :: .goto 19 :: []),
  (64, none, .iinc 2 1 :: .goto 11 :: []),
  (70, none, .iconst (-2) :: .ireturn :: [])]
theorem ts_108 : bs_108.all (fun q => chk 108 q.1 q.2.2) = true := by decide +kernel
/-- C.wins -/
def sg_109_0_5 : List Instr := .iload 3 :: .ireturn :: []
def sg_109_0_4 : List Instr := .aload 0 :: .getfield 2055 :: .aload 0 :: .getfield 2067 :: .iload 2 :: .invokevirtual 5781 :: .i2l :: .invokevirtual 2323 :: sg_109_0_5
def sg_109_0_3 : List Instr := .aload 0 :: .getfield 2055 :: .aload 0 :: .getfield 2067 :: .iload 1 :: .invokevirtual 5781 :: .i2l :: .invokevirtual 2323 :: sg_109_0_4
def sg_109_0_2 : List Instr := .istore 3 :: .iload 3 :: .ifCond .lt 72 :: .aload 0 :: .getfield 2055 :: .invokevirtual 2179 :: sg_109_0_3
def sg_109_0_1 : List Instr := .aload 0 :: .getfield 2067 :: .aload 0 :: .getfield 2098 :: .aload 0 :: .getfield 2104 :: .iload 1 :: .iload 2 :: .invokevirtual 8133 :: sg_109_0_2
def bs_109 : Tb := [
  (0, none, .aload 0 :: .getfield 2067 :: .aload 0 :: .getfield 2059 :: .invokevirtual 5141 :: sg_109_0_1),
  (72, none, .iload 3 :: .ireturn :: [])]
theorem ts_109 : bs_109.all (fun q => chk 109 q.1 q.2.2) = true := by decide +kernel
/-- C.suits -/
def sg_110_29_2 : List Instr := .ifCond .lt 101 :: .aload 0 :: .getfield 2067 :: .iload 1 :: .iload 2 :: .invokevirtual 6181 :: .iload 4 :: .if_icmp .le 101 :: .iload 5 :: .istore 3 :: .aload 0 :: .getfield 2067 :: .iload 1 :: .iload 2 :: .invokevirtual 6181 :: .istore 4 :: .iinc 5 1 :: .goto 29 :: []
def sg_110_29_1 : List Instr := .aload 0 :: .getfield 2067 :: .aload 0 :: .getfield 2098 :: .aload 0 :: .getfield 2104 :: .iload 1 :: .iload 5 :: .invokevirtual 8133 :: sg_110_29_2
def sg_110_107_2 : List Instr := .iload 3 :: .ireturn :: []
def sg_110_107_1 : List Instr := .aload 0 :: .getfield 2055 :: .iload 4 :: .i2l :: .invokevirtual 2323 :: sg_110_107_2
def bs_110 : Tb := [
  (0, none, .aload 0 :: .getfield 2059 :: .iload 1 :: .invokevirtual 5269 :: .ifCond .eq 18 :: .iload 2 :: .invokestatic 18448 :: .ifCond .ne 20 :: .iconst (-1) :: .ireturn :: []),
  (18, none, .iconst (-1) :: .ireturn :: []),
  (20, none, .iconst (-2) :: .istore 3 :: .iconst (-1) :: .istore 4 :: .iconst 0 :: .istore 5 :: .goto_w 29 :: []),
  (29, some [0, 1, 2, 3, 4, 5], .iload 5 :: .aload 0 :: .getfield 2059 :: .getfield 1280 :: .if_icmp .ge 107 :: .aload 0 :: .getfield 2067 :: .aload 0 :: .getfield 2059 :: .invokevirtual 5141 :: sg_110_29_1),
  (101, none, .iinc 5 1 :: .goto 29 :: []),
  (107, none, .iload 3 :: .ifCond .lt 128 :: .aload 0 :: .getfield 2055 :: .invokevirtual 2179 :: sg_110_107_1),
  (128, none, .iload 3 :: .ireturn :: [])]
theorem ts_110 : bs_110.all (fun q => chk 110 q.1 q.2.2) = true := by decide +kernel
/-- C.goesOver -/
def sg_111_20_3 : List Instr := .ireturn :: []
def sg_111_20_2 : List Instr := .invokevirtual 18968 :: sg_111_20_3
def sg_111_20_1 : List Instr := .aload 0 :: .aload 0 :: .getfield 2083 :: .aload 0 :: .getfield 2059 :: .invokevirtual 9366 :: sg_111_20_2
def bs_111 : Tb := [
  (0, none, .aload 0 :: .getfield 2059 :: .iload 1 :: .invokevirtual 5269 :: .ifCond .eq 18 :: .iload 2 :: .invokestatic 18448 :: .ifCond .ne 20 :: .iconst (-1) :: .ireturn :: []),
  (18, none, .iconst (-1) :: .ireturn :: []),
  (20, none, .aload 0 :: .getfield 2083 :: .aload 0 :: .getfield 2098 :: .aload 0 :: .getfield 2104 :: .iload 1 :: .iload 2 :: .invokevirtual 9030 :: sg_111_20_1)]
theorem ts_111 : bs_111.all (fun q => chk 111 q.1 q.2.2) = true := by decide +kernel
/-- C.peace -/
def sg_112_0_3 : List Instr := .ireturn :: []
def sg_112_0_2 : List Instr := .invokevirtual 18968 :: sg_112_0_3
def sg_112_0_1 : List Instr := .aload 0 :: .aload 0 :: .getfield 2083 :: .aload 0 :: .getfield 2059 :: .invokevirtual 9366 :: sg_112_0_2
def bs_112 : Tb := [
  (0, none, .aload 0 :: .getfield 2083 :: .aload 0 :: .getfield 2098 :: .aload 0 :: .getfield 2104 :: .iconst (-1) :: .iconst (-1) :: .invokevirtual 9030 :: sg_112_0_1)]
theorem ts_112 : bs_112.all (fun q => chk 112 q.1 q.2.2) = true := by decide +kernel
/-- C.campaign -/
def sg_113_12_1 : List Instr := .iconst 0 :: .istore 2 :: .goto_w 25 :: []
def sg_113_25_2 : List Instr := .iinc 2 1 :: .goto 25 :: []
def sg_113_25_1 : List Instr := .aload 0 :: .getfield 2067 :: .iconst 1 :: .invokevirtual 8341 :: sg_113_25_2
def sg_113_48_1 : List Instr := .iconst 0 :: .istore 2 :: .goto_w 57 :: []
def sg_113_57_1 : List Instr := .iinc 2 1 :: .goto 57 :: []
def bs_113 : Tb := [
  (0, none, .iload 1 :: .ifCond .lt 10 :: .iload 1 :: .iconst 40 :: .if_icmp .le 12 :: .iconst (-1) :: .ireturn :: []),
  (10, none, .iconst (-1) :: .ireturn :: []),
  (12, none, .aload 0 :: .getfield 2067 :: .aload 0 :: .getfield 2059 :: .invokevirtual 5141 :: sg_113_12_1),
  (25, some [0, 1, 2], .iload 2 :: .iload 1 :: .if_icmp .ge 48 :: .aload 0 :: .invokevirtual 19080 :: sg_113_25_1),
  (48, none, .aload 0 :: .getfield 2055 :: .invokevirtual 2179 :: sg_113_48_1),
  (57, some [0, 2], .iload 2 :: .aload 0 :: .getfield 2067 :: .getfield 1280 :: .if_icmp .ge 90 :: .aload 0 :: .getfield 2055 :: .aload 0 :: .getfield 2067 :: .iload 2 :: .invokevirtual 5781 :: .i2l :: .invokevirtual 2323 :: sg_113_57_1),
  (90, none, .aload 0 :: .getfield 2067 :: .getfield 1288 :: .aload 0 :: .getfield 2059 :: .getfield 1288 :: .isub :: .ireturn :: [])]
theorem ts_113 : bs_113.all (fun q => chk 113 q.1 q.2.2) = true := by decide +kernel
/-- C.halves -/
def sg_114_49_2 : List Instr := .iinc 3 1 :: .goto 14 :: []
def sg_114_49_1 : List Instr := .aload 0 :: .getfield 2055 :: .iload 3 :: .i2l :: .invokevirtual 2323 :: sg_114_49_2
def sg_114_50_2 : List Instr := .iinc 3 1 :: .goto 14 :: []
def sg_114_50_1 : List Instr := .aload 0 :: .getfield 2055 :: .iload 3 :: .i2l :: .invokevirtual 2323 :: sg_114_50_2
def bs_114 : Tb := [
  (0, none, .iload 1 :: .invokestatic 18448 :: .ifCond .ne 9 :: .iconst (-1) :: .ireturn :: []),
  (9, none, .iconst (-2) :: .istore 2 :: .iconst 1 :: .istore 3 :: .goto_w 14 :: []),
  (14, some [0, 1, 2, 3], .iload 3 :: .iconst 1 :: .aload 0 :: .getfield 2059 :: .getfield 1280 :: .ishl :: .if_icmp .ge 101 :: .iload 3 :: .invokestatic 36496 :: .istore 4 :: .iload 2 :: .iconst (-2) :: .if_icmp .eq 45 :: .iload 4 :: .iload 2 :: .if_icmp .ge 49 :: .iconst 1 :: .goto 50 :: []),
  (45, none, .iconst 1 :: .goto 50 :: []),
  (49, none, .iconst 0 :: .istore 5 :: .iload 5 :: .ifCond .eq 95 :: .iconst 2 :: .aload 0 :: .getfield 2059 :: .iload 3 :: .iload 1 :: .invokevirtual 6821 :: .imul :: .iconst 12 :: .iload 4 :: .imul :: .if_icmp .ne 95 :: .iload 4 :: .istore 2 :: .aload 0 :: .getfield 2055 :: .invokevirtual 2179 :: sg_114_49_1),
  (50, none, .istore 5 :: .iload 5 :: .ifCond .eq 95 :: .iconst 2 :: .aload 0 :: .getfield 2059 :: .iload 3 :: .iload 1 :: .invokevirtual 6821 :: .imul :: .iconst 12 :: .iload 4 :: .imul :: .if_icmp .ne 95 :: .iload 4 :: .istore 2 :: .aload 0 :: .getfield 2055 :: .invokevirtual 2179 :: sg_114_50_1),
  (95, none, .iinc 3 1 :: .goto 14 :: []),
  (101, none, .iload 2 :: .ireturn :: [])]
theorem ts_114 : bs_114.all (fun q => chk 114 q.1 q.2.2) = true := by decide +kernel
/-- C.evens -/
def sg_115_65_2 : List Instr := .iload 3 :: .ireturn :: []
def sg_115_65_1 : List Instr := .aload 0 :: .getfield 2055 :: .iload 2 :: .i2l :: .invokevirtual 2323 :: sg_115_65_2
def bs_115 : Tb := [
  (0, none, .aload 0 :: .getfield 2059 :: .invokevirtual 6405 :: .istore 1 :: .iconst 0 :: .istore 2 :: .iload 1 :: .istore 3 :: .iconst 0 :: .istore 4 :: .goto_w 15 :: []),
  (15, some [0, 1, 2, 3, 4], .iload 4 :: .iconst 1 :: .aload 0 :: .getfield 2059 :: .getfield 1280 :: .ishl :: .if_icmp .ge 65 :: .iload 1 :: .iconst 2 :: .aload 0 :: .getfield 2059 :: .iload 4 :: .invokevirtual 6549 :: .imul :: .isub :: .invokestatic 36752 :: .istore 5 :: .iload 5 :: .iload 3 :: .if_icmp .ge 59 :: .iload 5 :: .istore 3 :: .iload 4 :: .istore 2 :: .iinc 4 2 :: .goto 15 :: []),
  (59, none, .iinc 4 2 :: .goto 15 :: []),
  (65, none, .aload 0 :: .getfield 2055 :: .invokevirtual 2179 :: sg_115_65_1)]
theorem ts_115 : bs_115.all (fun q => chk 115 q.1 q.2.2) = true := by decide +kernel
/-- C.worth -/
def sg_116_125_2 : List Instr := .iconst 0 :: .ireturn :: []
def sg_116_125_1 : List Instr := .aload 0 :: .getfield 2055 :: .iload 3 :: .i2l :: .aload 0 :: .getfield 2059 :: .getfield 1280 :: .invokestatic 20880 :: .i2l :: .invokevirtual 2467 :: sg_116_125_2
def bs_116 : Tb := [
  (0, none, .aload 0 :: .getfield 2059 :: .iload 1 :: .invokevirtual 5269 :: .ifCond .ne 13 :: .iconst (-1) :: .ireturn :: []),
  (13, none, .aload 0 :: .getfield 2059 :: .invokevirtual 6405 :: .istore 2 :: .iconst 0 :: .istore 3 :: .iconst 0 :: .istore 4 :: .goto_w 26 :: []),
  (26, some [0, 1, 2, 3, 4], .iload 4 :: .iconst 1 :: .aload 0 :: .getfield 2059 :: .getfield 1280 :: .ishl :: .if_icmp .ge 125 :: .iload 4 :: .iconst 1 :: .iload 1 :: .ishl :: .iand :: .ifCond .eq 52 :: .goto 119 :: []),
  (52, none, .aload 0 :: .getfield 2059 :: .iload 4 :: .invokevirtual 6549 :: .istore 5 :: .iconst 2 :: .iload 5 :: .imul :: .iload 2 :: .if_icmp .gt 119 :: .iconst 2 :: .iload 5 :: .aload 0 :: .getfield 2059 :: .iload 1 :: .invokevirtual 5653 :: .iadd :: .imul :: .iload 2 :: .if_icmp .le 119 :: .iload 4 :: .invokestatic 36496 :: .istore 6 :: .iload 3 :: .iload 6 :: .invokestatic 20880 :: .aload 0 :: .getfield 2059 :: .getfield 1280 :: .iconst 1 :: .isub :: .iload 6 :: .isub :: .invokestatic 20880 :: .imul :: .iadd :: .istore 3 :: .iinc 4 1 :: .goto 26 :: []),
  (119, none, .iinc 4 1 :: .goto 26 :: []),
  (125, none, .aload 0 :: .getfield 2055 :: .invokevirtual 2179 :: sg_116_125_1)]
theorem ts_116 : bs_116.all (fun q => chk 116 q.1 q.2.2) = true := by decide +kernel
/-- C.patched -/
def sg_117_83_3 : List Instr := .iload 3 :: .ireturn :: []
def sg_117_83_2 : List Instr := .aload 0 :: .getfield 2055 :: .iload 4 :: .i2l :: .invokevirtual 2323 :: sg_117_83_3
def sg_117_83_1 : List Instr := .aload 0 :: .getfield 2055 :: .iload 3 :: .invokestatic 36496 :: .i2l :: .invokevirtual 2323 :: sg_117_83_2
def bs_117 : Tb := [
  (0, none, .iload 1 :: .invokestatic 18448 :: .ifCond .eq 17 :: .iload 2 :: .ifCond .lt 17 :: .iload 2 :: .iconst 12 :: .if_icmp .le 19 :: .iconst (-1) :: .ireturn :: []),
  (17, none, .iconst (-1) :: .ireturn :: []),
  (19, none, .iconst 0 :: .istore 3 :: .iconst 0 :: .istore 4 :: .iconst 0 :: .istore 5 :: .goto_w 27 :: []),
  (27, some [0, 1, 2, 3, 4, 5], .iload 5 :: .aload 0 :: .getfield 2059 :: .getfield 1280 :: .if_icmp .ge 83 :: .aload 0 :: .getfield 2059 :: .iload 5 :: .iload 1 :: .invokevirtual 6181 :: .istore 6 :: .iload 3 :: .iload 6 :: .iload 2 :: .if_icmp .lt 65 :: .iconst 1 :: .iload 5 :: .ishl :: .goto 66 :: []),
  (65, none, .iconst 0 :: .ior :: .istore 3 :: .iload 4 :: .iload 6 :: .invokestatic 36896 :: .istore 4 :: .iinc 5 1 :: .goto 27 :: []),
  (66, none, .ior :: .istore 3 :: .iload 4 :: .iload 6 :: .invokestatic 36896 :: .istore 4 :: .iinc 5 1 :: .goto 27 :: []),
  (83, none, .aload 0 :: .getfield 2055 :: .invokevirtual 2179 :: sg_117_83_1)]
theorem ts_117 : bs_117.all (fun q => chk 117 q.1 q.2.2) = true := by decide +kernel
/-- C.seen -/
def sg_118_14_1 : List Instr := .ifCond .eq 37 :: .aload 0 :: .getfield 2087 :: .getfield 268 :: .goto 38 :: []
def bs_118 : Tb := [
  (0, none, .iload 2 :: .ifCond .lt 12 :: .iload 2 :: .iload 1 :: .invokestatic 19984 :: .if_icmp .le 14 :: .iconst (-1) :: .ireturn :: []),
  (12, none, .iconst (-1) :: .ireturn :: []),
  (14, none, .aload 0 :: .getfield 2087 :: .iload 1 :: .iload 2 :: .iconst 0 :: .invokevirtual 817 :: sg_118_14_1),
  (37, none, .iconst (-1) :: .ireturn :: []),
  (38, none, .ireturn :: [])]
theorem ts_118 : bs_118.all (fun q => chk 118 q.1 q.2.2) = true := by decide +kernel
/-- C.forget -/
def sg_119_0_1 : List Instr := .ireturn :: []
def bs_119 : Tb := [
  (0, none, .aload 0 :: .getfield 2087 :: .invokevirtual 897 :: sg_119_0_1)]
theorem ts_119 : bs_119.all (fun q => chk 119 q.1 q.2.2) = true := by decide +kernel
/-- C.fits -/
def sg_120_0_2 : List Instr := .iload 1 :: .ireturn :: []
def sg_120_0_1 : List Instr := .aload 0 :: .getfield 2055 :: .iload 1 :: .invokestatic 36496 :: .i2l :: .invokevirtual 2323 :: sg_120_0_2
def bs_120 : Tb := [
  (0, none, .aload 0 :: .invokevirtual 20104 :: .istore 1 :: .aload 0 :: .getfield 2055 :: .invokevirtual 2179 :: sg_120_0_1)]
theorem ts_120 : bs_120.all (fun q => chk 120 q.1 q.2.2) = true := by decide +kernel
/-- C.looks -/
def sg_121_76_2 : List Instr := .iload 3 :: .ireturn :: []
def sg_121_76_1 : List Instr := .aload 0 :: .getfield 2055 :: .iload 4 :: .i2l :: .invokevirtual 2323 :: sg_121_76_2
def bs_121 : Tb := [
  (0, none, .aload 0 :: .invokevirtual 20104 :: .istore 1 :: .iload 1 :: .ifCond .ne 12 :: .iconst (-2) :: .ireturn :: []),
  (12, none, .iload 1 :: .invokestatic 36496 :: .istore 2 :: .iconst 0 :: .istore 3 :: .iconst 7 :: .istore 4 :: .iconst 0 :: .istore 5 :: .goto_w 26 :: []),
  (26, some [0, 1, 2, 3, 4, 5], .iload 5 :: .iconst 4 :: .if_icmp .ge 76 :: .iload 1 :: .aload 0 :: .iload 5 :: .invokevirtual 19864 :: .iand :: .invokestatic 36496 :: .istore 6 :: .iload 6 :: .iload 2 :: .iload 6 :: .isub :: .invokestatic 36896 :: .istore 7 :: .iload 7 :: .iload 4 :: .if_icmp .ge 70 :: .iload 7 :: .istore 4 :: .iload 5 :: .istore 3 :: .iinc 5 1 :: .goto 26 :: []),
  (70, none, .iinc 5 1 :: .goto 26 :: []),
  (76, none, .aload 0 :: .getfield 2055 :: .invokevirtual 2179 :: sg_121_76_1)]
theorem ts_121 : bs_121.all (fun q => chk 121 q.1 q.2.2) = true := by decide +kernel
/-- C.told -/
def sg_122_33_1 : List Instr := .ifCond .eq 56 :: .aload 0 :: .getfield 2091 :: .getfield 268 :: .goto 57 :: []
def bs_122 : Tb := [
  (0, none, .iload 1 :: .ifCond .lt 31 :: .iload 1 :: .iconst 12 :: .if_icmp .gt 31 :: .iload 2 :: .ifCond .lt 31 :: .iload 2 :: .iconst 12 :: .iload 1 :: .isub :: .if_icmp .gt 31 :: .iload 3 :: .ifCond .lt 31 :: .iload 3 :: .iconst 1 :: .if_icmp .le 33 :: .iconst (-1) :: .ireturn :: []),
  (31, none, .iconst (-1) :: .ireturn :: []),
  (33, none, .aload 0 :: .getfield 2091 :: .iload 1 :: .iload 2 :: .iload 3 :: .invokevirtual 817 :: sg_122_33_1),
  (56, none, .iconst (-1) :: .ireturn :: []),
  (57, none, .ireturn :: [])]
theorem ts_122 : bs_122.all (fun q => chk 122 q.1 q.2.2) = true := by decide +kernel
/-- C.deny -/
def sg_123_0_1 : List Instr := .ireturn :: []
def bs_123 : Tb := [
  (0, none, .aload 0 :: .getfield 2091 :: .invokevirtual 897 :: sg_123_0_1)]
theorem ts_123 : bs_123.all (fun q => chk 123 q.1 q.2.2) = true := by decide +kernel
/-- C.laws -/
def sg_124_0_4 : List Instr := .iload 1 :: .ireturn :: []
def sg_124_0_3 : List Instr := .aload 0 :: .getfield 2055 :: .aload 0 :: .getfield 2095 :: .getfield 4 :: .iconst 13 :: .irem :: .i2l :: .invokevirtual 2323 :: sg_124_0_4
def sg_124_0_2 : List Instr := .iload 1 :: .ifCond .le 59 :: .aload 0 :: .getfield 2055 :: .aload 0 :: .getfield 2095 :: .getfield 4 :: .iconst 13 :: .idiv :: .i2l :: .invokevirtual 2323 :: sg_124_0_3
def sg_124_0_1 : List Instr := .istore 1 :: .aload 0 :: .getfield 2055 :: .invokevirtual 2179 :: sg_124_0_2
def bs_124 : Tb := [
  (0, none, .aload 0 :: .getfield 2095 :: .aload 0 :: .getfield 2091 :: .invokevirtual 144 :: sg_124_0_1),
  (59, none, .iload 1 :: .ireturn :: [])]
theorem ts_124 : bs_124.all (fun q => chk 124 q.1 q.2.2) = true := by decide +kernel
/-- C.asks -/
def sg_125_0_1 : List Instr := .istore 1 :: .iload 1 :: .ifCond .ne 19 :: .iconst (-2) :: .ireturn :: []
def sg_125_102_2 : List Instr := .iload 2 :: .ireturn :: []
def sg_125_102_1 : List Instr := .aload 0 :: .getfield 2055 :: .iload 3 :: .i2l :: .invokevirtual 2323 :: sg_125_102_2
def bs_125 : Tb := [
  (0, none, .aload 0 :: .getfield 2095 :: .aload 0 :: .getfield 2091 :: .invokevirtual 144 :: sg_125_0_1),
  (19, none, .iconst 0 :: .istore 2 :: .iload 1 :: .iconst 1 :: .iadd :: .istore 3 :: .iconst 0 :: .istore 4 :: .goto_w 28 :: []),
  (28, some [0, 1, 2, 3, 4], .iload 4 :: .iconst 12 :: .if_icmp .gt 102 :: .iconst 0 :: .istore 5 :: .goto_w 38 :: []),
  (38, some [0, 1, 2, 3, 4, 5], .iload 5 :: .iconst 12 :: .iload 4 :: .isub :: .if_icmp .gt 96 :: .aload 0 :: .getfield 2095 :: .iload 4 :: .iload 5 :: .invokevirtual 416 :: .istore 6 :: .iload 6 :: .iload 1 :: .iload 6 :: .isub :: .invokestatic 36896 :: .istore 7 :: .iload 7 :: .iload 3 :: .if_icmp .ge 90 :: .iload 7 :: .istore 3 :: .iconst 13 :: .iload 4 :: .imul :: .iload 5 :: .iadd :: .istore 2 :: .iinc 5 1 :: .goto 38 :: []),
  (90, none, .iinc 5 1 :: .goto 38 :: []),
  (96, none, .iinc 4 1 :: .goto 28 :: []),
  (102, none, .aload 0 :: .getfield 2055 :: .invokevirtual 2179 :: sg_125_102_1)]
theorem ts_125 : bs_125.all (fun q => chk 125 q.1 q.2.2) = true := by decide +kernel
/-- C.treaty -/
def sg_126_22_1 : List Instr := .iload 1 :: .iload 2 :: .invokestatic 20512 :: .ifCond .eq 39 :: .iconst 0 :: .ireturn :: []
def sg_126_74_2 : List Instr := .iconst 1 :: .ireturn :: []
def sg_126_74_1 : List Instr := .aload 0 :: .getfield 2055 :: .iload 4 :: .i2l :: .invokevirtual 2323 :: sg_126_74_2
def sg_126_75_2 : List Instr := .iconst 1 :: .ireturn :: []
def sg_126_75_1 : List Instr := .aload 0 :: .getfield 2055 :: .iload 4 :: .i2l :: .invokevirtual 2323 :: sg_126_75_2
def bs_126 : Tb := [
  (0, none, .iload 1 :: .ifCond .lt 20 :: .iload 1 :: .iconst 30 :: .if_icmp .gt 20 :: .iload 2 :: .ifCond .lt 20 :: .iload 2 :: .iconst 30 :: .if_icmp .le 22 :: .iconst (-1) :: .ireturn :: []),
  (20, none, .iconst (-1) :: .ireturn :: []),
  (22, none, .aload 0 :: .getfield 2055 :: .invokevirtual 2179 :: sg_126_22_1),
  (39, none, .iconst 0 :: .istore 3 :: .goto_w 41 :: []),
  (41, some [0, 1, 2, 3], .iload 3 :: .iload 1 :: .if_icmp .gt 128 :: .iconst 0 :: .istore 4 :: .goto_w 49 :: []),
  (49, some [0, 1, 2, 3, 4], .iload 4 :: .iload 2 :: .if_icmp .gt 122 :: .iload 3 :: .ifCond .eq 70 :: .iload 4 :: .ifCond .eq 70 :: .iload 3 :: .iload 4 :: .if_icmp .ne 74 :: .iconst 1 :: .goto 75 :: []),
  (70, none, .iconst 1 :: .goto 75 :: []),
  (74, none, .iconst 0 :: .istore 5 :: .iload 5 :: .ifCond .eq 116 :: .iload 1 :: .iload 3 :: .isub :: .iload 2 :: .iload 4 :: .isub :: .invokestatic 20512 :: .ifCond .eq 116 :: .aload 0 :: .getfield 2055 :: .iload 3 :: .i2l :: .invokevirtual 2323 :: sg_126_74_1),
  (75, none, .istore 5 :: .iload 5 :: .ifCond .eq 116 :: .iload 1 :: .iload 3 :: .isub :: .iload 2 :: .iload 4 :: .isub :: .invokestatic 20512 :: .ifCond .eq 116 :: .aload 0 :: .getfield 2055 :: .iload 3 :: .i2l :: .invokevirtual 2323 :: sg_126_75_1),
  (116, none, .iinc 4 1 :: .goto 49 :: []),
  (122, none, .iinc 3 1 :: .goto 41 :: []),
  (128, none, .iconst 0 :: .ireturn :: [])]
theorem ts_126 : bs_126.all (fun q => chk 126 q.1 q.2.2) = true := by decide +kernel
/-- C.series -/
def sg_127_111_2 : List Instr := .iconst 0 :: .ireturn :: []
def sg_127_111_1 : List Instr := .aload 0 :: .getfield 2055 :: .lload 6 :: .iconst 10 :: .iload 1 :: .iload 2 :: .iadd :: .iconst 1 :: .isub :: .invokestatic 21024 :: .invokevirtual 2467 :: sg_127_111_2
def bs_127 : Tb := [
  (0, none, .iload 1 :: .iconst 1 :: .if_icmp .lt 32 :: .iload 1 :: .iconst 8 :: .if_icmp .gt 32 :: .iload 2 :: .iconst 1 :: .if_icmp .lt 32 :: .iload 2 :: .iconst 8 :: .if_icmp .gt 32 :: .iload 3 :: .ifCond .lt 32 :: .iload 3 :: .iconst 10 :: .if_icmp .le 34 :: .iconst (-1) :: .ireturn :: []),
  (32, none, .iconst (-1) :: .ireturn :: []),
  (34, none, .ldc2_w 1 :: .lstore 4 :: .ldc2_w 0 :: .lstore 6 :: .iconst 0 :: .istore 8 :: .goto_w 43 :: []),
  (43, some [0, 1, 2, 3, 4, 6, 8], .iload 8 :: .iload 2 :: .if_icmp .ge 111 :: .iload 8 :: .ifCond .le 70 :: .lload 4 :: .iload 1 :: .iconst 1 :: .isub :: .iload 8 :: .iadd :: .i2l :: .lmul :: .iload 8 :: .i2l :: .ldiv :: .lstore 4 :: .lload 6 :: .lload 4 :: .iload 3 :: .iload 1 :: .invokestatic 21024 :: .lmul :: .iconst 10 :: .iload 3 :: .isub :: .iload 8 :: .invokestatic 21024 :: .lmul :: .iconst 10 :: .iload 2 :: .iconst 1 :: .isub :: .iload 8 :: .isub :: .invokestatic 21024 :: .lmul :: .ladd :: .lstore 6 :: .iinc 8 1 :: .goto 43 :: []),
  (70, none, .lload 6 :: .lload 4 :: .iload 3 :: .iload 1 :: .invokestatic 21024 :: .lmul :: .iconst 10 :: .iload 3 :: .isub :: .iload 8 :: .invokestatic 21024 :: .lmul :: .iconst 10 :: .iload 2 :: .iconst 1 :: .isub :: .iload 8 :: .isub :: .invokestatic 21024 :: .lmul :: .ladd :: .lstore 6 :: .iinc 8 1 :: .goto 43 :: []),
  (111, none, .aload 0 :: .getfield 2055 :: .invokevirtual 2179 :: sg_127_111_1)]
theorem ts_127 : bs_127.all (fun q => chk 127 q.1 q.2.2) = true := by decide +kernel
/-- C.rests -/
def sg_128_12_1 : List Instr := .iconst 0 :: .istore 2 :: .iconst 0 :: .istore 3 :: .goto_w 23 :: []
def sg_128_62_2 : List Instr := .iinc 2 1 :: .iinc 4 1 :: .goto 32 :: []
def sg_128_62_1 : List Instr := .aload 0 :: .getfield 2055 :: .iload 4 :: .i2l :: .invokevirtual 2323 :: sg_128_62_2
def bs_128 : Tb := [
  (0, none, .iload 1 :: .ifCond .lt 10 :: .iload 1 :: .iconst 20 :: .if_icmp .le 12 :: .iconst (-1) :: .ireturn :: []),
  (10, none, .iconst (-1) :: .ireturn :: []),
  (12, none, .aload 0 :: .getfield 2055 :: .invokevirtual 2179 :: sg_128_12_1),
  (23, some [0, 1, 2, 3], .iload 3 :: .iconst 9 :: .if_icmp .gt 100 :: .iconst 0 :: .istore 4 :: .goto_w 32 :: []),
  (32, some [0, 1, 2, 3, 4], .iload 4 :: .iconst 9 :: .if_icmp .gt 94 :: .iload 1 :: .iload 3 :: .iload 4 :: .invokestatic 20656 :: .ifCond .eq 88 :: .iload 1 :: .iload 4 :: .iload 3 :: .invokestatic 20656 :: .ifCond .ne 62 :: .goto 88 :: []),
  (62, none, .iload 2 :: .ifCond .ne 85 :: .aload 0 :: .getfield 2055 :: .iload 3 :: .i2l :: .invokevirtual 2323 :: sg_128_62_1),
  (85, none, .iinc 2 1 :: .iinc 4 1 :: .goto 32 :: []),
  (88, none, .iinc 4 1 :: .goto 32 :: []),
  (94, none, .iinc 3 1 :: .goto 23 :: []),
  (100, none, .iload 2 :: .ireturn :: [])]
theorem ts_128 : bs_128.all (fun q => chk 128 q.1 q.2.2) = true := by decide +kernel
/-- C.law -/
def sg_129_0_1 : List Instr := .istore 1 :: .iload 1 :: .iconst (-1) :: .if_icmp .eq 16 :: .iconst (-10000) :: .iload 1 :: .isub :: .ireturn :: []
def sg_129_16_5 : List Instr := .iload 2 :: .iload 3 :: .isub :: .ireturn :: []
def sg_129_16_4 : List Instr := .aload 0 :: .getfield 2055 :: .iload 3 :: .i2l :: .invokevirtual 2323 :: sg_129_16_5
def sg_129_16_3 : List Instr := .aload 0 :: .getfield 2055 :: .iload 2 :: .i2l :: .invokevirtual 2323 :: sg_129_16_4
def sg_129_16_2 : List Instr := .istore 3 :: .aload 0 :: .getfield 2055 :: .invokevirtual 2179 :: sg_129_16_3
def sg_129_16_1 : List Instr := .istore 2 :: .aload 0 :: .aload 0 :: .getfield 2098 :: .invokevirtual 19224 :: sg_129_16_2
def bs_129 : Tb := [
  (0, none, .aload 0 :: .invokevirtual 17544 :: sg_129_0_1),
  (16, none, .aload 0 :: .aload 0 :: .getfield 2102 :: .invokevirtual 19224 :: sg_129_16_1)]
theorem ts_129 : bs_129.all (fun q => chk 129 q.1 q.2.2) = true := by decide +kernel
/-- C.years -/
def sg_130_13_1 : List Instr := .iconst 0 :: .istore 3 :: .goto_w 31 :: []
def sg_130_31_1 : List Instr := .iinc 3 1 :: .goto 31 :: []
def sg_130_46_3 : List Instr := .aload 0 :: .getfield 2067 :: .getfield 1288 :: .aload 0 :: .getfield 2059 :: .getfield 1288 :: .isub :: .ireturn :: []
def sg_130_46_2 : List Instr := .aload 0 :: .getfield 2055 :: .aload 0 :: .getfield 2067 :: .invokevirtual 6917 :: .i2l :: .invokevirtual 2323 :: sg_130_46_3
def sg_130_46_1 : List Instr := .aload 0 :: .getfield 2055 :: .aload 0 :: .getfield 2067 :: .invokevirtual 6405 :: .i2l :: .invokevirtual 2323 :: sg_130_46_2
def bs_130 : Tb := [
  (0, none, .iload 2 :: .iconst 1 :: .if_icmp .lt 11 :: .iload 2 :: .iconst 60 :: .if_icmp .le 13 :: .iconst (-1) :: .ireturn :: []),
  (11, none, .iconst (-1) :: .ireturn :: []),
  (13, none, .aload 0 :: .iload 1 :: .putfield 2112 :: .aload 0 :: .getfield 2067 :: .aload 0 :: .getfield 2059 :: .invokevirtual 5141 :: sg_130_13_1),
  (31, some [0, 2, 3], .iload 3 :: .iload 2 :: .if_icmp .ge 46 :: .aload 0 :: .invokevirtual 19336 :: sg_130_31_1),
  (46, none, .aload 0 :: .getfield 2055 :: .invokevirtual 2179 :: sg_130_46_1)]
theorem ts_130 : bs_130.all (fun q => chk 130 q.1 q.2.2) = true := by decide +kernel
/-- C.keep -/
def sg_131_11_1 : List Instr := .aload 0 :: .dup :: .getfield 2108 :: .iconst 1 :: .iload 1 :: .ishl :: .ior :: .putfield 2108 :: .iconst 1 :: .freturn :: []
def bs_131 : Tb := [
  (0, none, .iload 1 :: .ifCond .lt 9 :: .iload 1 :: .iconst 2 :: .if_icmp .lt 11 :: .iconst 0 :: .freturn :: []),
  (9, none, .iconst 0 :: .freturn :: []),
  (11, none, .aload 0 :: .iload 1 :: .invokevirtual 18712 :: .aload 0 :: .getfield 2059 :: .invokevirtual 5141 :: sg_131_11_1)]
theorem ts_131 : bs_131.all (fun q => chk 131 q.1 q.2.2) = true := by decide +kernel
/-- C.again -/
def sg_132_22_2 : List Instr := .iconst 1 :: .freturn :: []
def sg_132_22_1 : List Instr := .aload 0 :: .getfield 2071 :: .invokevirtual 1538 :: sg_132_22_2
def bs_132 : Tb := [
  (0, none, .iload 1 :: .ifCond .lt 20 :: .iload 1 :: .iconst 2 :: .if_icmp .ge 20 :: .aload 0 :: .getfield 2108 :: .iconst 1 :: .iload 1 :: .ishl :: .iand :: .ifCond .ne 22 :: .iconst 0 :: .freturn :: []),
  (20, none, .iconst 0 :: .freturn :: []),
  (22, none, .aload 0 :: .getfield 2059 :: .aload 0 :: .iload 1 :: .invokevirtual 18712 :: .invokevirtual 5141 :: sg_132_22_1)]
theorem ts_132 : bs_132.all (fun q => chk 132 q.1 q.2.2) = true := by decide +kernel
/-- C.readsOtherRule -/
def sg_137_0_2 : List Instr := .ireturn :: []
def sg_137_0_1 : List Instr := .istore 1 :: .iload 1 :: .ifCond .ne 27 :: .aload 0 :: .getfield 2102 :: .getstatic 2 :: .getstatic 2 :: .arraylength :: .invokevirtual 3108 :: sg_137_0_2
def sg_137_27_1 : List Instr := .ireturn :: []
def bs_137 : Tb := [
  (0, none, .aload 0 :: .getfield 2051 :: .invokevirtual 10631 :: sg_137_0_1),
  (27, none, .aload 0 :: .getfield 2102 :: .aload 0 :: .getfield 2051 :: .getfield 1795 :: .iload 1 :: .invokevirtual 3108 :: sg_137_27_1)]
theorem ts_137 : bs_137.all (fun q => chk 137 q.1 q.2.2) = true := by decide +kernel
/-- C.acts -/
def sg_141_56_1 : List Instr := .istore 3 :: .iload 3 :: .ifCond .ge 96 :: .iload 3 :: .iconst (-3) :: .if_icmp .ne 100 :: .iconst 1 :: .goto 101 :: []
def sg_141_102_1 : List Instr := .iconst 1 :: .freturn :: []
def sg_141_112_1 : List Instr := .ifCond .lt 153 :: .iconst 1 :: .goto 154 :: []
def sg_141_155_1 : List Instr := .ifCond .lt 183 :: .iconst 1 :: .goto 184 :: []
def bs_141 : Tb := [
  (0, none, .aload 0 :: .getfield 2051 :: .iload 1 :: .iconst 1 :: .iadd :: .invokevirtual 10519 :: .iconst 48 :: .isub :: .istore 2 :: .aload 0 :: .getfield 2051 :: .iload 1 :: .invokevirtual 10519 :: .lookupswitch 155 #[(102, 56), (110, 102), (115, 112)] :: []),
  (56, none, .aload 0 :: .getfield 2059 :: .aload 0 :: .getfield 2098 :: .aload 0 :: .getfield 2104 :: .iload 2 :: .aload 0 :: .getfield 2051 :: .iload 1 :: .iconst 2 :: .iadd :: .invokevirtual 10519 :: .iconst 48 :: .isub :: .invokevirtual 8133 :: sg_141_56_1),
  (96, none, .iconst 1 :: .goto 101 :: []),
  (100, none, .iconst 0 :: .freturn :: []),
  (101, none, .freturn :: []),
  (102, none, .aload 0 :: .getfield 2059 :: .iload 2 :: .invokevirtual 8341 :: sg_141_102_1),
  (112, none, .aload 0 :: .getfield 2059 :: .iload 2 :: .aload 0 :: .getfield 2051 :: .iload 1 :: .iconst 2 :: .iadd :: .invokevirtual 10519 :: .iconst 97 :: .isub :: .aload 0 :: .getfield 2051 :: .iload 1 :: .iconst 3 :: .iadd :: .invokevirtual 10519 :: .iconst 48 :: .isub :: .invokevirtual 8629 :: sg_141_112_1),
  (153, none, .iconst 0 :: .freturn :: []),
  (154, none, .freturn :: []),
  (155, none, .aload 0 :: .getfield 2059 :: .iload 2 :: .aload 0 :: .getfield 2051 :: .iload 1 :: .iconst 2 :: .iadd :: .invokevirtual 10519 :: .iconst 97 :: .isub :: .invokevirtual 8741 :: sg_141_155_1),
  (183, none, .iconst 0 :: .freturn :: []),
  (184, none, .freturn :: [])]
theorem ts_141 : bs_141.all (fun q => chk 141 q.1 q.2.2) = true := by decide +kernel
/-- C.isTempted -/
def sg_147_34_2 : List Instr := .iload 2 :: .if_icmp .ne 63 :: .iconst 1 :: .goto 64 :: []
def sg_147_34_1 : List Instr := .aload 0 :: .getfield 2067 :: .iload 1 :: .iload 2 :: .iload 3 :: .invokevirtual 8629 :: sg_147_34_2
def bs_147 : Tb := [
  (0, none, .aload 0 :: .getfield 2059 :: .iload 1 :: .invokevirtual 5781 :: .iload 2 :: .if_icmp .eq 32 :: .aload 0 :: .getfield 2059 :: .iload 1 :: .aload 0 :: .getfield 2059 :: .iload 1 :: .invokevirtual 5781 :: .invokevirtual 6181 :: .iload 3 :: .if_icmp .ge 34 :: .iconst 0 :: .freturn :: []),
  (32, none, .iconst 0 :: .freturn :: []),
  (34, none, .aload 0 :: .getfield 2067 :: .aload 0 :: .getfield 2059 :: .invokevirtual 5141 :: sg_147_34_1),
  (63, none, .iconst 0 :: .freturn :: []),
  (64, none, .freturn :: [])]
theorem ts_147 : bs_147.all (fun q => chk 147 q.1 q.2.2) = true := by decide +kernel
/-- C.tellsFights -/
def sg_148_0_1 : List Instr := .iconst 0 :: .istore 2 :: .goto_w 13 :: []
def sg_148_13_1 : List Instr := .iinc 2 1 :: .goto 13 :: []
def bs_148 : Tb := [
  (0, none, .iload 1 :: .ifCond .lt 42 :: .aload 0 :: .getfield 2055 :: .invokevirtual 2179 :: sg_148_0_1),
  (13, some [0, 1, 2], .iload 2 :: .iconst 2 :: .iload 1 :: .imul :: .if_icmp .ge 42 :: .aload 0 :: .getfield 2055 :: .aload 0 :: .getfield 2083 :: .iload 2 :: .invokevirtual 9110 :: .i2l :: .invokevirtual 2323 :: sg_148_13_1),
  (42, none, .iload 1 :: .ireturn :: [])]
theorem ts_148 : bs_148.all (fun q => chk 148 q.1 q.2.2) = true := by decide +kernel
/-- C.firstPairFights -/
def sg_149_17_1 : List Instr := .ifCond .lt 49 :: .return_ :: []
def bs_149 : Tb := [
  (0, none, .iconst 0 :: .istore 1 :: .goto_w 2 :: []),
  (2, some [0, 1], .iload 1 :: .aload 0 :: .getfield 2067 :: .getfield 1280 :: .if_icmp .ge 61 :: .iload 1 :: .iconst 1 :: .iadd :: .istore 2 :: .goto_w 17 :: []),
  (17, some [0, 1, 2], .iload 2 :: .aload 0 :: .getfield 2067 :: .getfield 1280 :: .if_icmp .ge 55 :: .aload 0 :: .getfield 2067 :: .aload 0 :: .getfield 2098 :: .aload 0 :: .getfield 2104 :: .iload 1 :: .iload 2 :: .invokevirtual 8133 :: sg_149_17_1),
  (49, none, .iinc 2 1 :: .goto 17 :: []),
  (55, none, .iinc 1 1 :: .goto 2 :: []),
  (61, none, .return_ :: [])]
theorem ts_149 : bs_149.all (fun q => chk 149 q.1 q.2.2) = true := by decide +kernel
/-- C.lesserWins -/
def sg_150_20_1 : List Instr := .iload 3 :: .if_icmp .ne 52 :: .iconst 1 :: .goto 53 :: []
def bs_150 : Tb := [
  (0, none, .iconst 0 :: .istore 2 :: .iconst 0 :: .istore 3 :: .goto_w 4 :: []),
  (4, some [0, 1, 2, 3], .iload 3 :: .aload 0 :: .getfield 2059 :: .getfield 1280 :: .if_icmp .ge 67 :: .iload 3 :: .iconst 1 :: .iadd :: .istore 4 :: .goto_w 20 :: []),
  (20, some [0, 1, 2, 3, 4], .iload 4 :: .aload 0 :: .getfield 2059 :: .getfield 1280 :: .if_icmp .ge 61 :: .iload 2 :: .aload 0 :: .getfield 2059 :: .aload 1 :: .iload 3 :: .iload 4 :: .invokevirtual 7989 :: sg_150_20_1),
  (52, none, .iconst 0 :: .iadd :: .istore 2 :: .iinc 4 1 :: .goto 20 :: []),
  (53, none, .iadd :: .istore 2 :: .iinc 4 1 :: .goto 20 :: []),
  (61, none, .iinc 3 1 :: .goto 4 :: []),
  (67, none, .iload 2 :: .ireturn :: [])]
theorem ts_150 : bs_150.all (fun q => chk 150 q.1 q.2.2) = true := by decide +kernel
/-- C.yearGoesBy -/
def sg_151_0_2 : List Instr := .goto 94 :: []
def sg_151_0_1 : List Instr := .istore 1 :: .iload 1 :: .ifCond .ne 21 :: .aload 0 :: .getfield 2067 :: .iconst 1 :: .invokevirtual 8341 :: sg_151_0_2
def sg_151_21_3 : List Instr := .pop :: .goto 94 :: []
def sg_151_21_2 : List Instr := .iconst 1 :: .invokevirtual 8629 :: sg_151_21_3
def sg_151_21_1 : List Instr := .istore 2 :: .iload 1 :: .iconst 3 :: .if_icmp .ne 66 :: .aload 0 :: .getfield 2067 :: .iload 2 :: .aload 0 :: .iconst 4 :: .invokevirtual 19480 :: sg_151_21_2
def sg_151_66_2 : List Instr := .pop :: .return_ :: []
def sg_151_66_1 : List Instr := .invokevirtual 8133 :: sg_151_66_2
def bs_151 : Tb := [
  (0, none, .aload 0 :: .iconst 4 :: .invokevirtual 19480 :: sg_151_0_1),
  (21, none, .aload 0 :: .getfield 2067 :: .getfield 1280 :: .ifCond .le 94 :: .aload 0 :: .aload 0 :: .getfield 2067 :: .getfield 1280 :: .invokevirtual 19480 :: sg_151_21_1),
  (66, none, .aload 0 :: .getfield 2067 :: .aload 0 :: .getfield 2098 :: .aload 0 :: .getfield 2104 :: .iload 2 :: .aload 0 :: .aload 0 :: .getfield 2067 :: .getfield 1280 :: .invokevirtual 19480 :: sg_151_66_1),
  (94, none, .return_ :: [])]
theorem ts_151 : bs_151.all (fun q => chk 151 q.1 q.2.2) = true := by decide +kernel
/-- M.beginText -/
def sg_180_0_1 : List Instr := .aload 0 :: .iconst 0 :: .putfield 2324 :: .return_ :: []
def bs_180 : Tb := [
  (0, none, .aload 0 :: .aload 0 :: .getfield 2323 :: .aload 0 :: .getfield 2324 :: .iload 1 :: .invokevirtual 22969 :: sg_180_0_1)]
theorem ts_180 : bs_180.all (fun q => chk 180 q.1 q.2.2) = true := by decide +kernel
/-- M.need -/
def sg_185_0_2 : List Instr := .return_ :: []
def sg_185_0_1 : List Instr := .ifCond .ne 16 :: .aload 0 :: .aload 0 :: .getfield 2352 :: .invokevirtual 23449 :: sg_185_0_2
def bs_185 : Tb := [
  (0, none, .aload 0 :: .iload 1 :: .invokevirtual 23577 :: sg_185_0_1),
  (16, none, .return_ :: [])]
theorem ts_185 : bs_185.all (fun q => chk 185 q.1 q.2.2) = true := by decide +kernel
/-- M.oneOf -/
def sg_186_9_1 : List Instr := .iconst 0 :: .ireturn :: []
def bs_186 : Tb := [
  (0, none, .aload 0 :: .invokevirtual 23305 :: .ifCond .ne 9 :: .iconst 0 :: .ireturn :: []),
  (9, none, .aload 0 :: .invokevirtual 23177 :: .iload 1 :: .iload 1 :: .iload 2 :: .iadd :: .iconst 1 :: .isub :: .invokestatic 21424 :: .ifCond .ne 35 :: .aload 0 :: .aload 0 :: .getfield 2352 :: .invokevirtual 23449 :: sg_186_9_1),
  (35, none, .aload 0 :: .dup :: .getfield 2352 :: .iconst 1 :: .iadd :: .putfield 2352 :: .aload 0 :: .getfield 2342 :: .aload 0 :: .getfield 2352 :: .iconst 1 :: .isub :: .baload :: .iload 1 :: .isub :: .ireturn :: [])]
theorem ts_186 : bs_186.all (fun q => chk 186 q.1 q.2.2) = true := by decide +kernel
/-- M.number -/
def sg_187_0_1 : List Instr := .istore 2 :: .iconst 1 :: .istore 3 :: .goto_w 11 :: []
def sg_187_11_1 : List Instr := .iadd :: .istore 2 :: .iinc 3 1 :: .goto 11 :: []
def bs_187 : Tb := [
  (0, none, .aload 0 :: .iconst 48 :: .iconst 10 :: .invokevirtual 23849 :: sg_187_0_1),
  (11, some [0, 1, 2, 3], .iload 3 :: .iload 1 :: .if_icmp .ge 57 :: .aload 0 :: .invokevirtual 23305 :: .ifCond .eq 57 :: .aload 0 :: .invokevirtual 23177 :: .iconst 48 :: .iconst 57 :: .invokestatic 21424 :: .ifCond .eq 57 :: .iconst 10 :: .iload 2 :: .imul :: .aload 0 :: .iconst 48 :: .iconst 10 :: .invokevirtual 23849 :: sg_187_11_1),
  (57, none, .iload 2 :: .ireturn :: [])]
theorem ts_187 : bs_187.all (fun q => chk 187 q.1 q.2.2) = true := by decide +kernel
/-- M.wasRight -/
def sg_188_0_1 : List Instr := .aload 0 :: .invokevirtual 23305 :: .freturn :: []
def bs_188 : Tb := [
  (0, none, .aload 0 :: .getfield 2352 :: .aload 0 :: .getfield 2344 :: .if_icmp .ge 19 :: .aload 0 :: .aload 0 :: .getfield 2352 :: .invokevirtual 23449 :: sg_188_0_1),
  (19, none, .aload 0 :: .invokevirtual 23305 :: .freturn :: [])]
theorem ts_188 : bs_188.all (fun q => chk 188 q.1 q.2.2) = true := by decide +kernel
/-- M.ships -/
def sg_189_0_1 : List Instr := .aload 0 :: .getfield 2344 :: .ifCond .ne 20 :: .iconst 0 :: .ireturn :: []
def sg_189_24_1 : List Instr := .goto 92 :: []
def sg_189_57_3 : List Instr := .istore 2 :: .goto 24 :: []
def sg_189_57_2 : List Instr := .iconst 1 :: .iadd :: .iastore :: .iinc 1 1 :: .aload 0 :: .iconst 59 :: .invokevirtual 23577 :: sg_189_57_3
def sg_189_57_1 : List Instr := .iastore :: .aload 0 :: .getfield 2363 :: .iconst 2 :: .iload 1 :: .imul :: .iconst 1 :: .iadd :: .aload 0 :: .iconst 49 :: .iconst 9 :: .invokevirtual 23849 :: sg_189_57_2
def sg_189_92_1 : List Instr := .istore 2 :: .goto 24 :: []
def sg_189_105_1 : List Instr := .ifCond .ne 119 :: .iconst (-1) :: .aload 0 :: .getfield 2356 :: .isub :: .ireturn :: []
def bs_189 : Tb := [
  (0, none, .aload 0 :: .iconst 0 :: .putfield 2336 :: .aload 0 :: .iconst 17 :: .invokevirtual 23065 :: sg_189_0_1),
  (20, none, .iconst 0 :: .istore 1 :: .iconst 1 :: .istore 2 :: .goto_w 24 :: []),
  (24, some [0, 1, 2], .iload 2 :: .ifCond .eq 105 :: .aload 0 :: .invokevirtual 23305 :: .ifCond .eq 105 :: .aload 0 :: .getfield 2308 :: .iload 1 :: .iadd :: .iconst 6 :: .if_icmp .ne 57 :: .aload 0 :: .aload 0 :: .getfield 2352 :: .invokevirtual 23449 :: sg_189_24_1),
  (57, none, .aload 0 :: .getfield 2363 :: .iconst 2 :: .iload 1 :: .imul :: .aload 0 :: .iconst 97 :: .iconst 4 :: .invokevirtual 23849 :: sg_189_57_1),
  (92, none, .iinc 1 1 :: .aload 0 :: .iconst 59 :: .invokevirtual 23577 :: sg_189_92_1),
  (105, none, .aload 0 :: .invokevirtual 24073 :: sg_189_105_1),
  (119, none, .iconst 0 :: .istore 3 :: .goto_w 121 :: []),
  (121, some [0, 1, 3], .iload 3 :: .iload 1 :: .if_icmp .ge 276 :: .aload 0 :: .getfield 2319 :: .aload 0 :: .getfield 2308 :: .aload 0 :: .getfield 2363 :: .iconst 2 :: .iload 3 :: .imul :: .iconst 1 :: .iadd :: .iaload :: .iastore :: .aload 0 :: .getfield 2307 :: .aload 0 :: .getfield 2308 :: .aload 0 :: .getfield 2319 :: .aload 0 :: .getfield 2308 :: .iaload :: .iastore :: .aload 0 :: .getfield 2307 :: .iconst 6 :: .aload 0 :: .getfield 2308 :: .iadd :: .aload 0 :: .getfield 2363 :: .iconst 2 :: .iload 3 :: .imul :: .iaload :: .iastore :: .iconst 0 :: .istore 4 :: .goto_w 186 :: []),
  (186, some [0, 1, 3, 4], .iload 4 :: .iconst 4 :: .if_icmp .ge 234 :: .aload 0 :: .getfield 2307 :: .iconst 12 :: .iconst 4 :: .aload 0 :: .getfield 2308 :: .imul :: .iadd :: .iload 4 :: .iadd :: .iload 4 :: .aload 0 :: .getfield 2363 :: .iconst 2 :: .iload 3 :: .imul :: .iaload :: .if_icmp .ne 226 :: .iconst 12 :: .goto 227 :: []),
  (226, none, .iconst 0 :: .iastore :: .iinc 4 1 :: .goto 186 :: []),
  (227, none, .iastore :: .iinc 4 1 :: .goto 186 :: []),
  (234, none, .aload 0 :: .getfield 2307 :: .iconst 36 :: .aload 0 :: .getfield 2308 :: .iadd :: .iconst 0 :: .iastore :: .aload 0 :: .getfield 2307 :: .iconst 42 :: .aload 0 :: .getfield 2308 :: .iadd :: .iconst 0 :: .iastore :: .aload 0 :: .dup :: .getfield 2308 :: .iconst 1 :: .iadd :: .putfield 2308 :: .iinc 3 1 :: .goto 121 :: []),
  (276, none, .aload 0 :: .iconst 0 :: .putfield 2388 :: .aload 0 :: .dup :: .getfield 2452 :: .iconst 1 :: .iadd :: .putfield 2452 :: .iload 1 :: .ireturn :: [])]
theorem ts_189 : bs_189.all (fun q => chk 189 q.1 q.2.2) = true := by decide +kernel
/-- M.held -/
def sg_190_0_3 : List Instr := .if_icmp .ge 28 :: .iconst 1 :: .goto 29 :: []
def sg_190_0_2 : List Instr := .ifCond .eq 30 :: .iload 2 :: .aload 0 :: .iload 1 :: .invokevirtual 24473 :: sg_190_0_3
def sg_190_0_1 : List Instr := .istore 2 :: .aload 0 :: .iconst 60 :: .invokevirtual 23577 :: sg_190_0_2
def sg_190_30_2 : List Instr := .if_icmp .le 52 :: .iconst 1 :: .goto 53 :: []
def sg_190_30_1 : List Instr := .ifCond .eq 54 :: .iload 2 :: .aload 0 :: .iload 1 :: .invokevirtual 24473 :: sg_190_30_2
def sg_190_54_2 : List Instr := .if_icmp .ne 76 :: .iconst 1 :: .goto 77 :: []
def sg_190_54_1 : List Instr := .ifCond .eq 78 :: .iload 2 :: .aload 0 :: .iload 1 :: .invokevirtual 24473 :: sg_190_54_2
def bs_190 : Tb := [
  (0, none, .aload 0 :: .iload 1 :: .invokevirtual 24473 :: sg_190_0_1),
  (28, none, .iconst 0 :: .ireturn :: []),
  (29, none, .ireturn :: []),
  (30, none, .aload 0 :: .iconst 62 :: .invokevirtual 23577 :: sg_190_30_1),
  (52, none, .iconst 0 :: .ireturn :: []),
  (53, none, .ireturn :: []),
  (54, none, .aload 0 :: .iconst 61 :: .invokevirtual 23577 :: sg_190_54_1),
  (76, none, .iconst 0 :: .ireturn :: []),
  (77, none, .ireturn :: []),
  (78, none, .iload 2 :: .ireturn :: [])]
theorem ts_190 : bs_190.all (fun q => chk 190 q.1 q.2.2) = true := by decide +kernel
/-- M.sum -/
def sg_191_0_1 : List Instr := .istore 2 :: .goto_w 6 :: []
def sg_191_44_1 : List Instr := .istore 4 :: .iload 3 :: .ifCond .eq 74 :: .iload 2 :: .iload 4 :: .iadd :: .goto 78 :: []
def sg_191_45_1 : List Instr := .istore 4 :: .iload 3 :: .ifCond .eq 74 :: .iload 2 :: .iload 4 :: .iadd :: .goto 78 :: []
def bs_191 : Tb := [
  (0, none, .aload 0 :: .iload 1 :: .invokevirtual 24601 :: sg_191_0_1),
  (6, some [0, 1, 2], .aload 0 :: .invokevirtual 23305 :: .ifCond .eq 82 :: .aload 0 :: .invokevirtual 23177 :: .iconst 43 :: .if_icmp .eq 31 :: .aload 0 :: .invokevirtual 23177 :: .iconst 45 :: .if_icmp .ne 82 :: .aload 0 :: .invokevirtual 23177 :: .iconst 43 :: .if_icmp .ne 44 :: .iconst 1 :: .goto 45 :: []),
  (31, none, .aload 0 :: .invokevirtual 23177 :: .iconst 43 :: .if_icmp .ne 44 :: .iconst 1 :: .goto 45 :: []),
  (44, none, .iconst 0 :: .istore 3 :: .aload 0 :: .dup :: .getfield 2352 :: .iconst 1 :: .iadd :: .putfield 2352 :: .aload 0 :: .iload 1 :: .invokevirtual 24601 :: sg_191_44_1),
  (45, none, .istore 3 :: .aload 0 :: .dup :: .getfield 2352 :: .iconst 1 :: .iadd :: .putfield 2352 :: .aload 0 :: .iload 1 :: .invokevirtual 24601 :: sg_191_45_1),
  (74, none, .iload 2 :: .iload 4 :: .isub :: .istore 2 :: .goto 6 :: []),
  (78, none, .istore 2 :: .goto 6 :: []),
  (82, none, .iload 2 :: .ireturn :: [])]
theorem ts_191 : bs_191.all (fun q => chk 191 q.1 q.2.2) = true := by decide +kernel
end
section
/-! code lists in pieces, cut behind calls that change memory -/
/-- M.product -/
def sg_192_0_1 : List Instr := .istore 2 :: .goto_w 6 :: []
def sg_192_44_1 : List Instr := .istore 4 :: .iload 3 :: .ifCond .eq 74 :: .iload 2 :: .iload 4 :: .imul :: .goto 87 :: []
def sg_192_45_1 : List Instr := .istore 4 :: .iload 3 :: .ifCond .eq 74 :: .iload 2 :: .iload 4 :: .imul :: .goto 87 :: []
def bs_192 : Tb := [
  (0, none, .aload 0 :: .iload 1 :: .invokevirtual 24857 :: sg_192_0_1),
  (6, some [0, 1, 2], .aload 0 :: .invokevirtual 23305 :: .ifCond .eq 91 :: .aload 0 :: .invokevirtual 23177 :: .iconst 42 :: .if_icmp .eq 31 :: .aload 0 :: .invokevirtual 23177 :: .iconst 47 :: .if_icmp .ne 91 :: .aload 0 :: .invokevirtual 23177 :: .iconst 42 :: .if_icmp .ne 44 :: .iconst 1 :: .goto 45 :: []),
  (31, none, .aload 0 :: .invokevirtual 23177 :: .iconst 42 :: .if_icmp .ne 44 :: .iconst 1 :: .goto 45 :: []),
  (44, none, .iconst 0 :: .istore 3 :: .aload 0 :: .dup :: .getfield 2352 :: .iconst 1 :: .iadd :: .putfield 2352 :: .aload 0 :: .iload 1 :: .invokevirtual 24857 :: sg_192_44_1),
  (45, none, .istore 3 :: .aload 0 :: .dup :: .getfield 2352 :: .iconst 1 :: .iadd :: .putfield 2352 :: .aload 0 :: .iload 1 :: .invokevirtual 24857 :: sg_192_45_1),
  (74, none, .iload 4 :: .ifCond .ne 83 :: .iconst 0 :: .goto 87 :: []),
  (83, none, .iload 2 :: .iload 4 :: .idiv :: .istore 2 :: .goto 6 :: []),
  (87, none, .istore 2 :: .goto 6 :: []),
  (91, none, .iload 2 :: .ireturn :: [])]
theorem ts_192 : bs_192.all (fun q => chk 192 q.1 q.2.2) = true := by decide +kernel
/-- M.thing -/
def sg_194_0_2 : List Instr := .ineg :: .ireturn :: []
def sg_194_0_1 : List Instr := .ifCond .eq 16 :: .aload 0 :: .iload 1 :: .invokevirtual 24857 :: sg_194_0_2
def sg_194_25_2 : List Instr := .iload 3 :: .ireturn :: []
def sg_194_25_1 : List Instr := .istore 3 :: .aload 0 :: .iconst 41 :: .invokevirtual 23705 :: sg_194_25_2
def sg_194_67_1 : List Instr := .ireturn :: []
def sg_194_84_1 : List Instr := .iconst 0 :: .ireturn :: []
def bs_194 : Tb := [
  (0, none, .aload 0 :: .iconst 45 :: .invokevirtual 23577 :: sg_194_0_1),
  (16, none, .aload 0 :: .invokevirtual 23305 :: .ifCond .ne 25 :: .iconst 0 :: .ireturn :: []),
  (25, none, .aload 0 :: .invokevirtual 23177 :: .istore 2 :: .iload 2 :: .iconst 40 :: .if_icmp .ne 67 :: .iload 1 :: .iconst 4 :: .if_icmp .ge 67 :: .aload 0 :: .dup :: .getfield 2352 :: .iconst 1 :: .iadd :: .putfield 2352 :: .aload 0 :: .iload 1 :: .iconst 1 :: .iadd :: .invokevirtual 24345 :: sg_194_25_1),
  (67, none, .iload 2 :: .iconst 48 :: .iconst 57 :: .invokestatic 21424 :: .ifCond .eq 84 :: .aload 0 :: .iconst 3 :: .invokevirtual 23961 :: sg_194_67_1),
  (84, none, .iload 2 :: .invokestatic 24720 :: .iconst (-1) :: .if_icmp .ne 102 :: .aload 0 :: .aload 0 :: .getfield 2352 :: .invokevirtual 23449 :: sg_194_84_1),
  (102, none, .aload 0 :: .dup :: .getfield 2352 :: .iconst 1 :: .iadd :: .putfield 2352 :: .aload 0 :: .getfield 2377 :: .ifCond .eq 131 :: .aload 0 :: .getfield 2383 :: .iload 2 :: .invokestatic 24720 :: .iaload :: .goto 132 :: []),
  (131, none, .iconst 0 :: .ireturn :: []),
  (132, none, .ireturn :: [])]
theorem ts_194 : bs_194.all (fun q => chk 194 q.1 q.2.2) = true := by decide +kernel
/-- M.readRule -/
def sg_195_0_3 : List Instr := .freturn :: []
def sg_195_0_2 : List Instr := .pop :: .aload 0 :: .invokevirtual 24073 :: sg_195_0_3
def sg_195_0_1 : List Instr := .aload 0 :: .iconst 0 :: .putfield 2377 :: .aload 0 :: .getfield 2344 :: .ifCond .le 24 :: .aload 0 :: .iconst 0 :: .invokevirtual 24345 :: sg_195_0_2
def sg_195_24_1 : List Instr := .freturn :: []
def bs_195 : Tb := [
  (0, none, .aload 0 :: .iconst 40 :: .invokevirtual 23065 :: sg_195_0_1),
  (24, none, .aload 0 :: .invokevirtual 24073 :: sg_195_24_1)]
theorem ts_195 : bs_195.all (fun q => chk 195 q.1 q.2.2) = true := by decide +kernel
/-- M.rule -/
def sg_196_0_1 : List Instr := .ifCond .ne 24 :: .iconst (-1) :: .aload 0 :: .getfield 2356 :: .isub :: .ireturn :: []
def bs_196 : Tb := [
  (0, none, .aload 0 :: .iconst 0 :: .putfield 2336 :: .aload 0 :: .getfield 2324 :: .istore 1 :: .aload 0 :: .invokevirtual 24969 :: sg_196_0_1),
  (24, none, .iconst 0 :: .istore 2 :: .goto_w 26 :: []),
  (26, some [0, 1, 2], .iload 2 :: .iload 1 :: .if_icmp .ge 49 :: .aload 0 :: .getfield 2366 :: .iload 2 :: .aload 0 :: .getfield 2323 :: .iload 2 :: .baload :: .bastore :: .iinc 2 1 :: .goto 26 :: []),
  (49, none, .aload 0 :: .iload 1 :: .putfield 2372 :: .iconst 0 :: .ireturn :: [])]
theorem ts_196 : bs_196.all (fun q => chk 196 q.1 q.2.2) = true := by decide +kernel
/-- M.forceOf -/
def sg_197_35_2 : List Instr := .istore 5 :: .aload 0 :: .iconst 0 :: .putfield 2377 :: .iload 5 :: .ireturn :: []
def sg_197_35_1 : List Instr := .aload 0 :: .iconst 1 :: .putfield 2377 :: .aload 0 :: .iconst 0 :: .invokevirtual 24345 :: sg_197_35_2
def bs_197 : Tb := [
  (0, none, .aload 1 :: .iload 2 :: .aload 1 :: .iconst 6 :: .iload 3 :: .iadd :: .iaload :: .invokestatic 22448 :: .istore 4 :: .aload 0 :: .getfield 2372 :: .ifCond .ne 35 :: .aload 1 :: .iload 2 :: .iaload :: .iconst 2 :: .imul :: .aload 1 :: .iload 2 :: .invokestatic 22560 :: .iadd :: .iload 4 :: .isub :: .ireturn :: []),
  (35, none, .aload 0 :: .getfield 2383 :: .iconst 0 :: .aload 1 :: .iload 2 :: .iaload :: .iastore :: .aload 0 :: .getfield 2383 :: .iconst 1 :: .aload 1 :: .iload 2 :: .invokestatic 22560 :: .iastore :: .aload 0 :: .getfield 2383 :: .iconst 2 :: .iload 4 :: .iastore :: .aload 0 :: .getfield 2383 :: .iconst 3 :: .aload 1 :: .iconst 36 :: .iload 2 :: .iadd :: .iaload :: .iastore :: .aload 0 :: .getfield 2383 :: .iconst 4 :: .aload 1 :: .iconst 42 :: .iload 2 :: .iadd :: .iaload :: .iastore :: .aload 0 :: .getfield 2383 :: .iconst 5 :: .aload 1 :: .iconst 48 :: .iaload :: .iconst 7 :: .irem :: .iastore :: .aload 0 :: .aload 0 :: .getfield 2366 :: .aload 0 :: .getfield 2372 :: .iconst 40 :: .invokevirtual 22969 :: sg_197_35_1)]
theorem ts_197 : bs_197.all (fun q => chk 197 q.1 q.2.2) = true := by decide +kernel
/-- M.ship -/
def sg_198_0_1 : List Instr := .ireturn :: []
def sg_198_23_1 : List Instr := .ireturn :: []
def bs_198 : Tb := [
  (0, none, .aload 0 :: .iconst 0 :: .putfield 2336 :: .aload 0 :: .iload 1 :: .invokevirtual 21913 :: .ifCond .eq 23 :: .iload 2 :: .iconst 0 :: .iconst 8 :: .invokestatic 21424 :: .ifCond .ne 28 :: .aload 0 :: .invokevirtual 21641 :: sg_198_0_1),
  (23, none, .aload 0 :: .invokevirtual 21641 :: sg_198_23_1),
  (28, none, .iload 2 :: .lookupswitch 124 #[(0, 80), (1, 87), (2, 94), (3, 124), (4, 124), (5, 124), (6, 124), (7, 104), (8, 114)] :: []),
  (80, none, .aload 0 :: .getfield 2319 :: .iload 1 :: .iaload :: .ireturn :: []),
  (87, none, .aload 0 :: .getfield 2307 :: .iload 1 :: .iaload :: .ireturn :: []),
  (94, none, .aload 0 :: .getfield 2307 :: .iconst 6 :: .iload 1 :: .iadd :: .iaload :: .ireturn :: []),
  (104, none, .aload 0 :: .getfield 2307 :: .iconst 36 :: .iload 1 :: .iadd :: .iaload :: .ireturn :: []),
  (114, none, .aload 0 :: .getfield 2307 :: .iconst 42 :: .iload 1 :: .iadd :: .iaload :: .ireturn :: []),
  (124, none, .aload 0 :: .getfield 2307 :: .iload 1 :: .iload 2 :: .iconst 3 :: .isub :: .invokestatic 22448 :: .ireturn :: [])]
theorem ts_198 : bs_198.all (fun q => chk 198 q.1 q.2.2) = true := by decide +kernel
/-- M.force -/
def sg_199_0_1 : List Instr := .invokestatic 37024 :: .invokestatic 36896 :: .iadd :: .goto 44 :: []
def bs_199 : Tb := [
  (0, none, .aload 0 :: .iconst 0 :: .putfield 2336 :: .aload 0 :: .iload 1 :: .iload 2 :: .invokevirtual 22057 :: .ifCond .eq 43 :: .iconst 1000 :: .iconst (-999) :: .iconst 999 :: .aload 0 :: .aload 0 :: .getfield 2307 :: .iload 1 :: .iload 2 :: .invokevirtual 25273 :: sg_199_0_1),
  (43, none, .iconst (-1) :: .ireturn :: []),
  (44, none, .ireturn :: [])]
theorem ts_199 : bs_199.all (fun q => chk 199 q.1 q.2.2) = true := by decide +kernel
/-- M.remember -/
def sg_204_39_1 : List Instr := .aload 0 :: .dup :: .getfield 2388 :: .iconst 1 :: .iadd :: .putfield 2388 :: .return_ :: []
def sg_204_49_1 : List Instr := .aload 0 :: .dup :: .getfield 2388 :: .iconst 1 :: .iadd :: .putfield 2388 :: .return_ :: []
def bs_204 : Tb := [
  (0, none, .aload 0 :: .getfield 2388 :: .iconst 12 :: .if_icmp .ne 49 :: .iconst 0 :: .istore 2 :: .goto_w 11 :: []),
  (11, some [0, 1, 2], .iload 2 :: .iconst 550 :: .if_icmp .ge 39 :: .aload 0 :: .getfield 2387 :: .iload 2 :: .aload 0 :: .getfield 2387 :: .iload 2 :: .iconst 50 :: .iadd :: .iaload :: .iastore :: .iinc 2 1 :: .goto 11 :: []),
  (39, none, .aload 0 :: .dup :: .getfield 2388 :: .iconst 1 :: .isub :: .putfield 2388 :: .aload 1 :: .aload 0 :: .getfield 2387 :: .iconst 50 :: .aload 0 :: .getfield 2388 :: .imul :: .invokestatic 26032 :: sg_204_39_1),
  (49, none, .aload 1 :: .aload 0 :: .getfield 2387 :: .iconst 50 :: .aload 0 :: .getfield 2388 :: .imul :: .invokestatic 26032 :: sg_204_49_1)]
theorem ts_204 : bs_204.all (fun q => chk 204 q.1 q.2.2) = true := by decide +kernel
/-- M.winnerOf -/
def sg_206_18_2 : List Instr := .invokestatic 36384 :: .istore 4 :: .iload 4 :: .ifCond .ne 47 :: .iconst (-3) :: .goto 57 :: []
def sg_206_18_1 : List Instr := .aload 0 :: .aload 1 :: .iload 3 :: .iload 2 :: .invokevirtual 25273 :: sg_206_18_2
def bs_206 : Tb := [
  (0, none, .aload 1 :: .iconst 6 :: .iload 2 :: .iadd :: .iaload :: .aload 1 :: .iconst 6 :: .iload 3 :: .iadd :: .iaload :: .if_icmp .ne 18 :: .iconst (-2) :: .ireturn :: []),
  (18, none, .aload 0 :: .aload 1 :: .iload 2 :: .iload 3 :: .invokevirtual 25273 :: sg_206_18_1),
  (47, none, .iload 4 :: .ifCond .le 56 :: .iload 2 :: .goto 57 :: []),
  (56, none, .iload 3 :: .ireturn :: []),
  (57, none, .ireturn :: [])]
theorem ts_206 : bs_206.all (fun q => chk 206 q.1 q.2.2) = true := by decide +kernel
/-- M.goFight -/
def sg_207_0_1 : List Instr := .istore 4 :: .iload 4 :: .ifCond .ge 17 :: .iload 4 :: .ireturn :: []
def sg_207_27_2 : List Instr := .iload 4 :: .ireturn :: []
def sg_207_27_1 : List Instr := .aload 1 :: .iload 5 :: .invokestatic 26272 :: sg_207_27_2
def sg_207_28_2 : List Instr := .iload 4 :: .ireturn :: []
def sg_207_28_1 : List Instr := .aload 1 :: .iload 5 :: .invokestatic 26272 :: sg_207_28_2
def bs_207 : Tb := [
  (0, none, .aload 0 :: .aload 1 :: .iload 2 :: .iload 3 :: .invokevirtual 26425 :: sg_207_0_1),
  (17, none, .iload 4 :: .iload 2 :: .if_icmp .ne 27 :: .iload 3 :: .goto 28 :: []),
  (27, none, .iload 2 :: .istore 5 :: .iconst 12 :: .iconst 4 :: .iload 4 :: .imul :: .iadd :: .istore 6 :: .aload 0 :: .getfield 2312 :: .aload 1 :: .iload 4 :: .invokestatic 22560 :: .invokestatic 37024 :: .istore 7 :: .aload 1 :: .iload 6 :: .aload 1 :: .iconst 6 :: .iload 4 :: .iadd :: .iaload :: .iadd :: .dup2 :: .iaload :: .iload 7 :: .isub :: .iastore :: .aload 1 :: .iload 6 :: .aload 1 :: .iconst 6 :: .iload 5 :: .iadd :: .iaload :: .iadd :: .dup2 :: .iaload :: .iload 7 :: .iadd :: .iastore :: .aload 1 :: .iconst 36 :: .iload 4 :: .iadd :: .iconst 99 :: .aload 1 :: .iconst 36 :: .iload 4 :: .iadd :: .iaload :: .iconst 1 :: .iadd :: .invokestatic 37024 :: .iastore :: .aload 1 :: .iload 5 :: .iconst 0 :: .aload 1 :: .iload 5 :: .iaload :: .iconst 1 :: .isub :: .invokestatic 36896 :: .iastore :: .aload 1 :: .iconst 42 :: .iload 5 :: .iadd :: .iconst 99 :: .aload 1 :: .iconst 42 :: .iload 5 :: .iadd :: .iaload :: .iconst 1 :: .iadd :: .invokestatic 37024 :: .iastore :: .aload 1 :: .iload 4 :: .invokestatic 26272 :: sg_207_27_1),
  (28, none, .istore 5 :: .iconst 12 :: .iconst 4 :: .iload 4 :: .imul :: .iadd :: .istore 6 :: .aload 0 :: .getfield 2312 :: .aload 1 :: .iload 4 :: .invokestatic 22560 :: .invokestatic 37024 :: .istore 7 :: .aload 1 :: .iload 6 :: .aload 1 :: .iconst 6 :: .iload 4 :: .iadd :: .iaload :: .iadd :: .dup2 :: .iaload :: .iload 7 :: .isub :: .iastore :: .aload 1 :: .iload 6 :: .aload 1 :: .iconst 6 :: .iload 5 :: .iadd :: .iaload :: .iadd :: .dup2 :: .iaload :: .iload 7 :: .iadd :: .iastore :: .aload 1 :: .iconst 36 :: .iload 4 :: .iadd :: .iconst 99 :: .aload 1 :: .iconst 36 :: .iload 4 :: .iadd :: .iaload :: .iconst 1 :: .iadd :: .invokestatic 37024 :: .iastore :: .aload 1 :: .iload 5 :: .iconst 0 :: .aload 1 :: .iload 5 :: .iaload :: .iconst 1 :: .isub :: .invokestatic 36896 :: .iastore :: .aload 1 :: .iconst 42 :: .iload 5 :: .iadd :: .iconst 99 :: .aload 1 :: .iconst 42 :: .iload 5 :: .iadd :: .iaload :: .iconst 1 :: .iadd :: .invokestatic 37024 :: .iastore :: .aload 1 :: .iload 4 :: .invokestatic 26272 :: sg_207_28_1)]
theorem ts_207 : bs_207.all (fun q => chk 207 q.1 q.2.2) = true := by decide +kernel
/-- M.fight -/
def sg_208_16_1 : List Instr := .istore 3 :: .iload 3 :: .ifCond .ge 33 :: .iload 3 :: .ireturn :: []
def sg_208_33_2 : List Instr := .ireturn :: []
def sg_208_33_1 : List Instr := .aload 0 :: .aload 0 :: .getfield 2307 :: .iload 1 :: .iload 2 :: .invokevirtual 26553 :: sg_208_33_2
def bs_208 : Tb := [
  (0, none, .aload 0 :: .iconst 0 :: .putfield 2336 :: .aload 0 :: .iload 1 :: .iload 2 :: .invokevirtual 22057 :: .ifCond .ne 16 :: .iconst (-1) :: .ireturn :: []),
  (16, none, .aload 0 :: .aload 0 :: .getfield 2307 :: .iload 1 :: .iload 2 :: .invokevirtual 26425 :: sg_208_16_1),
  (33, none, .aload 0 :: .aload 0 :: .getfield 2307 :: .invokevirtual 26137 :: sg_208_33_1)]
theorem ts_208 : bs_208.all (fun q => chk 208 q.1 q.2.2) = true := by decide +kernel
/-- M.goDay -/
def sg_210_2_1 : List Instr := .iinc 2 1 :: .goto 2 :: []
def bs_210 : Tb := [
  (0, none, .iconst 0 :: .istore 2 :: .goto_w 2 :: []),
  (2, some [0, 1, 2], .iload 2 :: .aload 0 :: .getfield 2308 :: .if_icmp .ge 39 :: .aload 1 :: .iload 2 :: .aload 0 :: .getfield 2319 :: .iload 2 :: .iaload :: .aload 1 :: .iload 2 :: .iaload :: .iconst 1 :: .iadd :: .invokestatic 37024 :: .iastore :: .aload 0 :: .aload 1 :: .iload 2 :: .invokevirtual 26793 :: sg_210_2_1),
  (39, none, .aload 1 :: .iconst 48 :: .dup2 :: .iaload :: .iconst 1 :: .iadd :: .iastore :: .return_ :: [])]
theorem ts_210 : bs_210.all (fun q => chk 210 q.1 q.2.2) = true := by decide +kernel
/-- M.goDays -/
def sg_211_2_1 : List Instr := .iinc 3 1 :: .goto 2 :: []
def bs_211 : Tb := [
  (0, none, .iconst 0 :: .istore 3 :: .goto_w 2 :: []),
  (2, some [0, 1, 2, 3], .iload 3 :: .iload 2 :: .if_icmp .ge 18 :: .aload 0 :: .aload 1 :: .invokevirtual 26905 :: sg_211_2_1),
  (18, none, .return_ :: [])]
theorem ts_211 : bs_211.all (fun q => chk 211 q.1 q.2.2) = true := by decide +kernel
/-- M.days -/
def sg_213_17_2 : List Instr := .aload 0 :: .iconst 0 :: .putfield 2332 :: .iconst 0 :: .istore 2 :: .goto_w 45 :: []
def sg_213_17_1 : List Instr := .aload 0 :: .aload 0 :: .getfield 2307 :: .iload 1 :: .invokevirtual 27049 :: sg_213_17_2
def sg_213_29_1 : List Instr := .aload 0 :: .iconst 0 :: .putfield 2332 :: .iconst 0 :: .istore 2 :: .goto_w 45 :: []
def sg_213_45_1 : List Instr := .iinc 2 1 :: .goto 45 :: []
def bs_213 : Tb := [
  (0, none, .aload 0 :: .iconst 0 :: .putfield 2336 :: .iload 1 :: .iconst 0 :: .iconst 60 :: .invokestatic 21424 :: .ifCond .ne 17 :: .iconst (-1) :: .ireturn :: []),
  (17, none, .iload 1 :: .ifCond .le 29 :: .aload 0 :: .aload 0 :: .getfield 2307 :: .invokevirtual 26137 :: sg_213_17_1),
  (29, none, .aload 0 :: .aload 0 :: .getfield 2307 :: .iload 1 :: .invokevirtual 27049 :: sg_213_29_1),
  (45, some [0, 2], .iload 2 :: .iconst 4 :: .if_icmp .ge 70 :: .aload 0 :: .aload 0 :: .aload 0 :: .getfield 2307 :: .iload 2 :: .invokevirtual 27177 :: .i2l :: .invokevirtual 21785 :: sg_213_45_1),
  (70, none, .aload 0 :: .aload 0 :: .getfield 2307 :: .iconst 0 :: .invokevirtual 25769 :: .ireturn :: [])]
theorem ts_213 : bs_213.all (fun q => chk 213 q.1 q.2.2) = true := by decide +kernel
/-- M.goSewing -/
def sg_215_0_1 : List Instr := .return_ :: []
def bs_215 : Tb := [
  (0, none, .aload 0 :: .iconst 12 :: .iconst 4 :: .iload 1 :: .imul :: .iadd :: .aload 0 :: .iconst 6 :: .iload 1 :: .iadd :: .iaload :: .iadd :: .dup2 :: .iaload :: .iload 3 :: .isub :: .iastore :: .aload 0 :: .iconst 12 :: .iconst 4 :: .iload 1 :: .imul :: .iadd :: .iload 2 :: .iadd :: .dup2 :: .iaload :: .iload 3 :: .iadd :: .iastore :: .aload 0 :: .iload 1 :: .invokestatic 26272 :: sg_215_0_1)]
theorem ts_215 : bs_215.all (fun q => chk 215 q.1 q.2.2) = true := by decide +kernel
/-- M.sews -/
def sg_216_26_2 : List Instr := .aload 0 :: .getfield 2307 :: .iconst 6 :: .iload 1 :: .iadd :: .iaload :: .ireturn :: []
def sg_216_26_1 : List Instr := .aload 0 :: .getfield 2307 :: .iload 1 :: .iload 2 :: .iload 3 :: .invokestatic 27584 :: sg_216_26_2
def bs_216 : Tb := [
  (0, none, .aload 0 :: .iconst 0 :: .putfield 2336 :: .aload 0 :: .aload 0 :: .getfield 2307 :: .iload 1 :: .iload 2 :: .iload 3 :: .invokevirtual 27465 :: .istore 4 :: .iload 4 :: .ifCond .ge 26 :: .iload 4 :: .ireturn :: []),
  (26, none, .aload 0 :: .aload 0 :: .getfield 2307 :: .invokevirtual 26137 :: sg_216_26_1)]
theorem ts_216 : bs_216.all (fun q => chk 216 q.1 q.2.2) = true := by decide +kernel
/-- M.yields -/
def sg_219_18_2 : List Instr := .iload 4 :: .ireturn :: []
def sg_219_18_1 : List Instr := .iconst 12 :: .aload 0 :: .getfield 2307 :: .iload 1 :: .iload 2 :: .invokestatic 22448 :: .isub :: .istore 4 :: .aload 0 :: .iload 1 :: .iload 2 :: .invokevirtual 27945 :: sg_219_18_2
def bs_219 : Tb := [
  (0, none, .aload 0 :: .iconst 0 :: .putfield 2336 :: .aload 0 :: .iload 1 :: .iload 2 :: .invokevirtual 27817 :: .istore 3 :: .iload 3 :: .ifCond .ge 18 :: .iload 3 :: .ireturn :: []),
  (18, none, .aload 0 :: .aload 0 :: .getfield 2307 :: .invokevirtual 26137 :: sg_219_18_1)]
theorem ts_219 : bs_219.all (fun q => chk 219 q.1 q.2.2) = true := by decide +kernel
/-- M.war -/
def sg_220_0_1 : List Instr := .iconst 0 :: .istore 1 :: .goto_w 13 :: []
def sg_220_13_1 : List Instr := .iinc 1 1 :: .goto 13 :: []
def sg_220_44_1 : List Instr := .ifCond .ne 58 :: .iconst (-1) :: .aload 0 :: .getfield 2356 :: .isub :: .ireturn :: []
def sg_220_58_1 : List Instr := .iconst 0 :: .istore 2 :: .goto_w 72 :: []
def sg_220_72_1 : List Instr := .ifCond .eq 93 :: .iinc 2 1 :: .goto 72 :: []
def sg_220_93_1 : List Instr := .aload 0 :: .iconst 0 :: .putfield 2332 :: .aload 0 :: .iload 2 :: .iload 1 :: .if_icmp .ge 120 :: .ldc2_w 1 :: .goto 121 :: []
def sg_220_120_2 : List Instr := .iload 2 :: .ireturn :: []
def sg_220_120_1 : List Instr := .aload 0 :: .aload 0 :: .getfield 2307 :: .iconst 49 :: .iaload :: .i2l :: .invokevirtual 21785 :: sg_220_120_2
def sg_220_121_2 : List Instr := .iload 2 :: .ireturn :: []
def sg_220_121_1 : List Instr := .aload 0 :: .aload 0 :: .getfield 2307 :: .iconst 49 :: .iaload :: .i2l :: .invokevirtual 21785 :: sg_220_121_2
def bs_220 : Tb := [
  (0, none, .aload 0 :: .iconst 0 :: .putfield 2336 :: .aload 0 :: .iconst 60 :: .invokevirtual 23065 :: sg_220_0_1),
  (13, some [0, 1], .aload 0 :: .invokevirtual 23305 :: .ifCond .eq 44 :: .aload 0 :: .getfield 2352 :: .aload 0 :: .getfield 2344 :: .if_icmp .ge 44 :: .aload 0 :: .iconst 4 :: .iload 1 :: .imul :: .invokevirtual 28313 :: sg_220_13_1),
  (44, none, .aload 0 :: .invokevirtual 24073 :: sg_220_44_1),
  (58, none, .aload 0 :: .getfield 2307 :: .aload 0 :: .getfield 2395 :: .iconst 0 :: .invokestatic 26032 :: sg_220_58_1),
  (72, some [0, 1, 2], .iload 2 :: .iload 1 :: .if_icmp .ge 93 :: .aload 0 :: .iconst 4 :: .iload 2 :: .imul :: .invokevirtual 28441 :: sg_220_72_1),
  (93, none, .iload 2 :: .ifCond .le 105 :: .aload 0 :: .aload 0 :: .getfield 2395 :: .invokevirtual 26137 :: sg_220_93_1),
  (105, none, .aload 0 :: .iconst 0 :: .putfield 2332 :: .aload 0 :: .iload 2 :: .iload 1 :: .if_icmp .ge 120 :: .ldc2_w 1 :: .goto 121 :: []),
  (120, none, .ldc2_w 0 :: .invokevirtual 21785 :: sg_220_120_1),
  (121, none, .invokevirtual 21785 :: sg_220_121_1)]
theorem ts_220 : bs_220.all (fun q => chk 220 q.1 q.2.2) = true := by decide +kernel
/-- M.readAct -/
def sg_221_0_1 : List Instr := .return_ :: []
def sg_221_38_4 : List Instr := .iconst 1 :: .iadd :: .iastore :: .return_ :: []
def sg_221_38_3 : List Instr := .iastore :: .iload 2 :: .iconst 115 :: .if_icmp .ne 144 :: .aload 0 :: .getfield 2403 :: .iload 1 :: .iconst 3 :: .iadd :: .aload 0 :: .iconst 49 :: .iconst 9 :: .invokevirtual 23849 :: sg_221_38_4
def sg_221_38_2 : List Instr := .iastore :: .iload 2 :: .iconst 115 :: .if_icmp .eq 105 :: .iload 2 :: .iconst 121 :: .if_icmp .ne 120 :: .aload 0 :: .getfield 2403 :: .iload 1 :: .iconst 2 :: .iadd :: .aload 0 :: .iconst 97 :: .iconst 4 :: .invokevirtual 23849 :: sg_221_38_3
def sg_221_38_1 : List Instr := .iastore :: .iload 2 :: .iconst 102 :: .if_icmp .ne 93 :: .aload 0 :: .getfield 2403 :: .iload 1 :: .iconst 2 :: .iadd :: .aload 0 :: .iconst 48 :: .iconst 10 :: .invokevirtual 23849 :: sg_221_38_2
def sg_221_93_2 : List Instr := .iconst 1 :: .iadd :: .iastore :: .return_ :: []
def sg_221_93_1 : List Instr := .iastore :: .iload 2 :: .iconst 115 :: .if_icmp .ne 144 :: .aload 0 :: .getfield 2403 :: .iload 1 :: .iconst 3 :: .iadd :: .aload 0 :: .iconst 49 :: .iconst 9 :: .invokevirtual 23849 :: sg_221_93_2
def sg_221_105_2 : List Instr := .iconst 1 :: .iadd :: .iastore :: .return_ :: []
def sg_221_105_1 : List Instr := .iastore :: .iload 2 :: .iconst 115 :: .if_icmp .ne 144 :: .aload 0 :: .getfield 2403 :: .iload 1 :: .iconst 3 :: .iadd :: .aload 0 :: .iconst 49 :: .iconst 9 :: .invokevirtual 23849 :: sg_221_105_2
def sg_221_120_1 : List Instr := .iconst 1 :: .iadd :: .iastore :: .return_ :: []
def bs_221 : Tb := [
  (0, none, .aload 0 :: .invokevirtual 23177 :: .istore 2 :: .iload 2 :: .iconst 102 :: .if_icmp .eq 38 :: .iload 2 :: .iconst 110 :: .if_icmp .eq 38 :: .iload 2 :: .iconst 115 :: .if_icmp .eq 38 :: .iload 2 :: .iconst 121 :: .if_icmp .eq 38 :: .aload 0 :: .aload 0 :: .getfield 2352 :: .invokevirtual 23449 :: sg_221_0_1),
  (38, none, .aload 0 :: .dup :: .getfield 2352 :: .iconst 1 :: .iadd :: .putfield 2352 :: .aload 0 :: .getfield 2403 :: .iload 1 :: .iload 2 :: .iastore :: .aload 0 :: .getfield 2403 :: .iload 1 :: .iconst 1 :: .iadd :: .aload 0 :: .iconst 48 :: .iconst 10 :: .invokevirtual 23849 :: sg_221_38_1),
  (93, none, .iload 2 :: .iconst 115 :: .if_icmp .eq 105 :: .iload 2 :: .iconst 121 :: .if_icmp .ne 120 :: .aload 0 :: .getfield 2403 :: .iload 1 :: .iconst 2 :: .iadd :: .aload 0 :: .iconst 97 :: .iconst 4 :: .invokevirtual 23849 :: sg_221_93_1),
  (105, none, .aload 0 :: .getfield 2403 :: .iload 1 :: .iconst 2 :: .iadd :: .aload 0 :: .iconst 97 :: .iconst 4 :: .invokevirtual 23849 :: sg_221_105_1),
  (120, none, .iload 2 :: .iconst 115 :: .if_icmp .ne 144 :: .aload 0 :: .getfield 2403 :: .iload 1 :: .iconst 3 :: .iadd :: .aload 0 :: .iconst 49 :: .iconst 9 :: .invokevirtual 23849 :: sg_221_120_1),
  (144, none, .return_ :: [])]
theorem ts_221 : bs_221.all (fun q => chk 221 q.1 q.2.2) = true := by decide +kernel
/-- M.act -/
def sg_222_60_1 : List Instr := .iconst (-2) :: .if_icmp .eq 88 :: .iconst 1 :: .goto 89 :: []
def sg_222_90_1 : List Instr := .iconst 1 :: .freturn :: []
def sg_222_124_1 : List Instr := .iconst 1 :: .freturn :: []
def sg_222_154_1 : List Instr := .iconst 1 :: .freturn :: []
def bs_222 : Tb := [
  (0, none, .aload 0 :: .getfield 2403 :: .iload 1 :: .iconst 1 :: .iadd :: .iaload :: .istore 2 :: .aload 0 :: .getfield 2403 :: .iload 1 :: .iconst 2 :: .iadd :: .iaload :: .istore 3 :: .aload 0 :: .getfield 2403 :: .iload 1 :: .iaload :: .lookupswitch 143 #[(102, 60), (110, 90), (115, 101)] :: []),
  (60, none, .aload 0 :: .iload 2 :: .iload 3 :: .invokevirtual 22057 :: .ifCond .eq 88 :: .aload 0 :: .aload 0 :: .getfield 2307 :: .iload 2 :: .iload 3 :: .invokevirtual 26553 :: sg_222_60_1),
  (88, none, .iconst 0 :: .freturn :: []),
  (89, none, .freturn :: []),
  (90, none, .aload 0 :: .aload 0 :: .getfield 2307 :: .iload 2 :: .invokevirtual 27049 :: sg_222_90_1),
  (101, none, .aload 0 :: .aload 0 :: .getfield 2307 :: .iload 2 :: .iload 3 :: .aload 0 :: .getfield 2403 :: .iload 1 :: .iconst 3 :: .iadd :: .iaload :: .invokevirtual 27465 :: .ifCond .ge 124 :: .iconst 0 :: .freturn :: []),
  (124, none, .aload 0 :: .getfield 2307 :: .iload 2 :: .iload 3 :: .aload 0 :: .getfield 2403 :: .iload 1 :: .iconst 3 :: .iadd :: .iaload :: .invokestatic 27584 :: sg_222_124_1),
  (143, none, .aload 0 :: .iload 2 :: .iload 3 :: .invokevirtual 27817 :: .ifCond .ge 154 :: .iconst 0 :: .freturn :: []),
  (154, none, .aload 0 :: .iload 2 :: .iload 3 :: .invokevirtual 27945 :: sg_222_154_1)]
theorem ts_222 : bs_222.all (fun q => chk 222 q.1 q.2.2) = true := by decide +kernel
/-- M.fleet -/
def sg_224_70_2 : List Instr := .iload 2 :: .ireturn :: []
def sg_224_70_1 : List Instr := .aload 0 :: .aload 0 :: .aload 0 :: .getfield 2307 :: .iload 1 :: .invokevirtual 27177 :: .i2l :: .invokevirtual 21785 :: sg_224_70_2
def bs_224 : Tb := [
  (0, none, .aload 0 :: .iconst 0 :: .putfield 2336 :: .iload 1 :: .invokestatic 22160 :: .ifCond .ne 14 :: .iconst (-1) :: .ireturn :: []),
  (14, none, .iconst 0 :: .istore 2 :: .iconst 0 :: .istore 3 :: .iconst 0 :: .istore 4 :: .goto_w 21 :: []),
  (21, some [0, 1, 2, 3, 4], .iload 4 :: .aload 0 :: .getfield 2308 :: .if_icmp .ge 70 :: .aload 0 :: .getfield 2307 :: .iconst 6 :: .iload 4 :: .iadd :: .iaload :: .iload 1 :: .if_icmp .eq 47 :: .goto 64 :: []),
  (47, none, .iload 2 :: .iconst 1 :: .iload 4 :: .ishl :: .ior :: .istore 2 :: .iload 3 :: .aload 0 :: .getfield 2307 :: .iload 4 :: .iaload :: .iadd :: .istore 3 :: .iinc 4 1 :: .goto 21 :: []),
  (64, none, .iinc 4 1 :: .goto 21 :: []),
  (70, none, .aload 0 :: .iconst 0 :: .putfield 2332 :: .aload 0 :: .iload 3 :: .i2l :: .invokevirtual 21785 :: sg_224_70_1)]
theorem ts_224 : bs_224.all (fun q => chk 224 q.1 q.2.2) = true := by decide +kernel
/-- M.tellPart -/
def sg_226_0_2 : List Instr := .return_ :: []
def sg_226_0_1 : List Instr := .aload 0 :: .lload 3 :: .lload 5 :: .ldiv :: .invokevirtual 21785 :: sg_226_0_2
def bs_226 : Tb := [
  (0, none, .lload 1 :: .lload 3 :: .invokestatic 28832 :: .lstore 5 :: .aload 0 :: .iconst 0 :: .putfield 2332 :: .aload 0 :: .lload 1 :: .lload 5 :: .ldiv :: .invokevirtual 21785 :: sg_226_0_1)]
theorem ts_226 : bs_226.all (fun q => chk 226 q.1 q.2.2) = true := by decide +kernel
/-- M.share -/
def sg_227_21_1 : List Instr := .iconst 0 :: .ireturn :: []
def bs_227 : Tb := [
  (0, none, .aload 0 :: .iconst 0 :: .putfield 2336 :: .iload 1 :: .invokestatic 22160 :: .ifCond .eq 19 :: .aload 0 :: .getfield 2308 :: .ifCond .ne 21 :: .iconst (-1) :: .ireturn :: []),
  (19, none, .iconst (-1) :: .ireturn :: []),
  (21, none, .aload 0 :: .aload 0 :: .aload 0 :: .getfield 2307 :: .iload 1 :: .invokevirtual 27177 :: .i2l :: .iconst 12 :: .aload 0 :: .getfield 2308 :: .imul :: .i2l :: .invokevirtual 28969 :: sg_227_21_1)]
theorem ts_227 : bs_227.all (fun q => chk 227 q.1 q.2.2) = true := by decide +kernel
/-- M.later -/
def sg_228_25_2 : List Instr := .aload 0 :: .iconst 0 :: .putfield 2332 :: .iconst 0 :: .istore 3 :: .goto_w 53 :: []
def sg_228_25_1 : List Instr := .aload 0 :: .aload 0 :: .getfield 2399 :: .iload 2 :: .invokevirtual 27049 :: sg_228_25_2
def sg_228_53_1 : List Instr := .iinc 3 1 :: .goto 53 :: []
def bs_228 : Tb := [
  (0, none, .aload 0 :: .iconst 0 :: .putfield 2336 :: .aload 0 :: .iload 1 :: .invokevirtual 21913 :: .ifCond .eq 23 :: .iload 2 :: .iconst 0 :: .iconst 99 :: .invokestatic 21424 :: .ifCond .ne 25 :: .iconst (-1) :: .ireturn :: []),
  (23, none, .iconst (-1) :: .ireturn :: []),
  (25, none, .aload 0 :: .getfield 2307 :: .aload 0 :: .getfield 2399 :: .iconst 0 :: .invokestatic 26032 :: sg_228_25_1),
  (53, some [0, 1, 3], .iload 3 :: .iconst 4 :: .if_icmp .ge 78 :: .aload 0 :: .aload 0 :: .getfield 2399 :: .iload 1 :: .iload 3 :: .invokestatic 22448 :: .i2l :: .invokevirtual 21785 :: sg_228_53_1),
  (78, none, .aload 0 :: .getfield 2399 :: .iconst 6 :: .iload 1 :: .iadd :: .iaload :: .ireturn :: [])]
theorem ts_228 : bs_228.all (fun q => chk 228 q.1 q.2.2) = true := by decide +kernel
/-- M.whole -/
def sg_230_15_1 : List Instr := .iconst 0 :: .istore 2 :: .goto_w 29 :: []
def sg_230_29_1 : List Instr := .iinc 2 1 :: .goto 29 :: []
def sg_230_55_1 : List Instr := .iload 2 :: .ireturn :: []
def bs_230 : Tb := [
  (0, none, .aload 0 :: .iconst 0 :: .putfield 2336 :: .aload 0 :: .iload 1 :: .invokevirtual 21913 :: .ifCond .ne 15 :: .iconst (-1) :: .ireturn :: []),
  (15, none, .aload 0 :: .getfield 2307 :: .aload 0 :: .getfield 2399 :: .iconst 0 :: .invokestatic 26032 :: sg_230_15_1),
  (29, some [0, 1, 2], .aload 0 :: .getfield 2399 :: .iload 1 :: .invokestatic 29344 :: .iconst (-1) :: .if_icmp .ne 55 :: .aload 0 :: .aload 0 :: .getfield 2399 :: .invokevirtual 26905 :: sg_230_29_1),
  (55, none, .aload 0 :: .iconst 0 :: .putfield 2332 :: .aload 0 :: .aload 0 :: .getfield 2399 :: .iload 1 :: .invokestatic 29344 :: .i2l :: .invokevirtual 21785 :: sg_230_55_1)]
theorem ts_230 : bs_230.all (fun q => chk 230 q.1 q.2.2) = true := by decide +kernel
/-- M.sisters -/
def sg_231_129_2 : List Instr := .iload 1 :: .ireturn :: []
def sg_231_129_1 : List Instr := .aload 0 :: .iload 3 :: .i2l :: .invokevirtual 21785 :: sg_231_129_2
def bs_231 : Tb := [
  (0, none, .aload 0 :: .iconst 0 :: .putfield 2336 :: .iconst 1000000 :: .istore 1 :: .iconst (-1) :: .istore 2 :: .iconst (-1) :: .istore 3 :: .iconst 0 :: .istore 4 :: .goto_w 16 :: []),
  (16, some [0, 1, 2, 3, 4], .iload 4 :: .aload 0 :: .getfield 2308 :: .if_icmp .ge 119 :: .iload 4 :: .iconst 1 :: .iadd :: .istore 5 :: .goto_w 31 :: []),
  (31, some [0, 1, 2, 3, 4, 5], .iload 5 :: .aload 0 :: .getfield 2308 :: .if_icmp .ge 113 :: .iconst 0 :: .istore 6 :: .iconst 0 :: .istore 7 :: .goto_w 46 :: []),
  (46, some [0, 1, 2, 3, 4, 5, 6, 7], .iload 7 :: .iconst 4 :: .if_icmp .ge 89 :: .iload 6 :: .aload 0 :: .getfield 2307 :: .iload 4 :: .iload 7 :: .invokestatic 22448 :: .aload 0 :: .getfield 2307 :: .iload 5 :: .iload 7 :: .invokestatic 22448 :: .isub :: .invokestatic 36752 :: .iadd :: .istore 6 :: .iinc 7 1 :: .goto 46 :: []),
  (89, none, .iload 6 :: .iload 1 :: .if_icmp .lt 98 :: .goto 107 :: []),
  (98, none, .iload 6 :: .istore 1 :: .iload 4 :: .istore 2 :: .iload 5 :: .istore 3 :: .iinc 5 1 :: .goto 31 :: []),
  (107, none, .iinc 5 1 :: .goto 31 :: []),
  (113, none, .iinc 4 1 :: .goto 16 :: []),
  (119, none, .iload 1 :: .iconst 1000000 :: .if_icmp .ne 129 :: .iconst (-2) :: .ireturn :: []),
  (129, none, .aload 0 :: .iconst 0 :: .putfield 2332 :: .aload 0 :: .iload 2 :: .i2l :: .invokevirtual 21785 :: sg_231_129_1)]
theorem ts_231 : bs_231.all (fun q => chk 231 q.1 q.2.2) = true := by decide +kernel
/-- M.motley -/
def sg_232_106_2 : List Instr := .iload 1 :: .ireturn :: []
def sg_232_106_1 : List Instr := .aload 0 :: .iload 2 :: .i2l :: .invokevirtual 21785 :: sg_232_106_2
def bs_232 : Tb := [
  (0, none, .aload 0 :: .iconst 0 :: .putfield 2336 :: .aload 0 :: .getfield 2308 :: .ifCond .ne 15 :: .iconst (-2) :: .ireturn :: []),
  (15, none, .iconst 0 :: .istore 1 :: .iconst 1 :: .istore 2 :: .goto_w 19 :: []),
  (19, some [0, 1, 2], .iload 2 :: .aload 0 :: .getfield 2308 :: .if_icmp .ge 58 :: .aload 0 :: .getfield 2307 :: .iload 2 :: .invokestatic 22560 :: .aload 0 :: .getfield 2307 :: .iload 1 :: .invokestatic 22560 :: .if_icmp .ge 50 :: .iload 2 :: .goto 51 :: []),
  (50, none, .iload 1 :: .istore 1 :: .iinc 2 1 :: .goto 19 :: []),
  (51, none, .istore 1 :: .iinc 2 1 :: .goto 19 :: []),
  (58, none, .iconst 0 :: .istore 2 :: .iconst 0 :: .istore 3 :: .goto_w 62 :: []),
  (62, some [0, 1, 2, 3], .iload 3 :: .iconst 4 :: .if_icmp .ge 106 :: .iload 2 :: .iload 3 :: .aload 0 :: .getfield 2307 :: .iconst 6 :: .iload 1 :: .iadd :: .iaload :: .if_icmp .eq 97 :: .aload 0 :: .getfield 2307 :: .iload 1 :: .iload 3 :: .invokestatic 22448 :: .ifCond .le 97 :: .iconst 1 :: .goto 98 :: []),
  (97, none, .iconst 0 :: .iadd :: .istore 2 :: .iinc 3 1 :: .goto 62 :: []),
  (98, none, .iadd :: .istore 2 :: .iinc 3 1 :: .goto 62 :: []),
  (106, none, .aload 0 :: .iconst 0 :: .putfield 2332 :: .aload 0 :: .iconst 12 :: .aload 0 :: .getfield 2307 :: .iload 1 :: .invokestatic 22560 :: .isub :: .i2l :: .invokevirtual 21785 :: sg_232_106_1)]
theorem ts_232 : bs_232.all (fun q => chk 232 q.1 q.2.2) = true := by decide +kernel
/-- M.order -/
def sg_233_57_1 : List Instr := .iload 2 :: .iload 3 :: .ifCond .le 73 :: .iconst 1 :: .goto 74 :: []
def bs_233 : Tb := [
  (0, none, .aload 0 :: .iconst 0 :: .putfield 2336 :: .iload 1 :: .invokestatic 22160 :: .ifCond .ne 14 :: .iconst (-1) :: .ireturn :: []),
  (14, none, .iconst 0 :: .istore 2 :: .aload 0 :: .iconst 0 :: .putfield 2332 :: .iconst 12 :: .istore 3 :: .goto_w 24 :: []),
  (24, some [0, 1, 2, 3], .iload 3 :: .ifCond .lt 88 :: .iconst 0 :: .istore 4 :: .goto_w 31 :: []),
  (31, some [0, 1, 2, 3, 4], .iload 4 :: .aload 0 :: .getfield 2308 :: .if_icmp .ge 82 :: .aload 0 :: .getfield 2307 :: .iload 4 :: .iload 1 :: .invokestatic 22448 :: .iload 3 :: .if_icmp .eq 57 :: .goto 76 :: []),
  (57, none, .aload 0 :: .iload 4 :: .i2l :: .invokevirtual 21785 :: sg_233_57_1),
  (73, none, .iconst 0 :: .iadd :: .istore 2 :: .iinc 4 1 :: .goto 31 :: []),
  (74, none, .iadd :: .istore 2 :: .iinc 4 1 :: .goto 31 :: []),
  (76, none, .iinc 4 1 :: .goto 31 :: []),
  (82, none, .iinc 3 (-1) :: .goto 24 :: []),
  (88, none, .iload 2 :: .ireturn :: [])]
theorem ts_233 : bs_233.all (fun q => chk 233 q.1 q.2.2) = true := by decide +kernel
/-- M.rivals -/
def sg_234_45_1 : List Instr := .istore 6 :: .iload 2 :: .iload 6 :: .iload 1 :: .if_icmp .ne 72 :: .iconst 1 :: .iload 5 :: .ishl :: .goto 73 :: []
def sg_234_119_2 : List Instr := .iload 2 :: .ireturn :: []
def sg_234_119_1 : List Instr := .aload 0 :: .iload 4 :: .i2l :: .invokevirtual 21785 :: sg_234_119_2
def bs_234 : Tb := [
  (0, none, .aload 0 :: .iconst 0 :: .putfield 2336 :: .aload 0 :: .iload 1 :: .invokevirtual 21913 :: .ifCond .ne 15 :: .iconst (-1) :: .ireturn :: []),
  (15, none, .iconst 0 :: .istore 2 :: .iconst 0 :: .istore 3 :: .iconst 0 :: .istore 4 :: .iconst 0 :: .istore 5 :: .goto_w 25 :: []),
  (25, some [0, 1, 2, 3, 4, 5], .iload 5 :: .aload 0 :: .getfield 2308 :: .if_icmp .ge 119 :: .iload 5 :: .iload 1 :: .if_icmp .ne 45 :: .iconst (-2) :: .goto 56 :: []),
  (45, none, .aload 0 :: .aload 0 :: .getfield 2307 :: .iload 1 :: .iload 5 :: .invokevirtual 26425 :: sg_234_45_1),
  (56, none, .istore 6 :: .iload 2 :: .iload 6 :: .iload 1 :: .if_icmp .ne 72 :: .iconst 1 :: .iload 5 :: .ishl :: .goto 73 :: []),
  (72, none, .iconst 0 :: .ior :: .istore 2 :: .iload 3 :: .iload 6 :: .iload 5 :: .if_icmp .ne 90 :: .iconst 1 :: .iload 5 :: .ishl :: .goto 91 :: []),
  (73, none, .ior :: .istore 2 :: .iload 3 :: .iload 6 :: .iload 5 :: .if_icmp .ne 90 :: .iconst 1 :: .iload 5 :: .ishl :: .goto 91 :: []),
  (90, none, .iconst 0 :: .ior :: .istore 3 :: .iload 4 :: .iload 6 :: .iconst (-3) :: .if_icmp .ne 109 :: .iconst 1 :: .iload 5 :: .ishl :: .goto 110 :: []),
  (91, none, .ior :: .istore 3 :: .iload 4 :: .iload 6 :: .iconst (-3) :: .if_icmp .ne 109 :: .iconst 1 :: .iload 5 :: .ishl :: .goto 110 :: []),
  (109, none, .iconst 0 :: .ior :: .istore 4 :: .iinc 5 1 :: .goto 25 :: []),
  (110, none, .ior :: .istore 4 :: .iinc 5 1 :: .goto 25 :: []),
  (119, none, .aload 0 :: .iconst 0 :: .putfield 2332 :: .aload 0 :: .iload 3 :: .i2l :: .invokevirtual 21785 :: sg_234_119_1)]
theorem ts_234 : bs_234.all (fun q => chk 234 q.1 q.2.2) = true := by decide +kernel
/-- M.duel -/
def sg_235_26_1 : List Instr := .iconst 0 :: .istore 4 :: .iconst 0 :: .istore 5 :: .iconst 1 :: .istore 6 :: .goto_w 47 :: []
def sg_235_47_1 : List Instr := .istore 7 :: .iload 7 :: .ifCond .lt 79 :: .iconst 1 :: .goto 80 :: []
def sg_235_105_1 : List Instr := .goto 47 :: []
def sg_235_106_1 : List Instr := .goto 47 :: []
def sg_235_120_3 : List Instr := .iload 4 :: .ireturn :: []
def sg_235_120_2 : List Instr := .aload 0 :: .aload 0 :: .getfield 2399 :: .iconst 6 :: .iload 2 :: .iadd :: .iaload :: .i2l :: .invokevirtual 21785 :: sg_235_120_3
def sg_235_120_1 : List Instr := .aload 0 :: .aload 0 :: .getfield 2399 :: .iconst 6 :: .iload 1 :: .iadd :: .iaload :: .i2l :: .invokevirtual 21785 :: sg_235_120_2
def bs_235 : Tb := [
  (0, none, .aload 0 :: .iconst 0 :: .putfield 2336 :: .aload 0 :: .iload 1 :: .iload 2 :: .invokevirtual 22057 :: .ifCond .eq 24 :: .iload 3 :: .iconst 1 :: .iconst 20 :: .invokestatic 21424 :: .ifCond .ne 26 :: .iconst (-1) :: .ireturn :: []),
  (24, none, .iconst (-1) :: .ireturn :: []),
  (26, none, .aload 0 :: .getfield 2307 :: .aload 0 :: .getfield 2399 :: .iconst 0 :: .invokestatic 26032 :: sg_235_26_1),
  (47, some [0, 1, 2, 3, 4, 5, 6], .iload 6 :: .ifCond .eq 120 :: .iload 4 :: .iload 3 :: .if_icmp .ge 120 :: .aload 0 :: .aload 0 :: .getfield 2399 :: .iload 1 :: .iload 2 :: .invokevirtual 26553 :: sg_235_47_1),
  (79, none, .iconst 0 :: .istore 6 :: .iload 6 :: .ifCond .ne 90 :: .goto 47 :: []),
  (80, none, .istore 6 :: .iload 6 :: .ifCond .ne 90 :: .goto 47 :: []),
  (90, none, .iinc 4 1 :: .iload 5 :: .iload 7 :: .iload 1 :: .if_icmp .ne 105 :: .iconst 1 :: .goto 106 :: []),
  (105, none, .iconst 0 :: .iadd :: .istore 5 :: .aload 0 :: .aload 0 :: .getfield 2399 :: .invokevirtual 26905 :: sg_235_105_1),
  (106, none, .iadd :: .istore 5 :: .aload 0 :: .aload 0 :: .getfield 2399 :: .invokevirtual 26905 :: sg_235_106_1),
  (120, none, .aload 0 :: .iconst 0 :: .putfield 2332 :: .aload 0 :: .iload 5 :: .i2l :: .invokevirtual 21785 :: sg_235_120_1)]
theorem ts_235 : bs_235.all (fun q => chk 235 q.1 q.2.2) = true := by decide +kernel
/-- M.tempts -/
def sg_236_35_2 : List Instr := .aload 0 :: .getfield 2399 :: .iconst 6 :: .iload 4 :: .iadd :: .iaload :: .iload 1 :: .if_icmp .eq 98 :: .goto 104 :: []
def sg_236_35_1 : List Instr := .aload 0 :: .getfield 2399 :: .iload 4 :: .iload 1 :: .iload 5 :: .invokestatic 27584 :: sg_236_35_2
def sg_236_124_1 : List Instr := .iload 2 :: .ireturn :: []
def bs_236 : Tb := [
  (0, none, .aload 0 :: .iconst 0 :: .putfield 2336 :: .iload 1 :: .invokestatic 22160 :: .ifCond .ne 14 :: .iconst (-1) :: .ireturn :: []),
  (14, none, .iconst 1000000 :: .istore 2 :: .iconst (-1) :: .istore 3 :: .iconst 0 :: .istore 4 :: .goto_w 23 :: []),
  (23, some [0, 1, 2, 3, 4], .iload 4 :: .aload 0 :: .getfield 2308 :: .if_icmp .ge 116 :: .iconst 1 :: .istore 5 :: .goto_w 35 :: []),
  (35, some [0, 1, 2, 3, 4, 5], .iload 5 :: .iload 2 :: .if_icmp .ge 110 :: .aload 0 :: .aload 0 :: .getfield 2307 :: .iload 4 :: .iload 1 :: .iload 5 :: .invokevirtual 27465 :: .ifCond .ne 110 :: .aload 0 :: .getfield 2307 :: .aload 0 :: .getfield 2399 :: .iconst 0 :: .invokestatic 26032 :: sg_236_35_1),
  (98, none, .iload 5 :: .istore 2 :: .iload 4 :: .istore 3 :: .iinc 5 1 :: .goto 35 :: []),
  (104, none, .iinc 5 1 :: .goto 35 :: []),
  (110, none, .iinc 4 1 :: .goto 23 :: []),
  (116, none, .iload 3 :: .iconst (-1) :: .if_icmp .ne 124 :: .iconst (-2) :: .ireturn :: []),
  (124, none, .aload 0 :: .iconst 0 :: .putfield 2332 :: .aload 0 :: .iload 3 :: .i2l :: .invokevirtual 21785 :: sg_236_124_1)]
theorem ts_236 : bs_236.all (fun q => chk 236 q.1 q.2.2) = true := by decide +kernel
/-- M.wins -/
def sg_237_16_2 : List Instr := .istore 3 :: .iload 3 :: .ifCond .ge 45 :: .iload 3 :: .ireturn :: []
def sg_237_16_1 : List Instr := .aload 0 :: .aload 0 :: .getfield 2399 :: .iload 1 :: .iload 2 :: .invokevirtual 26553 :: sg_237_16_2
def sg_237_45_2 : List Instr := .iload 3 :: .ireturn :: []
def sg_237_45_1 : List Instr := .aload 0 :: .aload 0 :: .getfield 2399 :: .iconst 6 :: .iload 2 :: .iadd :: .iaload :: .i2l :: .invokevirtual 21785 :: sg_237_45_2
def bs_237 : Tb := [
  (0, none, .aload 0 :: .iconst 0 :: .putfield 2336 :: .aload 0 :: .iload 1 :: .iload 2 :: .invokevirtual 22057 :: .ifCond .ne 16 :: .iconst (-1) :: .ireturn :: []),
  (16, none, .aload 0 :: .getfield 2307 :: .aload 0 :: .getfield 2399 :: .iconst 0 :: .invokestatic 26032 :: sg_237_16_1),
  (45, none, .aload 0 :: .iconst 0 :: .putfield 2332 :: .aload 0 :: .aload 0 :: .getfield 2399 :: .iconst 6 :: .iload 1 :: .iadd :: .iaload :: .i2l :: .invokevirtual 21785 :: sg_237_45_1)]
theorem ts_237 : bs_237.all (fun q => chk 237 q.1 q.2.2) = true := by decide +kernel
/-- M.suits -/
def sg_238_31_2 : List Instr := .ifCond .lt 103 :: .aload 0 :: .getfield 2399 :: .iload 1 :: .iload 2 :: .invokestatic 22448 :: .iload 4 :: .if_icmp .gt 89 :: .goto 103 :: []
def sg_238_31_1 : List Instr := .iload 5 :: .iload 1 :: .if_icmp .eq 103 :: .aload 0 :: .aload 0 :: .getfield 2399 :: .iload 1 :: .iload 5 :: .invokevirtual 26553 :: sg_238_31_2
def sg_238_118_1 : List Instr := .iload 3 :: .ireturn :: []
def bs_238 : Tb := [
  (0, none, .aload 0 :: .iconst 0 :: .putfield 2336 :: .aload 0 :: .iload 1 :: .invokevirtual 21913 :: .ifCond .eq 20 :: .iload 2 :: .invokestatic 22160 :: .ifCond .ne 22 :: .iconst (-1) :: .ireturn :: []),
  (20, none, .iconst (-1) :: .ireturn :: []),
  (22, none, .iconst (-2) :: .istore 3 :: .iconst (-1) :: .istore 4 :: .iconst 0 :: .istore 5 :: .goto_w 31 :: []),
  (31, some [0, 1, 2, 3, 4, 5], .iload 5 :: .aload 0 :: .getfield 2308 :: .if_icmp .ge 109 :: .aload 0 :: .getfield 2307 :: .aload 0 :: .getfield 2399 :: .iconst 0 :: .invokestatic 26032 :: sg_238_31_1),
  (89, none, .iload 5 :: .istore 3 :: .aload 0 :: .getfield 2399 :: .iload 1 :: .iload 2 :: .invokestatic 22448 :: .istore 4 :: .iinc 5 1 :: .goto 31 :: []),
  (103, none, .iinc 5 1 :: .goto 31 :: []),
  (109, none, .iload 3 :: .iconst (-2) :: .if_icmp .ne 118 :: .iconst (-2) :: .ireturn :: []),
  (118, none, .aload 0 :: .iconst 0 :: .putfield 2332 :: .aload 0 :: .iload 4 :: .i2l :: .invokevirtual 21785 :: sg_238_118_1)]
theorem ts_238 : bs_238.all (fun q => chk 238 q.1 q.2.2) = true := by decide +kernel
/-- M.canBe -/
def sg_241_0_1 : List Instr := .iload 1 :: .iload 2 :: .if_icmp .ne 18 :: .aload 0 :: .iload 3 :: .iload 4 :: .invokevirtual 30761 :: .freturn :: []
def sg_241_36_2 : List Instr := .ifCond .ge 68 :: .goto 123 :: []
def sg_241_36_1 : List Instr := .aload 0 :: .aload 0 :: .getfield 2415 :: .iload 5 :: .iload 6 :: .invokevirtual 26553 :: sg_241_36_2
def sg_241_68_2 : List Instr := .ifCond .eq 123 :: .iconst 1 :: .freturn :: []
def sg_241_68_1 : List Instr := .aload 0 :: .getfield 2411 :: .iconst 2 :: .iload 1 :: .imul :: .iload 5 :: .iastore :: .aload 0 :: .getfield 2411 :: .iconst 2 :: .iload 1 :: .imul :: .iconst 1 :: .iadd :: .iload 6 :: .iastore :: .aload 0 :: .iload 1 :: .iconst 1 :: .iadd :: .iload 2 :: .iload 3 :: .iload 4 :: .invokevirtual 30921 :: sg_241_68_2
def bs_241 : Tb := [
  (0, none, .aload 0 :: .iload 1 :: .invokevirtual 30617 :: sg_241_0_1),
  (18, none, .iconst 0 :: .istore 5 :: .goto_w 21 :: []),
  (21, some [0, 1, 2, 3, 4, 5], .iload 5 :: .aload 0 :: .getfield 2308 :: .if_icmp .ge 135 :: .iload 5 :: .iconst 1 :: .iadd :: .istore 6 :: .goto_w 36 :: []),
  (36, some [0, 1, 2, 3, 4, 5, 6], .iload 6 :: .aload 0 :: .getfield 2308 :: .if_icmp .ge 129 :: .aload 0 :: .iload 1 :: .invokevirtual 30617 :: sg_241_36_1),
  (68, none, .aload 0 :: .getfield 2415 :: .aload 0 :: .getfield 2407 :: .iconst 50 :: .iload 1 :: .iconst 1 :: .iadd :: .imul :: .invokestatic 26032 :: sg_241_68_1),
  (123, none, .iinc 6 1 :: .goto 36 :: []),
  (129, none, .iinc 5 1 :: .goto 21 :: []),
  (135, none, .iconst 0 :: .freturn :: [])]
theorem ts_241 : bs_241.all (fun q => chk 241 q.1 q.2.2) = true := by decide +kernel
/-- M.fewest -/
def sg_242_0_1 : List Instr := .iconst 0 :: .istore 3 :: .goto_w 14 :: []
def sg_242_14_1 : List Instr := .ifCond .ne 33 :: .goto 69 :: []
def sg_242_41_1 : List Instr := .iinc 4 1 :: .goto 41 :: []
def bs_242 : Tb := [
  (0, none, .aload 0 :: .getfield 2307 :: .aload 0 :: .getfield 2407 :: .iconst 0 :: .invokestatic 26032 :: sg_242_0_1),
  (14, some [0, 1, 2, 3], .iload 3 :: .iconst 3 :: .if_icmp .gt 75 :: .aload 0 :: .iconst 0 :: .iload 3 :: .iload 1 :: .iload 2 :: .invokevirtual 30921 :: sg_242_14_1),
  (33, none, .aload 0 :: .iconst 0 :: .putfield 2332 :: .iconst 0 :: .istore 4 :: .goto_w 41 :: []),
  (41, some [0, 3, 4], .iload 4 :: .iconst 2 :: .iload 3 :: .imul :: .if_icmp .ge 67 :: .aload 0 :: .aload 0 :: .getfield 2411 :: .iload 4 :: .iaload :: .i2l :: .invokevirtual 21785 :: sg_242_41_1),
  (67, none, .iload 3 :: .ireturn :: []),
  (69, none, .iinc 3 1 :: .goto 14 :: []),
  (75, none, .iconst (-2) :: .ireturn :: [])]
theorem ts_242 : bs_242.all (fun q => chk 242 q.1 q.2.2) = true := by decide +kernel
/-- M.goesOver -/
def sg_243_0_1 : List Instr := .goto 30 :: []
def bs_243 : Tb := [
  (0, none, .aload 0 :: .iconst 0 :: .putfield 2336 :: .aload 0 :: .iload 1 :: .invokevirtual 21913 :: .ifCond .eq 29 :: .iload 2 :: .invokestatic 22160 :: .ifCond .eq 29 :: .aload 0 :: .iload 1 :: .iload 2 :: .invokevirtual 31017 :: sg_243_0_1),
  (29, none, .iconst (-1) :: .ireturn :: []),
  (30, none, .ireturn :: [])]
theorem ts_243 : bs_243.all (fun q => chk 243 q.1 q.2.2) = true := by decide +kernel
/-- M.peace -/
def sg_244_0_1 : List Instr := .ireturn :: []
def bs_244 : Tb := [
  (0, none, .aload 0 :: .iconst 0 :: .putfield 2336 :: .aload 0 :: .iconst (-1) :: .iconst 0 :: .invokevirtual 31017 :: sg_244_0_1)]
theorem ts_244 : bs_244.all (fun q => chk 244 q.1 q.2.2) = true := by decide +kernel
/-- M.goRound -/
def sg_245_14_1 : List Instr := .ifCond .lt 33 :: .return_ :: []
def bs_245 : Tb := [
  (0, none, .iconst 0 :: .istore 2 :: .goto_w 2 :: []),
  (2, some [0, 1, 2], .iload 2 :: .aload 0 :: .getfield 2308 :: .if_icmp .ge 45 :: .iload 2 :: .iconst 1 :: .iadd :: .istore 3 :: .goto_w 14 :: []),
  (14, some [0, 1, 2, 3], .iload 3 :: .aload 0 :: .getfield 2308 :: .if_icmp .ge 39 :: .aload 0 :: .aload 1 :: .iload 2 :: .iload 3 :: .invokevirtual 26553 :: sg_245_14_1),
  (33, none, .iinc 3 1 :: .goto 14 :: []),
  (39, none, .iinc 2 1 :: .goto 2 :: []),
  (45, none, .return_ :: [])]
theorem ts_245 : bs_245.all (fun q => chk 245 q.1 q.2.2) = true := by decide +kernel
/-- M.campaign -/
def sg_246_17_1 : List Instr := .aload 0 :: .getfield 2399 :: .iconst 49 :: .iconst 0 :: .iastore :: .iconst 0 :: .istore 2 :: .goto_w 39 :: []
def sg_246_39_2 : List Instr := .iinc 2 1 :: .goto 39 :: []
def sg_246_39_1 : List Instr := .aload 0 :: .aload 0 :: .getfield 2399 :: .invokevirtual 26905 :: sg_246_39_2
def sg_246_73_1 : List Instr := .iinc 2 1 :: .goto 73 :: []
def bs_246 : Tb := [
  (0, none, .aload 0 :: .iconst 0 :: .putfield 2336 :: .iload 1 :: .iconst 0 :: .iconst 40 :: .invokestatic 21424 :: .ifCond .ne 17 :: .iconst (-1) :: .ireturn :: []),
  (17, none, .aload 0 :: .getfield 2307 :: .aload 0 :: .getfield 2399 :: .iconst 0 :: .invokestatic 26032 :: sg_246_17_1),
  (39, some [0, 1, 2], .iload 2 :: .iload 1 :: .if_icmp .ge 66 :: .aload 0 :: .aload 0 :: .getfield 2399 :: .invokevirtual 31385 :: sg_246_39_1),
  (66, none, .aload 0 :: .iconst 0 :: .putfield 2332 :: .iconst 0 :: .istore 2 :: .goto_w 73 :: []),
  (73, some [0, 2], .iload 2 :: .aload 0 :: .getfield 2308 :: .if_icmp .ge 101 :: .aload 0 :: .aload 0 :: .getfield 2399 :: .iconst 6 :: .iload 2 :: .iadd :: .iaload :: .i2l :: .invokevirtual 21785 :: sg_246_73_1),
  (101, none, .aload 0 :: .getfield 2399 :: .iconst 49 :: .iaload :: .ireturn :: [])]
theorem ts_246 : bs_246.all (fun q => chk 246 q.1 q.2.2) = true := by decide +kernel
/-- M.halves -/
def sg_247_121_1 : List Instr := .iload 2 :: .invokestatic 36496 :: .ireturn :: []
def bs_247 : Tb := [
  (0, none, .aload 0 :: .iconst 0 :: .putfield 2336 :: .iload 1 :: .invokestatic 22160 :: .ifCond .ne 14 :: .iconst (-1) :: .ireturn :: []),
  (14, none, .iconst (-1) :: .istore 2 :: .iconst 1 :: .istore 3 :: .goto_w 18 :: []),
  (18, some [0, 1, 2, 3], .iload 3 :: .aload 0 :: .invokevirtual 22281 :: .if_icmp .gt 113 :: .iconst 0 :: .istore 4 :: .iconst 0 :: .istore 5 :: .goto_w 32 :: []),
  (32, some [0, 1, 2, 3, 4, 5], .iload 5 :: .aload 0 :: .getfield 2308 :: .if_icmp .ge 75 :: .iload 4 :: .iload 3 :: .iload 5 :: .invokestatic 21536 :: .ifCond .eq 65 :: .aload 0 :: .getfield 2307 :: .iload 5 :: .iload 1 :: .invokestatic 22448 :: .goto 66 :: []),
  (65, none, .iconst 0 :: .iadd :: .istore 4 :: .iinc 5 1 :: .goto 32 :: []),
  (66, none, .iadd :: .istore 4 :: .iinc 5 1 :: .goto 32 :: []),
  (75, none, .iconst 2 :: .iload 4 :: .imul :: .iconst 12 :: .iload 3 :: .invokestatic 36496 :: .imul :: .if_icmp .ne 107 :: .iload 2 :: .iconst (-1) :: .if_icmp .eq 105 :: .iload 3 :: .invokestatic 36496 :: .iload 2 :: .invokestatic 36496 :: .if_icmp .ge 107 :: .iload 3 :: .istore 2 :: .iinc 3 1 :: .goto 18 :: []),
  (105, none, .iload 3 :: .istore 2 :: .iinc 3 1 :: .goto 18 :: []),
  (107, none, .iinc 3 1 :: .goto 18 :: []),
  (113, none, .iload 2 :: .iconst (-1) :: .if_icmp .ne 121 :: .iconst (-2) :: .ireturn :: []),
  (121, none, .aload 0 :: .iconst 0 :: .putfield 2332 :: .aload 0 :: .iload 2 :: .i2l :: .invokevirtual 21785 :: sg_247_121_1)]
theorem ts_247 : bs_247.all (fun q => chk 247 q.1 q.2.2) = true := by decide +kernel
end
section
/-! code lists in pieces, cut behind calls that change memory -/
/-- M.evens -/
def sg_249_61_1 : List Instr := .iconst 2 :: .aload 0 :: .iload 2 :: .invokevirtual 31769 :: .imul :: .iload 1 :: .isub :: .invokestatic 36752 :: .ireturn :: []
def bs_249 : Tb := [
  (0, none, .aload 0 :: .iconst 0 :: .putfield 2336 :: .aload 0 :: .aload 0 :: .invokevirtual 22281 :: .invokevirtual 31769 :: .istore 1 :: .iconst 0 :: .istore 2 :: .iconst 2 :: .istore 3 :: .goto_w 18 :: []),
  (18, some [0, 1, 2, 3], .iload 3 :: .aload 0 :: .invokevirtual 22281 :: .if_icmp .gt 61 :: .iconst 2 :: .aload 0 :: .iload 3 :: .invokevirtual 31769 :: .imul :: .iload 1 :: .isub :: .invokestatic 36752 :: .iconst 2 :: .aload 0 :: .iload 2 :: .invokevirtual 31769 :: .imul :: .iload 1 :: .isub :: .invokestatic 36752 :: .if_icmp .ge 55 :: .iload 3 :: .istore 2 :: .iinc 3 2 :: .goto 18 :: []),
  (55, none, .iinc 3 2 :: .goto 18 :: []),
  (61, none, .aload 0 :: .iconst 0 :: .putfield 2332 :: .aload 0 :: .iload 2 :: .i2l :: .invokevirtual 21785 :: sg_249_61_1)]
theorem ts_249 : bs_249.all (fun q => chk 249 q.1 q.2.2) = true := by decide +kernel
/-- M.worth -/
def sg_251_111_1 : List Instr := .iconst 0 :: .ireturn :: []
def bs_251 : Tb := [
  (0, none, .aload 0 :: .iconst 0 :: .putfield 2336 :: .aload 0 :: .iload 1 :: .invokevirtual 21913 :: .ifCond .ne 15 :: .iconst (-1) :: .ireturn :: []),
  (15, none, .aload 0 :: .aload 0 :: .invokevirtual 22281 :: .invokevirtual 31769 :: .istore 2 :: .ldc2_w 0 :: .lstore 3 :: .iconst 0 :: .istore 5 :: .goto_w 29 :: []),
  (29, some [0, 1, 2, 3, 5], .iload 5 :: .aload 0 :: .invokevirtual 22281 :: .if_icmp .gt 111 :: .iload 5 :: .iload 1 :: .invokestatic 21536 :: .ifCond .ne 105 :: .iconst 2 :: .aload 0 :: .iload 5 :: .invokevirtual 31769 :: .imul :: .iload 2 :: .if_icmp .gt 105 :: .iconst 2 :: .aload 0 :: .iload 5 :: .iconst 1 :: .iload 1 :: .ishl :: .ior :: .invokevirtual 31769 :: .imul :: .iload 2 :: .if_icmp .gt 78 :: .goto 105 :: []),
  (78, none, .lload 3 :: .iload 5 :: .invokestatic 36496 :: .invokestatic 32016 :: .aload 0 :: .getfield 2308 :: .iconst 1 :: .isub :: .iload 5 :: .invokestatic 36496 :: .isub :: .invokestatic 32016 :: .lmul :: .ladd :: .lstore 3 :: .iinc 5 1 :: .goto 29 :: []),
  (105, none, .iinc 5 1 :: .goto 29 :: []),
  (111, none, .aload 0 :: .lload 3 :: .aload 0 :: .getfield 2308 :: .invokestatic 32016 :: .invokevirtual 28969 :: sg_251_111_1)]
theorem ts_251 : bs_251.all (fun q => chk 251 q.1 q.2.2) = true := by decide +kernel
/-- M.patched -/
def sg_252_89_2 : List Instr := .iload 3 :: .ireturn :: []
def sg_252_89_1 : List Instr := .aload 0 :: .iload 4 :: .i2l :: .invokevirtual 21785 :: sg_252_89_2
def bs_252 : Tb := [
  (0, none, .aload 0 :: .iconst 0 :: .putfield 2336 :: .iload 1 :: .invokestatic 22160 :: .ifCond .eq 22 :: .iload 2 :: .iconst 0 :: .iconst 12 :: .invokestatic 21424 :: .ifCond .ne 24 :: .iconst (-1) :: .ireturn :: []),
  (22, none, .iconst (-1) :: .ireturn :: []),
  (24, none, .iconst 0 :: .istore 3 :: .iconst 0 :: .istore 4 :: .iconst 0 :: .istore 5 :: .goto_w 32 :: []),
  (32, some [0, 1, 2, 3, 4, 5], .iload 5 :: .aload 0 :: .getfield 2308 :: .if_icmp .ge 89 :: .iload 3 :: .aload 0 :: .getfield 2307 :: .iload 5 :: .iload 1 :: .invokestatic 22448 :: .iload 2 :: .if_icmp .lt 63 :: .iconst 1 :: .iload 5 :: .ishl :: .goto 64 :: []),
  (63, none, .iconst 0 :: .ior :: .istore 3 :: .iload 4 :: .aload 0 :: .getfield 2307 :: .iload 5 :: .iload 1 :: .invokestatic 22448 :: .invokestatic 36896 :: .istore 4 :: .iinc 5 1 :: .goto 32 :: []),
  (64, none, .ior :: .istore 3 :: .iload 4 :: .aload 0 :: .getfield 2307 :: .iload 5 :: .iload 1 :: .invokestatic 22448 :: .invokestatic 36896 :: .istore 4 :: .iinc 5 1 :: .goto 32 :: []),
  (89, none, .aload 0 :: .iconst 0 :: .putfield 2332 :: .aload 0 :: .iload 3 :: .invokestatic 36496 :: .i2l :: .invokevirtual 21785 :: sg_252_89_1)]
theorem ts_252 : bs_252.all (fun q => chk 252 q.1 q.2.2) = true := by decide +kernel
/-- M.fits0 -/
def sg_257_0_1 : List Instr := .iload 1 :: .ireturn :: []
def bs_257 : Tb := [
  (0, none, .aload 0 :: .iconst 0 :: .putfield 2336 :: .aload 0 :: .invokevirtual 32777 :: .istore 1 :: .aload 0 :: .iconst 0 :: .putfield 2332 :: .aload 0 :: .iload 1 :: .invokestatic 36496 :: .i2l :: .invokevirtual 21785 :: sg_257_0_1)]
theorem ts_257 : bs_257.all (fun q => chk 257 q.1 q.2.2) = true := by decide +kernel
/-- M.looks -/
def sg_258_121_1 : List Instr := .iload 2 :: .ireturn :: []
def bs_258 : Tb := [
  (0, none, .aload 0 :: .iconst 0 :: .putfield 2336 :: .aload 0 :: .invokevirtual 32777 :: .istore 1 :: .iload 1 :: .ifCond .ne 17 :: .iconst (-2) :: .ireturn :: []),
  (17, none, .iconst (-1) :: .istore 2 :: .iconst 1000000 :: .istore 3 :: .iconst 0 :: .istore 4 :: .goto_w 26 :: []),
  (26, some [0, 1, 2, 3, 4], .iload 4 :: .iconst 4 :: .if_icmp .ge 121 :: .iconst 0 :: .istore 5 :: .iconst 0 :: .istore 6 :: .goto_w 38 :: []),
  (38, some [0, 1, 2, 3, 4, 5, 6], .iload 6 :: .aload 0 :: .getfield 2308 :: .if_icmp .ge 86 :: .iload 5 :: .iload 1 :: .iload 6 :: .invokestatic 21536 :: .ifCond .eq 76 :: .aload 0 :: .getfield 2307 :: .iload 6 :: .iload 4 :: .invokestatic 22448 :: .ifCond .le 76 :: .iconst 1 :: .goto 77 :: []),
  (76, none, .iconst 0 :: .iadd :: .istore 5 :: .iinc 6 1 :: .goto 38 :: []),
  (77, none, .iadd :: .istore 5 :: .iinc 6 1 :: .goto 38 :: []),
  (86, none, .iload 5 :: .iload 1 :: .invokestatic 36496 :: .iload 5 :: .isub :: .invokestatic 36896 :: .istore 6 :: .iload 6 :: .iload 3 :: .if_icmp .lt 109 :: .goto 115 :: []),
  (109, none, .iload 4 :: .istore 2 :: .iload 6 :: .istore 3 :: .iinc 4 1 :: .goto 26 :: []),
  (115, none, .iinc 4 1 :: .goto 26 :: []),
  (121, none, .aload 0 :: .iconst 0 :: .putfield 2332 :: .aload 0 :: .iload 3 :: .i2l :: .invokevirtual 21785 :: sg_258_121_1)]
theorem ts_258 : bs_258.all (fun q => chk 258 q.1 q.2.2) = true := by decide +kernel
/-- M.laws -/
def sg_263_40_2 : List Instr := .iinc 1 1 :: .iinc 3 1 :: .goto 22 :: []
def sg_263_40_1 : List Instr := .aload 0 :: .iload 3 :: .i2l :: .invokevirtual 21785 :: sg_263_40_2
def bs_263 : Tb := [
  (0, none, .aload 0 :: .iconst 0 :: .putfield 2336 :: .iconst 0 :: .istore 1 :: .aload 0 :: .iconst 0 :: .putfield 2332 :: .iconst 0 :: .istore 2 :: .goto_w 14 :: []),
  (14, some [0, 1, 2], .iload 2 :: .iconst 12 :: .if_icmp .gt 71 :: .iconst 0 :: .istore 3 :: .goto_w 22 :: []),
  (22, some [0, 1, 2, 3], .iload 3 :: .iconst 12 :: .if_icmp .gt 65 :: .aload 0 :: .iload 2 :: .iload 3 :: .invokevirtual 33577 :: .ifCond .ne 40 :: .goto 59 :: []),
  (40, none, .iload 1 :: .ifCond .ne 56 :: .aload 0 :: .iload 2 :: .i2l :: .invokevirtual 21785 :: sg_263_40_1),
  (56, none, .iinc 1 1 :: .iinc 3 1 :: .goto 22 :: []),
  (59, none, .iinc 3 1 :: .goto 22 :: []),
  (65, none, .iinc 2 1 :: .goto 14 :: []),
  (71, none, .iload 1 :: .ireturn :: [])]
theorem ts_263 : bs_263.all (fun q => chk 263 q.1 q.2.2) = true := by decide +kernel
/-- M.asks -/
def sg_265_79_1 : List Instr := .iload 1 :: .ireturn :: []
def bs_265 : Tb := [
  (0, none, .aload 0 :: .iconst 0 :: .putfield 2336 :: .iconst (-1) :: .istore 1 :: .iconst 1000000 :: .istore 2 :: .iconst 0 :: .istore 3 :: .goto_w 13 :: []),
  (13, some [0, 1, 2, 3], .iload 3 :: .iconst 12 :: .if_icmp .gt 72 :: .iconst 0 :: .istore 4 :: .goto_w 22 :: []),
  (22, some [0, 1, 2, 3, 4], .iload 4 :: .iconst 12 :: .iload 3 :: .isub :: .if_icmp .gt 66 :: .aload 0 :: .iload 3 :: .iload 4 :: .invokevirtual 33833 :: .istore 5 :: .iload 5 :: .iload 2 :: .if_icmp .lt 49 :: .goto 60 :: []),
  (49, none, .iconst 13 :: .iload 3 :: .imul :: .iload 4 :: .iadd :: .istore 1 :: .iload 5 :: .istore 2 :: .iinc 4 1 :: .goto 22 :: []),
  (60, none, .iinc 4 1 :: .goto 22 :: []),
  (66, none, .iinc 3 1 :: .goto 13 :: []),
  (72, none, .iload 2 :: .ifCond .ne 79 :: .iconst (-2) :: .ireturn :: []),
  (79, none, .aload 0 :: .iconst 0 :: .putfield 2332 :: .aload 0 :: .iload 2 :: .i2l :: .invokevirtual 21785 :: sg_265_79_1)]
theorem ts_265 : bs_265.all (fun q => chk 265 q.1 q.2.2) = true := by decide +kernel
/-- M.treaty -/
def sg_268_100_2 : List Instr := .iconst 1 :: .ireturn :: []
def sg_268_100_1 : List Instr := .aload 0 :: .iload 3 :: .iconst 31 :: .irem :: .i2l :: .invokevirtual 21785 :: sg_268_100_2
def bs_268 : Tb := [
  (0, none, .aload 0 :: .iconst 0 :: .putfield 2336 :: .iload 1 :: .iconst 0 :: .iconst 30 :: .invokestatic 21424 :: .ifCond .eq 25 :: .iload 2 :: .iconst 0 :: .iconst 30 :: .invokestatic 21424 :: .ifCond .ne 27 :: .iconst (-1) :: .ireturn :: []),
  (25, none, .iconst (-1) :: .ireturn :: []),
  (27, none, .iconst 0 :: .istore 3 :: .goto_w 29 :: []),
  (29, some [0, 1, 2, 3], .iload 3 :: .iload 1 :: .if_icmp .gt 82 :: .iconst 0 :: .istore 4 :: .goto_w 37 :: []),
  (37, some [0, 1, 2, 3, 4], .iload 4 :: .iload 2 :: .if_icmp .gt 76 :: .aload 0 :: .getfield 2447 :: .iconst 31 :: .iload 3 :: .imul :: .iload 4 :: .iadd :: .aload 0 :: .iload 3 :: .iload 4 :: .invokevirtual 34217 :: .ifCond .ne 68 :: .iconst 1 :: .goto 69 :: []),
  (68, none, .iconst 0 :: .sastore :: .iinc 4 1 :: .goto 37 :: []),
  (69, none, .sastore :: .iinc 4 1 :: .goto 37 :: []),
  (76, none, .iinc 3 1 :: .goto 29 :: []),
  (82, none, .aload 0 :: .iload 1 :: .iload 2 :: .invokevirtual 34217 :: .istore 3 :: .aload 0 :: .iconst 0 :: .putfield 2332 :: .iload 3 :: .ifCond .ne 100 :: .iconst 0 :: .ireturn :: []),
  (100, none, .aload 0 :: .iload 3 :: .iconst 31 :: .idiv :: .i2l :: .invokevirtual 21785 :: sg_268_100_1)]
theorem ts_268 : bs_268.all (fun q => chk 268 q.1 q.2.2) = true := by decide +kernel
/-- M.series -/
def sg_270_122_1 : List Instr := .iconst 0 :: .ireturn :: []
def bs_270 : Tb := [
  (0, none, .aload 0 :: .iconst 0 :: .putfield 2336 :: .iload 1 :: .iconst 1 :: .iconst 8 :: .invokestatic 21424 :: .ifCond .eq 35 :: .iload 2 :: .iconst 1 :: .iconst 8 :: .invokestatic 21424 :: .ifCond .eq 35 :: .iload 3 :: .iconst 0 :: .iconst 10 :: .invokestatic 21424 :: .ifCond .ne 37 :: .iconst (-1) :: .ireturn :: []),
  (35, none, .iconst (-1) :: .ireturn :: []),
  (37, none, .iload 1 :: .iload 2 :: .iadd :: .iconst 1 :: .isub :: .istore 4 :: .ldc2_w 0 :: .lstore 5 :: .ldc2_w 1 :: .lstore 7 :: .iconst 0 :: .istore 9 :: .goto_w 53 :: []),
  (53, some [0, 1, 3, 4, 5, 7, 9], .iload 9 :: .iload 4 :: .if_icmp .gt 122 :: .lload 5 :: .iload 9 :: .iload 1 :: .if_icmp .lt 95 :: .lload 7 :: .iload 3 :: .i2l :: .iload 9 :: .invokestatic 34464 :: .lmul :: .iconst 10 :: .iload 3 :: .isub :: .i2l :: .iload 4 :: .iload 9 :: .isub :: .invokestatic 34464 :: .lmul :: .goto 96 :: []),
  (95, none, .ldc2_w 0 :: .ladd :: .lstore 5 :: .lload 7 :: .iload 4 :: .iload 9 :: .isub :: .i2l :: .lmul :: .iload 9 :: .iconst 1 :: .iadd :: .i2l :: .ldiv :: .lstore 7 :: .iinc 9 1 :: .goto 53 :: []),
  (96, none, .ladd :: .lstore 5 :: .lload 7 :: .iload 4 :: .iload 9 :: .isub :: .i2l :: .lmul :: .iload 9 :: .iconst 1 :: .iadd :: .i2l :: .ldiv :: .lstore 7 :: .iinc 9 1 :: .goto 53 :: []),
  (122, none, .aload 0 :: .lload 5 :: .ldc2_w 10 :: .iload 4 :: .invokestatic 34464 :: .invokevirtual 28969 :: sg_270_122_1)]
theorem ts_270 : bs_270.all (fun q => chk 270 q.1 q.2.2) = true := by decide +kernel
/-- M.rests -/
def sg_273_65_2 : List Instr := .iinc 2 1 :: .iinc 4 1 :: .goto 35 :: []
def sg_273_65_1 : List Instr := .aload 0 :: .iload 4 :: .i2l :: .invokevirtual 21785 :: sg_273_65_2
def bs_273 : Tb := [
  (0, none, .aload 0 :: .iconst 0 :: .putfield 2336 :: .iload 1 :: .iconst 0 :: .iconst 20 :: .invokestatic 21424 :: .ifCond .ne 17 :: .iconst (-1) :: .ireturn :: []),
  (17, none, .iconst 0 :: .istore 2 :: .aload 0 :: .iconst 0 :: .putfield 2332 :: .iconst 0 :: .istore 3 :: .goto_w 26 :: []),
  (26, some [0, 1, 2, 3], .iload 3 :: .iconst 9 :: .if_icmp .gt 97 :: .iconst 0 :: .istore 4 :: .goto_w 35 :: []),
  (35, some [0, 1, 2, 3, 4], .iload 4 :: .iconst 9 :: .if_icmp .gt 91 :: .iload 3 :: .iload 4 :: .iload 1 :: .invokestatic 34864 :: .ifCond .eq 85 :: .iload 4 :: .iload 3 :: .iload 1 :: .invokestatic 34864 :: .ifCond .ne 65 :: .goto 85 :: []),
  (65, none, .iload 2 :: .ifCond .ne 82 :: .aload 0 :: .iload 3 :: .i2l :: .invokevirtual 21785 :: sg_273_65_1),
  (82, none, .iinc 2 1 :: .iinc 4 1 :: .goto 35 :: []),
  (85, none, .iinc 4 1 :: .goto 35 :: []),
  (91, none, .iinc 3 1 :: .goto 26 :: []),
  (97, none, .iload 2 :: .ireturn :: [])]
theorem ts_273 : bs_273.all (fun q => chk 273 q.1 q.2.2) = true := by decide +kernel
/-- M.lesserWins -/
def sg_274_16_1 : List Instr := .iload 2 :: .if_icmp .ne 43 :: .iconst 1 :: .goto 44 :: []
def bs_274 : Tb := [
  (0, none, .iconst 0 :: .istore 1 :: .iconst 0 :: .istore 2 :: .goto_w 4 :: []),
  (4, some [0, 1, 2], .iload 2 :: .aload 0 :: .getfield 2308 :: .if_icmp .ge 58 :: .iload 2 :: .iconst 1 :: .iadd :: .istore 3 :: .goto_w 16 :: []),
  (16, some [0, 1, 2, 3], .iload 3 :: .aload 0 :: .getfield 2308 :: .if_icmp .ge 52 :: .iload 1 :: .aload 0 :: .aload 0 :: .getfield 2307 :: .iload 2 :: .iload 3 :: .invokevirtual 26425 :: sg_274_16_1),
  (43, none, .iconst 0 :: .iadd :: .istore 1 :: .iinc 3 1 :: .goto 16 :: []),
  (44, none, .iadd :: .istore 1 :: .iinc 3 1 :: .goto 16 :: []),
  (52, none, .iinc 2 1 :: .goto 4 :: []),
  (58, none, .iload 1 :: .ireturn :: [])]
theorem ts_274 : bs_274.all (fun q => chk 274 q.1 q.2.2) = true := by decide +kernel
/-- M.law -/
def sg_275_0_1 : List Instr := .ifCond .ne 26 :: .iconst (-10000) :: .aload 0 :: .getfield 2356 :: .isub :: .ireturn :: []
def sg_275_26_1 : List Instr := .istore 2 :: .aload 0 :: .getfield 2366 :: .astore 3 :: .aload 0 :: .getfield 2372 :: .istore 4 :: .aload 0 :: .aload 0 :: .getfield 2370 :: .putfield 2366 :: .aload 0 :: .iload 1 :: .putfield 2372 :: .iconst 0 :: .istore 5 :: .goto_w 58 :: []
def sg_275_84_3 : List Instr := .iload 5 :: .iload 2 :: .isub :: .ireturn :: []
def sg_275_84_2 : List Instr := .aload 0 :: .iload 2 :: .i2l :: .invokevirtual 21785 :: sg_275_84_3
def sg_275_84_1 : List Instr := .istore 5 :: .aload 0 :: .aload 3 :: .putfield 2366 :: .aload 0 :: .iload 4 :: .putfield 2372 :: .aload 0 :: .iconst 0 :: .putfield 2332 :: .aload 0 :: .iload 5 :: .i2l :: .invokevirtual 21785 :: sg_275_84_2
def bs_275 : Tb := [
  (0, none, .aload 0 :: .iconst 0 :: .putfield 2336 :: .aload 0 :: .getfield 2324 :: .istore 1 :: .aload 0 :: .invokevirtual 24969 :: sg_275_0_1),
  (26, none, .aload 0 :: .invokevirtual 35081 :: sg_275_26_1),
  (58, some [0, 1, 2, 3, 4, 5], .iload 5 :: .iload 1 :: .if_icmp .ge 84 :: .aload 0 :: .getfield 2366 :: .iload 5 :: .aload 0 :: .getfield 2323 :: .iload 5 :: .baload :: .bastore :: .iinc 5 1 :: .goto 58 :: []),
  (84, none, .aload 0 :: .invokevirtual 35081 :: sg_275_84_1)]
theorem ts_275 : bs_275.all (fun q => chk 275 q.1 q.2.2) = true := by decide +kernel
/-- M.years -/
def sg_277_17_1 : List Instr := .aload 0 :: .getfield 2399 :: .iconst 49 :: .iconst 0 :: .iastore :: .iconst 0 :: .istore 3 :: .goto_w 44 :: []
def sg_277_44_2 : List Instr := .iload 4 :: .ifCond .eq 174 :: .aload 0 :: .getfield 2308 :: .ifCond .ne 84 :: .goto 174 :: []
def sg_277_44_1 : List Instr := .istore 4 :: .iload 4 :: .ifCond .ne 69 :: .aload 0 :: .aload 0 :: .getfield 2399 :: .invokevirtual 26905 :: sg_277_44_2
def sg_277_84_1 : List Instr := .istore 5 :: .aload 0 :: .iload 4 :: .iconst 3 :: .if_icmp .ne 105 :: .iconst 4 :: .goto 109 :: []
def sg_277_105_3 : List Instr := .pop :: .iinc 3 1 :: .goto 44 :: []
def sg_277_105_2 : List Instr := .iload 4 :: .iconst 3 :: .if_icmp .ge 174 :: .iload 5 :: .iload 6 :: .if_icmp .eq 174 :: .aload 0 :: .aload 0 :: .getfield 2399 :: .iload 5 :: .iload 6 :: .invokevirtual 26553 :: sg_277_105_3
def sg_277_105_1 : List Instr := .istore 6 :: .iload 4 :: .iconst 3 :: .if_icmp .ne 148 :: .aload 0 :: .aload 0 :: .getfield 2399 :: .iload 5 :: .iload 6 :: .iconst 1 :: .invokevirtual 27465 :: .ifCond .ne 148 :: .aload 0 :: .getfield 2399 :: .iload 5 :: .iload 6 :: .iconst 1 :: .invokestatic 27584 :: sg_277_105_2
def sg_277_109_3 : List Instr := .pop :: .iinc 3 1 :: .goto 44 :: []
def sg_277_109_2 : List Instr := .iload 4 :: .iconst 3 :: .if_icmp .ge 174 :: .iload 5 :: .iload 6 :: .if_icmp .eq 174 :: .aload 0 :: .aload 0 :: .getfield 2399 :: .iload 5 :: .iload 6 :: .invokevirtual 26553 :: sg_277_109_3
def sg_277_109_1 : List Instr := .istore 6 :: .iload 4 :: .iconst 3 :: .if_icmp .ne 148 :: .aload 0 :: .aload 0 :: .getfield 2399 :: .iload 5 :: .iload 6 :: .iconst 1 :: .invokevirtual 27465 :: .ifCond .ne 148 :: .aload 0 :: .getfield 2399 :: .iload 5 :: .iload 6 :: .iconst 1 :: .invokestatic 27584 :: sg_277_109_2
def sg_277_148_1 : List Instr := .pop :: .iinc 3 1 :: .goto 44 :: []
def sg_277_180_2 : List Instr := .aload 0 :: .getfield 2399 :: .iconst 49 :: .iaload :: .ireturn :: []
def sg_277_180_1 : List Instr := .aload 0 :: .aload 0 :: .aload 0 :: .getfield 2399 :: .iconst 36 :: .invokevirtual 25769 :: .i2l :: .invokevirtual 21785 :: sg_277_180_2
def bs_277 : Tb := [
  (0, none, .aload 0 :: .iconst 0 :: .putfield 2336 :: .iload 2 :: .iconst 1 :: .iconst 60 :: .invokestatic 21424 :: .ifCond .ne 17 :: .iconst (-1) :: .ireturn :: []),
  (17, none, .aload 0 :: .iload 1 :: .putfield 2448 :: .aload 0 :: .getfield 2307 :: .aload 0 :: .getfield 2399 :: .iconst 0 :: .invokestatic 26032 :: sg_277_17_1),
  (44, some [0, 2, 3], .iload 3 :: .iload 2 :: .if_icmp .ge 180 :: .aload 0 :: .iconst 4 :: .invokevirtual 35353 :: sg_277_44_1),
  (69, none, .iload 4 :: .ifCond .eq 174 :: .aload 0 :: .getfield 2308 :: .ifCond .ne 84 :: .goto 174 :: []),
  (84, none, .aload 0 :: .aload 0 :: .getfield 2308 :: .invokevirtual 35353 :: sg_277_84_1),
  (105, none, .aload 0 :: .getfield 2308 :: .invokevirtual 35353 :: sg_277_105_1),
  (109, none, .invokevirtual 35353 :: sg_277_109_1),
  (148, none, .iload 4 :: .iconst 3 :: .if_icmp .ge 174 :: .iload 5 :: .iload 6 :: .if_icmp .eq 174 :: .aload 0 :: .aload 0 :: .getfield 2399 :: .iload 5 :: .iload 6 :: .invokevirtual 26553 :: sg_277_148_1),
  (174, none, .iinc 3 1 :: .goto 44 :: []),
  (180, none, .aload 0 :: .iconst 0 :: .putfield 2332 :: .aload 0 :: .aload 0 :: .aload 0 :: .getfield 2399 :: .iconst 0 :: .invokevirtual 25769 :: .i2l :: .invokevirtual 21785 :: sg_277_180_1)]
theorem ts_277 : bs_277.all (fun q => chk 277 q.1 q.2.2) = true := by decide +kernel
/-- M.keep -/
def sg_278_16_1 : List Instr := .iconst 1 :: .freturn :: []
def bs_278 : Tb := [
  (0, none, .aload 0 :: .iconst 0 :: .putfield 2336 :: .iload 1 :: .iconst 0 :: .iconst 1 :: .invokestatic 21424 :: .ifCond .ne 16 :: .iconst 0 :: .freturn :: []),
  (16, none, .aload 0 :: .getfield 2463 :: .iload 1 :: .iconst 1 :: .sastore :: .aload 0 :: .getfield 2467 :: .iload 1 :: .aload 0 :: .getfield 2452 :: .iastore :: .aload 0 :: .getfield 2307 :: .aload 0 :: .getfield 2459 :: .iconst 50 :: .iload 1 :: .imul :: .invokestatic 26032 :: sg_278_16_1)]
theorem ts_278 : bs_278.all (fun q => chk 278 q.1 q.2.2) = true := by decide +kernel
/-- M.row -/
def sg_283_28_1 : List Instr := .i2l :: .lreturn :: []
def bs_283 : Tb := [
  (0, none, .aload 0 :: .iconst 0 :: .putfield 2336 :: .iload 1 :: .iconst 0 :: .aload 0 :: .getfield 2332 :: .iconst 1 :: .isub :: .invokestatic 21424 :: .ifCond .eq 28 :: .aload 0 :: .getfield 2331 :: .iload 1 :: .laload :: .goto 33 :: []),
  (28, none, .aload 0 :: .invokevirtual 21641 :: sg_283_28_1),
  (33, none, .lreturn :: [])]
theorem ts_283 : bs_283.all (fun q => chk 283 q.1 q.2.2) = true := by decide +kernel
/-- L.ship -/
def sg_290_0_1 : List Instr := .i2l :: .lastore :: .goto 17 :: []
def bs_290 : Tb := [
  (0, none, .aload 3 :: .iconst 0 :: .aload 0 :: .iload 1 :: .iload 2 :: .invokevirtual 11432 :: sg_290_0_1),
  (17, none, .iconst 0 :: .ireturn :: [])]
theorem ts_290 : bs_290.all (fun q => chk 290 q.1 q.2.2) = true := by decide +kernel
/-- L.row -/
def sg_291_0_1 : List Instr := .lastore :: .goto 14 :: []
def bs_291 : Tb := [
  (0, none, .aload 2 :: .iconst 0 :: .aload 0 :: .iload 1 :: .invokevirtual 17176 :: sg_291_0_1),
  (14, none, .iconst 0 :: .ireturn :: [])]
theorem ts_291 : bs_291.all (fun q => chk 291 q.1 q.2.2) = true := by decide +kernel
end
section
/-! StruckColours$Sea: what is read -/
def SeaT (t : Tau) (a : Int) : Prop := isO t a 5 ∧ finOf t a 3 = a + 1 ∧ finOf t a 4 = a + 2 ∧ finOf t a 5 = a + 3 ∧ finOf t a 6 = a + 4 ∧ finOf t a 7 = a + 5 ∧ finOf t a 8 = a + 6 ∧
  isT t (a + 1) 0 ∧ isT t (a + 2) 0 ∧ isT t (a + 3) 0 ∧ isT t (a + 4) 0 ∧ isT t (a + 5) 0 ∧ isT t (a + 6) 0 ∧ lenOf t (a + 1) = 6 ∧ lenOf t (a + 2) = 6 ∧ lenOf t (a + 3) = 6 ∧ lenOf t (a + 4) = 6 ∧ lenOf t (a + 5) = 6 ∧ lenOf t (a + 6) = 24
abbrev hsB (σ : Mem) (a s : Int) : Prop := 0 ≤ s ∧ s < σ a 0 ∧ s < 6
def spHas : Sp := fun as t σ Q => aRI as fun a s => SeaT t a ∧ Q (some (vI (if hsB σ a s then 1 else 0))) t σ
theorem c_has {l : Launch} {g : GE} {d : Nat} {t : Tau} {σ : Mem} {Q : Post} {as : List TV} (h : spHas as t σ Q) : WPc l g 41 (d + 1) 0 0 as t σ Q := by
  obtain ⟨a, s, rfl, hs, h⟩ := aRI_e h
  obtain ⟨o, f1, f2, f3, f4, f5, f6, t1, t2, t3, t4, t5, t6, l1, l2, l3, l4, l5, l6⟩ := hs
  refine wg (by decide) rE_nil tk_41 py_41 ml_41 30 (by simp [catT]) (fun N hN => ?_)
  simp [bl_41, hN _, x_iconst, x_ldc2_w, x_aconst_null, x_iload, x_lload, x_aload, x_istore, x_lstore, x_astore, x_iinc, x_iadd, x_isub, x_imul, x_idiv, x_irem, x_iand, x_ior, x_ixor, x_ishl, x_ishr, x_iushr, x_ineg, x_ladd, x_lsub, x_lmul, x_ldiv, x_lrem, x_lcmp, x_i2l, x_i2b, x_i2s, x_i2c, x_dup, x_pop, x_dup_x1, x_dup2, x_getfield, x_putfield, x_iaload, x_baload, x_saload, x_caload, x_daload, x_faload, x_laload, x_aaload, x_iastore, x_bastore, x_sastore, x_castore, x_lastore, x_aastore, x_arraylength, x_getstatic, x_goto, x_goto_w, x_ifCond, x_if_icmp, x_ifnull, x_ifnonnull, x_lookupswitch, x_invokevirtual, x_invokestatic, x_invokedynamic, x_ireturn, x_freturn, x_dreturn, x_lreturn, x_areturn, x_return_, pI_c, pL_c, pR_c, pV_i, pV_r, gI_c, gL_c, gR_c, pN_z, pN_s, lget_c, lins_z, lins_c, ldel_z, ldel_c, ldel2_z, ldel2_c, lset_i, lset_l, lset_r, lkeep_z, lkeep_c, largs_z, largs_c, cat_i, cat_l, cat_r, lkp_c, cnd_eq, cnd_ne, cnd_lt, cnd_ge, cnd_gt, cnd_le, swL_z, swL_c, rE_e, rOr_s, rOr_n, rlk_z, rlk_c, aR_c, aI_c, aII_c, aIII_c, aRI_c, aRII_c, aRIII_c, vJn, vJs, vlc, o]
  grind
def spSide : Sp := fun as t σ Q => aI as fun s => Q (some (vI (if 0 ≤ s ∧ s < 4 then 1 else 0))) t σ
theorem c_isSide {l : Launch} {g : GE} {d : Nat} {t : Tau} {σ : Mem} {Q : Post} {as : List TV} (h : spSide as t σ Q) : WPc l g 144 (d + 1) 0 0 as t σ Q := by
  obtain ⟨s, rfl, h⟩ := aI_e h
  refine wg (by decide) rE_nil tk_144 py_144 ml_144 30 (by simp [catT]) (fun N hN => ?_)
  simp [bl_144, hN _, x_iconst, x_ldc2_w, x_aconst_null, x_iload, x_lload, x_aload, x_istore, x_lstore, x_astore, x_iinc, x_iadd, x_isub, x_imul, x_idiv, x_irem, x_iand, x_ior, x_ixor, x_ishl, x_ishr, x_iushr, x_ineg, x_ladd, x_lsub, x_lmul, x_ldiv, x_lrem, x_lcmp, x_i2l, x_i2b, x_i2s, x_i2c, x_dup, x_pop, x_dup_x1, x_dup2, x_getfield, x_putfield, x_iaload, x_baload, x_saload, x_caload, x_daload, x_faload, x_laload, x_aaload, x_iastore, x_bastore, x_sastore, x_castore, x_lastore, x_aastore, x_arraylength, x_getstatic, x_goto, x_goto_w, x_ifCond, x_if_icmp, x_ifnull, x_ifnonnull, x_lookupswitch, x_invokevirtual, x_invokestatic, x_invokedynamic, x_ireturn, x_freturn, x_dreturn, x_lreturn, x_areturn, x_return_, pI_c, pL_c, pR_c, pV_i, pV_r, gI_c, gL_c, gR_c, pN_z, pN_s, lget_c, lins_z, lins_c, ldel_z, ldel_c, ldel2_z, ldel2_c, lset_i, lset_l, lset_r, lkeep_z, lkeep_c, largs_z, largs_c, cat_i, cat_l, cat_r, lkp_c, cnd_eq, cnd_ne, cnd_lt, cnd_ge, cnd_gt, cnd_le, swL_z, swL_c, rE_e, rOr_s, rOr_n, rlk_z, rlk_c, aR_c, aI_c, aII_c, aIII_c, aRI_c, aRII_c, aRIII_c, vJn, vJs, vlc]
  grind
abbrev reg1 : Reg := [(41, spHas), (144, spSide)]
theorem reg1_ok {l : Launch} {g : GE} {d : Nat} : ∀ e as t σ Q, rE l g (d + 1) reg1 e as t σ Q → WPc l g e (d + 1) 0 0 as t σ Q :=
  rE_cons (fun _ _ _ _ h => c_has h) (rE_cons (fun _ _ _ _ h => c_isSide h) rE_nil)
def spIsPair : Sp := fun as t σ Q => aRII as fun a s r => SeaT t a ∧ Q (some (vI (if hsB σ a s ∧ hsB σ a r ∧ s ≠ r then 1 else 0))) t σ
theorem c_isPair {l : Launch} {g : GE} {d : Nat} {t : Tau} {σ : Mem} {Q : Post} {as : List TV} (h : spIsPair as t σ Q) : WPc l g 42 (d + 2) 0 0 as t σ Q := by
  obtain ⟨a, s, r, rfl, hs, h⟩ := aRII_e h
  have hs' := hs
  obtain ⟨o, f1, f2, f3, f4, f5, f6, t1, t2, t3, t4, t5, t6, l1, l2, l3, l4, l5, l6⟩ := hs
  refine wg (by decide) reg1_ok tk_42 py_42 ml_42 30 (by simp [catT]) (fun N hN => ?_)
  simp [bl_42, hN _, x_iconst, x_ldc2_w, x_aconst_null, x_iload, x_lload, x_aload, x_istore, x_lstore, x_astore, x_iinc, x_iadd, x_isub, x_imul, x_idiv, x_irem, x_iand, x_ior, x_ixor, x_ishl, x_ishr, x_iushr, x_ineg, x_ladd, x_lsub, x_lmul, x_ldiv, x_lrem, x_lcmp, x_i2l, x_i2b, x_i2s, x_i2c, x_dup, x_pop, x_dup_x1, x_dup2, x_getfield, x_putfield, x_iaload, x_baload, x_saload, x_caload, x_daload, x_faload, x_laload, x_aaload, x_iastore, x_bastore, x_sastore, x_castore, x_lastore, x_aastore, x_arraylength, x_getstatic, x_goto, x_goto_w, x_ifCond, x_if_icmp, x_ifnull, x_ifnonnull, x_lookupswitch, x_invokevirtual, x_invokestatic, x_invokedynamic, x_ireturn, x_freturn, x_dreturn, x_lreturn, x_areturn, x_return_, pI_c, pL_c, pR_c, pV_i, pV_r, gI_c, gL_c, gR_c, pN_z, pN_s, lget_c, lins_z, lins_c, ldel_z, ldel_c, ldel2_z, ldel2_c, lset_i, lset_l, lset_r, lkeep_z, lkeep_c, largs_z, largs_c, cat_i, cat_l, cat_r, lkp_c, cnd_eq, cnd_ne, cnd_lt, cnd_ge, cnd_gt, cnd_le, swL_z, swL_c, rE_e, rOr_s, rOr_n, rlk_z, rlk_c, aR_c, aI_c, aII_c, aIII_c, aRI_c, aRII_c, aRIII_c, vJn, vJs, vlc, spHas, o, hs']
  grind
/-- a field of a ship, or w -/
def spOf (k : Int) (w : Int) : Sp := fun as t σ Q => aRI as fun a s => SeaT t a ∧ Q (some (vI (if hsB σ a s then σ (a + k) s else w))) t σ
theorem c_mightOf {l : Launch} {g : GE} {d : Nat} {t : Tau} {σ : Mem} {Q : Post} {as : List TV} (h : spOf 1 0 as t σ Q) : WPc l g 43 (d + 2) 0 0 as t σ Q := by
  obtain ⟨a, s, rfl, hs, h⟩ := aRI_e h
  have hs' := hs
  obtain ⟨o, f1, f2, f3, f4, f5, f6, t1, t2, t3, t4, t5, t6, l1, l2, l3, l4, l5, l6⟩ := hs
  refine wg (by decide) reg1_ok tk_43 py_43 ml_43 30 (by simp [catT]) (fun N hN => ?_)
  simp [bl_43, hN _, x_iconst, x_ldc2_w, x_aconst_null, x_iload, x_lload, x_aload, x_istore, x_lstore, x_astore, x_iinc, x_iadd, x_isub, x_imul, x_idiv, x_irem, x_iand, x_ior, x_ixor, x_ishl, x_ishr, x_iushr, x_ineg, x_ladd, x_lsub, x_lmul, x_ldiv, x_lrem, x_lcmp, x_i2l, x_i2b, x_i2s, x_i2c, x_dup, x_pop, x_dup_x1, x_dup2, x_getfield, x_putfield, x_iaload, x_baload, x_saload, x_caload, x_daload, x_faload, x_laload, x_aaload, x_iastore, x_bastore, x_sastore, x_castore, x_lastore, x_aastore, x_arraylength, x_getstatic, x_goto, x_goto_w, x_ifCond, x_if_icmp, x_ifnull, x_ifnonnull, x_lookupswitch, x_invokevirtual, x_invokestatic, x_invokedynamic, x_ireturn, x_freturn, x_dreturn, x_lreturn, x_areturn, x_return_, pI_c, pL_c, pR_c, pV_i, pV_r, gI_c, gL_c, gR_c, pN_z, pN_s, lget_c, lins_z, lins_c, ldel_z, ldel_c, ldel2_z, ldel2_c, lset_i, lset_l, lset_r, lkeep_z, lkeep_c, largs_z, largs_c, cat_i, cat_l, cat_r, lkp_c, cnd_eq, cnd_ne, cnd_lt, cnd_ge, cnd_gt, cnd_le, swL_z, swL_c, rE_e, rOr_s, rOr_n, rlk_z, rlk_c, aR_c, aI_c, aII_c, aIII_c, aRI_c, aRII_c, aRIII_c, vJn, vJs, vlc, spHas, o, hs', f1, t1, l1]
  grind
theorem c_strengthOf {l : Launch} {g : GE} {d : Nat} {t : Tau} {σ : Mem} {Q : Post} {as : List TV} (h : spOf 2 0 as t σ Q) : WPc l g 44 (d + 2) 0 0 as t σ Q := by
  obtain ⟨a, s, rfl, hs, h⟩ := aRI_e h
  have hs' := hs
  obtain ⟨o, f1, f2, f3, f4, f5, f6, t1, t2, t3, t4, t5, t6, l1, l2, l3, l4, l5, l6⟩ := hs
  refine wg (by decide) reg1_ok tk_44 py_44 ml_44 30 (by simp [catT]) (fun N hN => ?_)
  simp [bl_44, hN _, x_iconst, x_ldc2_w, x_aconst_null, x_iload, x_lload, x_aload, x_istore, x_lstore, x_astore, x_iinc, x_iadd, x_isub, x_imul, x_idiv, x_irem, x_iand, x_ior, x_ixor, x_ishl, x_ishr, x_iushr, x_ineg, x_ladd, x_lsub, x_lmul, x_ldiv, x_lrem, x_lcmp, x_i2l, x_i2b, x_i2s, x_i2c, x_dup, x_pop, x_dup_x1, x_dup2, x_getfield, x_putfield, x_iaload, x_baload, x_saload, x_caload, x_daload, x_faload, x_laload, x_aaload, x_iastore, x_bastore, x_sastore, x_castore, x_lastore, x_aastore, x_arraylength, x_getstatic, x_goto, x_goto_w, x_ifCond, x_if_icmp, x_ifnull, x_ifnonnull, x_lookupswitch, x_invokevirtual, x_invokestatic, x_invokedynamic, x_ireturn, x_freturn, x_dreturn, x_lreturn, x_areturn, x_return_, pI_c, pL_c, pR_c, pV_i, pV_r, gI_c, gL_c, gR_c, pN_z, pN_s, lget_c, lins_z, lins_c, ldel_z, ldel_c, ldel2_z, ldel2_c, lset_i, lset_l, lset_r, lkeep_z, lkeep_c, largs_z, largs_c, cat_i, cat_l, cat_r, lkp_c, cnd_eq, cnd_ne, cnd_lt, cnd_ge, cnd_gt, cnd_le, swL_z, swL_c, rE_e, rOr_s, rOr_n, rlk_z, rlk_c, aR_c, aI_c, aII_c, aIII_c, aRI_c, aRII_c, aRIII_c, vJn, vJs, vlc, spHas, o, hs', f2, t2, l2]
  grind
theorem c_sideOf {l : Launch} {g : GE} {d : Nat} {t : Tau} {σ : Mem} {Q : Post} {as : List TV} (h : spOf 3 (-1) as t σ Q) : WPc l g 45 (d + 2) 0 0 as t σ Q := by
  obtain ⟨a, s, rfl, hs, h⟩ := aRI_e h
  have hs' := hs
  obtain ⟨o, f1, f2, f3, f4, f5, f6, t1, t2, t3, t4, t5, t6, l1, l2, l3, l4, l5, l6⟩ := hs
  refine wg (by decide) reg1_ok tk_45 py_45 ml_45 30 (by simp [catT]) (fun N hN => ?_)
  simp [bl_45, hN _, x_iconst, x_ldc2_w, x_aconst_null, x_iload, x_lload, x_aload, x_istore, x_lstore, x_astore, x_iinc, x_iadd, x_isub, x_imul, x_idiv, x_irem, x_iand, x_ior, x_ixor, x_ishl, x_ishr, x_iushr, x_ineg, x_ladd, x_lsub, x_lmul, x_ldiv, x_lrem, x_lcmp, x_i2l, x_i2b, x_i2s, x_i2c, x_dup, x_pop, x_dup_x1, x_dup2, x_getfield, x_putfield, x_iaload, x_baload, x_saload, x_caload, x_daload, x_faload, x_laload, x_aaload, x_iastore, x_bastore, x_sastore, x_castore, x_lastore, x_aastore, x_arraylength, x_getstatic, x_goto, x_goto_w, x_ifCond, x_if_icmp, x_ifnull, x_ifnonnull, x_lookupswitch, x_invokevirtual, x_invokestatic, x_invokedynamic, x_ireturn, x_freturn, x_dreturn, x_lreturn, x_areturn, x_return_, pI_c, pL_c, pR_c, pV_i, pV_r, gI_c, gL_c, gR_c, pN_z, pN_s, lget_c, lins_z, lins_c, ldel_z, ldel_c, ldel2_z, ldel2_c, lset_i, lset_l, lset_r, lkeep_z, lkeep_c, largs_z, largs_c, cat_i, cat_l, cat_r, lkp_c, cnd_eq, cnd_ne, cnd_lt, cnd_ge, cnd_gt, cnd_le, swL_z, swL_c, rE_e, rOr_s, rOr_n, rlk_z, rlk_c, aR_c, aI_c, aII_c, aIII_c, aRI_c, aRII_c, aRIII_c, vJn, vJs, vlc, spHas, o, hs', f3, t3, l3]
  grind
theorem c_wonOf {l : Launch} {g : GE} {d : Nat} {t : Tau} {σ : Mem} {Q : Post} {as : List TV} (h : spOf 4 0 as t σ Q) : WPc l g 46 (d + 2) 0 0 as t σ Q := by
  obtain ⟨a, s, rfl, hs, h⟩ := aRI_e h
  have hs' := hs
  obtain ⟨o, f1, f2, f3, f4, f5, f6, t1, t2, t3, t4, t5, t6, l1, l2, l3, l4, l5, l6⟩ := hs
  refine wg (by decide) reg1_ok tk_46 py_46 ml_46 30 (by simp [catT]) (fun N hN => ?_)
  simp [bl_46, hN _, x_iconst, x_ldc2_w, x_aconst_null, x_iload, x_lload, x_aload, x_istore, x_lstore, x_astore, x_iinc, x_iadd, x_isub, x_imul, x_idiv, x_irem, x_iand, x_ior, x_ixor, x_ishl, x_ishr, x_iushr, x_ineg, x_ladd, x_lsub, x_lmul, x_ldiv, x_lrem, x_lcmp, x_i2l, x_i2b, x_i2s, x_i2c, x_dup, x_pop, x_dup_x1, x_dup2, x_getfield, x_putfield, x_iaload, x_baload, x_saload, x_caload, x_daload, x_faload, x_laload, x_aaload, x_iastore, x_bastore, x_sastore, x_castore, x_lastore, x_aastore, x_arraylength, x_getstatic, x_goto, x_goto_w, x_ifCond, x_if_icmp, x_ifnull, x_ifnonnull, x_lookupswitch, x_invokevirtual, x_invokestatic, x_invokedynamic, x_ireturn, x_freturn, x_dreturn, x_lreturn, x_areturn, x_return_, pI_c, pL_c, pR_c, pV_i, pV_r, gI_c, gL_c, gR_c, pN_z, pN_s, lget_c, lins_z, lins_c, ldel_z, ldel_c, ldel2_z, ldel2_c, lset_i, lset_l, lset_r, lkeep_z, lkeep_c, largs_z, largs_c, cat_i, cat_l, cat_r, lkp_c, cnd_eq, cnd_ne, cnd_lt, cnd_ge, cnd_gt, cnd_le, swL_z, swL_c, rE_e, rOr_s, rOr_n, rlk_z, rlk_c, aR_c, aI_c, aII_c, aIII_c, aRI_c, aRII_c, aRIII_c, vJn, vJs, vlc, spHas, o, hs', f4, t4, l4]
  grind
theorem c_lostOf {l : Launch} {g : GE} {d : Nat} {t : Tau} {σ : Mem} {Q : Post} {as : List TV} (h : spOf 5 0 as t σ Q) : WPc l g 47 (d + 2) 0 0 as t σ Q := by
  obtain ⟨a, s, rfl, hs, h⟩ := aRI_e h
  have hs' := hs
  obtain ⟨o, f1, f2, f3, f4, f5, f6, t1, t2, t3, t4, t5, t6, l1, l2, l3, l4, l5, l6⟩ := hs
  refine wg (by decide) reg1_ok tk_47 py_47 ml_47 30 (by simp [catT]) (fun N hN => ?_)
  simp [bl_47, hN _, x_iconst, x_ldc2_w, x_aconst_null, x_iload, x_lload, x_aload, x_istore, x_lstore, x_astore, x_iinc, x_iadd, x_isub, x_imul, x_idiv, x_irem, x_iand, x_ior, x_ixor, x_ishl, x_ishr, x_iushr, x_ineg, x_ladd, x_lsub, x_lmul, x_ldiv, x_lrem, x_lcmp, x_i2l, x_i2b, x_i2s, x_i2c, x_dup, x_pop, x_dup_x1, x_dup2, x_getfield, x_putfield, x_iaload, x_baload, x_saload, x_caload, x_daload, x_faload, x_laload, x_aaload, x_iastore, x_bastore, x_sastore, x_castore, x_lastore, x_aastore, x_arraylength, x_getstatic, x_goto, x_goto_w, x_ifCond, x_if_icmp, x_ifnull, x_ifnonnull, x_lookupswitch, x_invokevirtual, x_invokestatic, x_invokedynamic, x_ireturn, x_freturn, x_dreturn, x_lreturn, x_areturn, x_return_, pI_c, pL_c, pR_c, pV_i, pV_r, gI_c, gL_c, gR_c, pN_z, pN_s, lget_c, lins_z, lins_c, ldel_z, ldel_c, ldel2_z, ldel2_c, lset_i, lset_l, lset_r, lkeep_z, lkeep_c, largs_z, largs_c, cat_i, cat_l, cat_r, lkp_c, cnd_eq, cnd_ne, cnd_lt, cnd_ge, cnd_gt, cnd_le, swL_z, swL_c, rE_e, rOr_s, rOr_n, rlk_z, rlk_c, aR_c, aI_c, aII_c, aIII_c, aRI_c, aRII_c, aRIII_c, vJn, vJs, vlc, spHas, o, hs', f5, t5, l5]
  grind
def spParts : Sp := fun as t σ Q => aRII as fun a s f => SeaT t a ∧ Q (some (vI (if hsB σ a s ∧ 0 ≤ f ∧ f < 4 then σ (a + 6) (4 * s + f) else 0))) t σ
theorem c_parts {l : Launch} {g : GE} {d : Nat} {t : Tau} {σ : Mem} {Q : Post} {as : List TV} (h : spParts as t σ Q) : WPc l g 48 (d + 2) 0 0 as t σ Q := by
  obtain ⟨a, s, f, rfl, hs, h⟩ := aRII_e h
  have hs' := hs
  obtain ⟨o, f1, f2, f3, f4, f5, f6, t1, t2, t3, t4, t5, t6, l1, l2, l3, l4, l5, l6⟩ := hs
  refine wg (by decide) reg1_ok tk_48 py_48 ml_48 30 (by simp [catT]) (fun N hN => ?_)
  simp [bl_48, hN _, x_iconst, x_ldc2_w, x_aconst_null, x_iload, x_lload, x_aload, x_istore, x_lstore, x_astore, x_iinc, x_iadd, x_isub, x_imul, x_idiv, x_irem, x_iand, x_ior, x_ixor, x_ishl, x_ishr, x_iushr, x_ineg, x_ladd, x_lsub, x_lmul, x_ldiv, x_lrem, x_lcmp, x_i2l, x_i2b, x_i2s, x_i2c, x_dup, x_pop, x_dup_x1, x_dup2, x_getfield, x_putfield, x_iaload, x_baload, x_saload, x_caload, x_daload, x_faload, x_laload, x_aaload, x_iastore, x_bastore, x_sastore, x_castore, x_lastore, x_aastore, x_arraylength, x_getstatic, x_goto, x_goto_w, x_ifCond, x_if_icmp, x_ifnull, x_ifnonnull, x_lookupswitch, x_invokevirtual, x_invokestatic, x_invokedynamic, x_ireturn, x_freturn, x_dreturn, x_lreturn, x_areturn, x_return_, pI_c, pL_c, pR_c, pV_i, pV_r, gI_c, gL_c, gR_c, pN_z, pN_s, lget_c, lins_z, lins_c, ldel_z, ldel_c, ldel2_z, ldel2_c, lset_i, lset_l, lset_r, lkeep_z, lkeep_c, largs_z, largs_c, cat_i, cat_l, cat_r, lkp_c, cnd_eq, cnd_ne, cnd_lt, cnd_ge, cnd_gt, cnd_le, swL_z, swL_c, rE_e, rOr_s, rOr_n, rlk_z, rlk_c, aR_c, aI_c, aII_c, aIII_c, aRI_c, aRII_c, aRIII_c, vJn, vJs, vlc, spHas, spSide, o, hs', f6, t6, l6]
  refine ⟨fun z => ?_, fun z1 z2 z3 => ⟨fun y => ?_, fun y1 y2 => ?_⟩⟩
  · rwa [if_neg (by omega)] at h
  · rwa [if_neg (by omega)] at h
  · have e : w32 (w32 (s * 4) + f) = 4 * s + f := by rw [w32_id (x := s * 4) (by omega) (by omega), w32_id (by omega) (by omega)]; omega
    rw [e]
    refine ⟨by omega, ?_⟩
    rwa [if_pos (by omega)] at h
abbrev reg2 : Reg := [(41, spHas), (144, spSide), (42, spIsPair), (43, spOf 1 0), (44, spOf 2 0), (45, spOf 3 (-1)), (46, spOf 4 0), (47, spOf 5 0), (48, spParts)]
theorem reg2_ok {l : Launch} {g : GE} {d : Nat} : ∀ e as t σ Q, rE l g (d + 2) reg2 e as t σ Q → WPc l g e (d + 2) 0 0 as t σ Q :=
  rE_cons (fun _ _ _ _ h => c_has h) (rE_cons (fun _ _ _ _ h => c_isSide h) (rE_cons (fun _ _ _ _ h => c_isPair h) (rE_cons (fun _ _ _ _ h => c_mightOf h) (rE_cons (fun _ _ _ _ h => c_strengthOf h) (rE_cons (fun _ _ _ _ h => c_sideOf h) (rE_cons (fun _ _ _ _ h => c_wonOf h) (rE_cons (fun _ _ _ _ h => c_lostOf h) (rE_cons (fun _ _ _ _ h => c_parts h) rE_nil))))))))
/-! JDK: max, min, abs -/
def spMax : Sp := fun as t σ Q => aII as fun a b => Q (some (vI (max a b))) t σ
theorem c_max {l : Launch} {g : GE} {d : Nat} {t : Tau} {σ : Mem} {Q : Post} {as : List TV} (h : spMax as t σ Q) : WPc l g 288 (d + 1) 0 0 as t σ Q := by
  obtain ⟨a, b, rfl, h⟩ := aII_e h
  refine wp_goF (by decide) rE_nil tk_288 py_288 ml_288 30 (by simp [catT]) ?_
  simp [bl_288, vcN_s, x_iconst, x_ldc2_w, x_aconst_null, x_iload, x_lload, x_aload, x_istore, x_lstore, x_astore, x_iinc, x_iadd, x_isub, x_imul, x_idiv, x_irem, x_iand, x_ior, x_ixor, x_ishl, x_ishr, x_iushr, x_ineg, x_ladd, x_lsub, x_lmul, x_ldiv, x_lrem, x_lcmp, x_i2l, x_i2b, x_i2s, x_i2c, x_dup, x_pop, x_dup_x1, x_dup2, x_getfield, x_putfield, x_iaload, x_baload, x_saload, x_caload, x_daload, x_faload, x_laload, x_aaload, x_iastore, x_bastore, x_sastore, x_castore, x_lastore, x_aastore, x_arraylength, x_getstatic, x_goto, x_goto_w, x_ifCond, x_if_icmp, x_ifnull, x_ifnonnull, x_lookupswitch, x_invokevirtual, x_invokestatic, x_invokedynamic, x_ireturn, x_freturn, x_dreturn, x_lreturn, x_areturn, x_return_, pI_c, pL_c, pR_c, pV_i, pV_r, gI_c, gL_c, gR_c, pN_z, pN_s, lget_c, lins_z, lins_c, ldel_z, ldel_c, ldel2_z, ldel2_c, lset_i, lset_l, lset_r, lkeep_z, lkeep_c, largs_z, largs_c, cat_i, cat_l, cat_r, lkp_c, cnd_eq, cnd_ne, cnd_lt, cnd_ge, cnd_gt, cnd_le, swL_z, swL_c, rE_e, rOr_s, rOr_n, rlk_z, rlk_c, aR_c, aI_c, aII_c, aIII_c, aRI_c, aRII_c, aRIII_c, vJn, vJs, vlc]
  grind
def spMin : Sp := fun as t σ Q => aII as fun a b => Q (some (vI (min a b))) t σ
theorem c_min {l : Launch} {g : GE} {d : Nat} {t : Tau} {σ : Mem} {Q : Post} {as : List TV} (h : spMin as t σ Q) : WPc l g 289 (d + 1) 0 0 as t σ Q := by
  obtain ⟨a, b, rfl, h⟩ := aII_e h
  refine wp_goF (by decide) rE_nil tk_289 py_289 ml_289 30 (by simp [catT]) ?_
  simp [bl_289, vcN_s, x_iconst, x_ldc2_w, x_aconst_null, x_iload, x_lload, x_aload, x_istore, x_lstore, x_astore, x_iinc, x_iadd, x_isub, x_imul, x_idiv, x_irem, x_iand, x_ior, x_ixor, x_ishl, x_ishr, x_iushr, x_ineg, x_ladd, x_lsub, x_lmul, x_ldiv, x_lrem, x_lcmp, x_i2l, x_i2b, x_i2s, x_i2c, x_dup, x_pop, x_dup_x1, x_dup2, x_getfield, x_putfield, x_iaload, x_baload, x_saload, x_caload, x_daload, x_faload, x_laload, x_aaload, x_iastore, x_bastore, x_sastore, x_castore, x_lastore, x_aastore, x_arraylength, x_getstatic, x_goto, x_goto_w, x_ifCond, x_if_icmp, x_ifnull, x_ifnonnull, x_lookupswitch, x_invokevirtual, x_invokestatic, x_invokedynamic, x_ireturn, x_freturn, x_dreturn, x_lreturn, x_areturn, x_return_, pI_c, pL_c, pR_c, pV_i, pV_r, gI_c, gL_c, gR_c, pN_z, pN_s, lget_c, lins_z, lins_c, ldel_z, ldel_c, ldel2_z, ldel2_c, lset_i, lset_l, lset_r, lkeep_z, lkeep_c, largs_z, largs_c, cat_i, cat_l, cat_r, lkp_c, cnd_eq, cnd_ne, cnd_lt, cnd_ge, cnd_gt, cnd_le, swL_z, swL_c, rE_e, rOr_s, rOr_n, rlk_z, rlk_c, aR_c, aI_c, aII_c, aIII_c, aRI_c, aRII_c, aRIII_c, vJn, vJs, vlc]
  grind
def spAbs : Sp := fun as t σ Q => aI as fun a => Q (some (vI (if a < 0 then w32 (-a) else a))) t σ
theorem c_abs {l : Launch} {g : GE} {d : Nat} {t : Tau} {σ : Mem} {Q : Post} {as : List TV} (h : spAbs as t σ Q) : WPc l g 287 (d + 1) 0 0 as t σ Q := by
  obtain ⟨a, rfl, h⟩ := aI_e h
  refine wp_goF (by decide) rE_nil tk_287 py_287 ml_287 30 (by simp [catT]) ?_
  simp [bl_287, vcN_s, x_iconst, x_ldc2_w, x_aconst_null, x_iload, x_lload, x_aload, x_istore, x_lstore, x_astore, x_iinc, x_iadd, x_isub, x_imul, x_idiv, x_irem, x_iand, x_ior, x_ixor, x_ishl, x_ishr, x_iushr, x_ineg, x_ladd, x_lsub, x_lmul, x_ldiv, x_lrem, x_lcmp, x_i2l, x_i2b, x_i2s, x_i2c, x_dup, x_pop, x_dup_x1, x_dup2, x_getfield, x_putfield, x_iaload, x_baload, x_saload, x_caload, x_daload, x_faload, x_laload, x_aaload, x_iastore, x_bastore, x_sastore, x_castore, x_lastore, x_aastore, x_arraylength, x_getstatic, x_goto, x_goto_w, x_ifCond, x_if_icmp, x_ifnull, x_ifnonnull, x_lookupswitch, x_invokevirtual, x_invokestatic, x_invokedynamic, x_ireturn, x_freturn, x_dreturn, x_lreturn, x_areturn, x_return_, pI_c, pL_c, pR_c, pV_i, pV_r, gI_c, gL_c, gR_c, pN_z, pN_s, lget_c, lins_z, lins_c, ldel_z, ldel_c, ldel2_z, ldel2_c, lset_i, lset_l, lset_r, lkeep_z, lkeep_c, largs_z, largs_c, cat_i, cat_l, cat_r, lkp_c, cnd_eq, cnd_ne, cnd_lt, cnd_ge, cnd_gt, cnd_le, swL_z, swL_c, rE_e, rOr_s, rOr_n, rlk_z, rlk_c, aR_c, aI_c, aII_c, aIII_c, aRI_c, aRII_c, aRIII_c, vJn, vJs, vlc]
  grind
def spCompare : Sp := fun as t σ Q => aII as fun a b => Q (some (vI (if a < b then -1 else if a = b then 0 else 1))) t σ
theorem c_compare {l : Launch} {g : GE} {d : Nat} {t : Tau} {σ : Mem} {Q : Post} {as : List TV} (h : spCompare as t σ Q) : WPc l g 284 (d + 1) 0 0 as t σ Q := by
  obtain ⟨a, b, rfl, h⟩ := aII_e h
  refine wg (by decide) rE_nil tk_284 py_284 ml_284 30 (by simp [catT]) (fun N hN => ?_)
  simp [bl_284, hN _, x_iconst, x_ldc2_w, x_aconst_null, x_iload, x_lload, x_aload, x_istore, x_lstore, x_astore, x_iinc, x_iadd, x_isub, x_imul, x_idiv, x_irem, x_iand, x_ior, x_ixor, x_ishl, x_ishr, x_iushr, x_ineg, x_ladd, x_lsub, x_lmul, x_ldiv, x_lrem, x_lcmp, x_i2l, x_i2b, x_i2s, x_i2c, x_dup, x_pop, x_dup_x1, x_dup2, x_getfield, x_putfield, x_iaload, x_baload, x_saload, x_caload, x_daload, x_faload, x_laload, x_aaload, x_iastore, x_bastore, x_sastore, x_castore, x_lastore, x_aastore, x_arraylength, x_getstatic, x_goto, x_goto_w, x_ifCond, x_if_icmp, x_ifnull, x_ifnonnull, x_lookupswitch, x_invokevirtual, x_invokestatic, x_invokedynamic, x_ireturn, x_freturn, x_dreturn, x_lreturn, x_areturn, x_return_, pI_c, pL_c, pR_c, pV_i, pV_r, gI_c, gL_c, gR_c, pN_z, pN_s, lget_c, lins_z, lins_c, ldel_z, ldel_c, ldel2_z, ldel2_c, lset_i, lset_l, lset_r, lkeep_z, lkeep_c, largs_z, largs_c, cat_i, cat_l, cat_r, lkp_c, cnd_eq, cnd_ne, cnd_lt, cnd_ge, cnd_gt, cnd_le, swL_z, swL_c, rE_e, rOr_s, rOr_n, rlk_z, rlk_c, aR_c, aI_c, aII_c, aIII_c, aRI_c, aRII_c, aRIII_c, vJn, vJs, vlc]
  grind
abbrev regJ : Reg := [(288, spMax), (289, spMin), (287, spAbs), (284, spCompare)]
theorem regJ_ok {l : Launch} {g : GE} {d : Nat} {r : Reg} (hr : ∀ e as t σ Q, rE l g (d + 1) r e as t σ Q → WPc l g e (d + 1) 0 0 as t σ Q) : ∀ e as t σ Q, rE l g (d + 1) (regJ ++ r) e as t σ Q → WPc l g e (d + 1) 0 0 as t σ Q :=
  rE_cons (fun _ _ _ _ h => c_max h) (rE_cons (fun _ _ _ _ h => c_min h) (rE_cons (fun _ _ _ _ h => c_abs h) (rE_cons (fun _ _ _ _ h => c_compare h) hr)))
end
section
/-! the sea as a row of fifty numbers, as the reference has it -/
def upv (V : Int → Int) (j x : Int) : Int → Int := fun k => if k = j then x else V k
theorem upv_s (V : Int → Int) (j x : Int) : upv V j x j = x := by simp [upv]
theorem upv_n {V : Int → Int} {j x k : Int} (h : k ≠ j) : upv V j x k = V k := by simp [upv, h]
abbrev partV (V : Int → Int) (i s : Int) : Int := V (12 + 4 * i + s)
abbrev ownV (V : Int → Int) (i : Int) : Int := partV V i (V (6 + i))
def best1 (V : Int → Int) (i : Int) : Int := if partV V i 0 < partV V i 1 then 1 else 0
def best2 (V : Int → Int) (i : Int) : Int := if partV V i (best1 V i) < partV V i 2 then 2 else best1 V i
def bestV (V : Int → Int) (i : Int) : Int := if partV V i (best2 V i) < partV V i 3 then 3 else best2 V i
/-- GO OVER -/
def goV (V : Int → Int) (i : Int) : Int → Int := if partV V i (bestV V i) ≤ ownV V i then V else upv (upv V (6 + i) (bestV V i)) 49 (min 9999 (V 49 + 1))
/-- k PARTS of one SIDE become PARTS of another -/
def sewP (V : Int → Int) (i from' to k : Int) : Int → Int := upv (upv V (12 + 4 * i + from') (partV V i from' - k)) (12 + 4 * i + to) (upv V (12 + 4 * i + from') (partV V i from' - k) (12 + 4 * i + to) + k)
/-- w has won against l -/
def strikeV (take : Int) (V : Int → Int) (w l : Int) : Int → Int :=
  let V2 := sewP V w (V (6 + w)) (V (6 + l)) (min take (ownV V w))
  let V3 := upv V2 (36 + w) (min (V2 (36 + w) + 1) 99)
  let V4 := upv V3 l (max (V3 l - 1) 0)
  let V5 := upv V4 (42 + l) (min (V4 (42 + l) + 1) 99)
  goV (goV V5 w) l
/-- the SIDE that mends, or -1 -/
def fewS (V : Int → Int) (i : Int) : Nat → Int
  | 0 => -1
  | n + 1 => if (n : Int) ≠ V (6 + i) ∧ 0 < partV V i n ∧ (fewS V i n = -1 ∨ partV V i n < partV V i (fewS V i n)) then n else fewS V i n
def mendV (V : Int → Int) (i : Int) : Int → Int := if fewS V i 4 = -1 then V else sewP V i (fewS V i 4) (V (6 + i)) 1
def day1 (M : Int → Int) (V : Int → Int) (i : Int) : Int → Int := mendV (upv V i (min (M i) (V i + 1))) i
def dayI (M : Int → Int) (V : Int → Int) : Nat → Int → Int
  | 0 => V
  | n + 1 => day1 M (dayI M V n) n
noncomputable def dayV (n : Nat) (M : Int → Int) (V : Int → Int) : Int → Int := upv (dayI M V n) 48 (w32 (dayI M V n 48 + 1))
noncomputable def daysV (n : Nat) (M : Int → Int) (V : Int → Int) : Nat → Int → Int
  | 0 => V
  | k + 1 => dayV n M (daysV n M V k)
def sewV (V : Int → Int) (i s k : Int) : Int → Int := goV (sewP V i (V (6 + i)) s k) i
def hoist4 (V : Int → Int) (i s : Int) : Nat → Int → Int
  | 0 => V
  | n + 1 => upv (hoist4 V i s n) (12 + 4 * i + n) (if (n : Int) = s then 12 else 0)
def yieldV (V : Int → Int) (i s : Int) : Int → Int := upv (hoist4 V i s 4) (6 + i) s
/-- a row that is as it must be: n ships of mights M -/
def WFV (n : Nat) (M : Int → Int) (V : Int → Int) : Prop := n ≤ 6 ∧ (∀ i : Int, 0 ≤ i → i < n → (0 ≤ V i ∧ V i ≤ M i ∧ 1 ≤ M i ∧ M i ≤ 9) ∧ (0 ≤ V (6 + i) ∧ V (6 + i) < 4) ∧ (0 ≤ partV V i 0 ∧ 0 ≤ partV V i 1 ∧ 0 ≤ partV V i 2 ∧ 0 ≤ partV V i 3 ∧ partV V i 0 + partV V i 1 + partV V i 2 + partV V i 3 = 12) ∧ (∀ s, 0 ≤ s → s < 4 → partV V i s ≤ ownV V i) ∧ (0 ≤ V (36 + i) ∧ V (36 + i) ≤ 99) ∧ (0 ≤ V (42 + i) ∧ V (42 + i) ≤ 99)) ∧ (0 ≤ V 49 ∧ V 49 ≤ 9999) ∧ b32 (V 48) ∧ ∀ j, (j < 0 ∨ 50 ≤ j) → V j = 0
/-! the class's view of it -/
def vwS (σ : Mem) (a : Int) : Int → Int := fun j => if j < 0 then 0 else if j < 6 then σ (a + 2) j else if j < 12 then σ (a + 3) (j - 6) else if j < 36 then σ (a + 6) (j - 12) else if j < 42 then σ (a + 4) (j - 36) else if j < 48 then σ (a + 5) (j - 42) else if j = 48 then σ a 1 else if j = 49 then σ a 2 else 0
theorem vw_st {σ : Mem} {a i : Int} (h0 : 0 ≤ i) (h1 : i < 6) : σ (a + 2) i = vwS σ a i := by
  unfold vwS; rw [if_neg (by omega), if_pos h1]
theorem vw_sd {σ : Mem} {a i : Int} (h0 : 0 ≤ i) (h1 : i < 6) : σ (a + 3) i = vwS σ a (6 + i) := by
  unfold vwS; rw [if_neg (by omega), if_neg (by omega), if_pos (by omega), show 6 + i - 6 = i by omega]
theorem vw_fl {σ : Mem} {a j : Int} (h0 : 0 ≤ j) (h1 : j < 24) : σ (a + 6) j = vwS σ a (12 + j) := by
  unfold vwS; rw [if_neg (by omega), if_neg (by omega), if_neg (by omega), if_pos (by omega), show 12 + j - 12 = j by omega]
theorem vw_wn {σ : Mem} {a i : Int} (h0 : 0 ≤ i) (h1 : i < 6) : σ (a + 4) i = vwS σ a (36 + i) := by
  unfold vwS; rw [if_neg (by omega), if_neg (by omega), if_neg (by omega), if_neg (by omega), if_pos (by omega), show 36 + i - 36 = i by omega]
theorem vw_ls {σ : Mem} {a i : Int} (h0 : 0 ≤ i) (h1 : i < 6) : σ (a + 5) i = vwS σ a (42 + i) := by
  unfold vwS; rw [if_neg (by omega), if_neg (by omega), if_neg (by omega), if_neg (by omega), if_neg (by omega), if_pos (by omega), show 42 + i - 42 = i by omega]
theorem vw_dy {σ : Mem} {a : Int} : σ a 1 = vwS σ a 48 := by simp [vwS]
theorem vw_ov {σ : Mem} {a : Int} : σ a 2 = vwS σ a 49 := by simp [vwS]
theorem vwU_st {σ : Mem} {a i x : Int} (h0 : 0 ≤ i) (h1 : i < 6) : vwS (up σ (a + 2) i x) a = upv (vwS σ a) i x := by
  funext j; unfold vwS upv up; grind
theorem vwU_sd {σ : Mem} {a i x : Int} (h0 : 0 ≤ i) (h1 : i < 6) : vwS (up σ (a + 3) i x) a = upv (vwS σ a) (6 + i) x := by
  funext j; unfold vwS upv up; grind
theorem vwU_fl {σ : Mem} {a i x : Int} (h0 : 0 ≤ i) (h1 : i < 24) : vwS (up σ (a + 6) i x) a = upv (vwS σ a) (12 + i) x := by
  funext j; unfold vwS upv up; grind
theorem vwU_wn {σ : Mem} {a i x : Int} (h0 : 0 ≤ i) (h1 : i < 6) : vwS (up σ (a + 4) i x) a = upv (vwS σ a) (36 + i) x := by
  funext j; unfold vwS upv up; grind
theorem vwU_ls {σ : Mem} {a i x : Int} (h0 : 0 ≤ i) (h1 : i < 6) : vwS (up σ (a + 5) i x) a = upv (vwS σ a) (42 + i) x := by
  funext j; unfold vwS upv up; grind
theorem vwU_dy {σ : Mem} {a x : Int} : vwS (up σ a 1 x) a = upv (vwS σ a) 48 x := by
  funext j; unfold vwS upv up; grind
theorem vwU_ov {σ : Mem} {a x : Int} : vwS (up σ a 2 x) a = upv (vwS σ a) 49 x := by
  funext j; unfold vwS upv up; grind
/-- what a method of a sea leaves: all that isn't this sea's, its size and mights -/
def SeaFr (σ σ' : Mem) (a : Int) : Prop := (∀ o, (o < a ∨ a + 6 < o) → σ' o = σ o) ∧ σ' (a + 1) = σ (a + 1) ∧ σ' a 0 = σ a 0
theorem SeaFr.rf {σ : Mem} {a : Int} : SeaFr σ σ a := ⟨fun _ _ => rfl, rfl, rfl⟩
theorem SeaFr.tr {σ σ' σ'' : Mem} {a : Int} (h : SeaFr σ σ' a) (h' : SeaFr σ' σ'' a) : SeaFr σ σ'' a := ⟨fun o ho => (h'.1 o ho).trans (h.1 o ho), h'.2.1.trans h.2.1, h'.2.2.trans h.2.2⟩
theorem SeaFr.up {σ σ' : Mem} {a o j x : Int} (h : SeaFr σ σ' a) (h1 : (a + 2 ≤ o ∧ o ≤ a + 6) ∨ (o = a ∧ (j = 1 ∨ j = 2))) : SeaFr σ (up σ' o j x) a := by
  refine ⟨fun q hq => ?_, ?_, ?_⟩
  · rw [up_ne (by omega)]; exact h.1 q hq
  · rw [up_ne (by omega)]; exact h.2.1
  · by_cases ho : o = a
    · have : j ≠ 0 := by omega
      rw [← h.2.2]
      show (if _ ∧ _ then _ else _) = _
      rw [if_neg (by omega)]
    · rw [up_ne (fun z => ho z.symm)]; exact h.2.2
end
section
/-! StruckColours$Sea: what is written -/
theorem fidx {s k : Int} (h0 : 0 ≤ s) (h1 : s < 6) (k0 : 0 ≤ k) (k1 : k < 4) : w32 (w32 (s * 4) + k) = 4 * s + k ∧ 0 ≤ 4 * s + k ∧ 4 * s + k < 24 := by
  rw [w32_id (x := s * 4) (by omega) (by omega), w32_id (by omega) (by omega)]
  omega
theorem w32_succ {k : Nat} (h : k < 1000000) : w32 ((k : Int) + 1) = ((k + 1 : Nat) : Int) := by
  rw [w32_id (by omega) (by omega)]
  omega
abbrev SeaPre (t : Tau) (σ : Mem) (a s : Int) : Prop := SeaT t a ∧ hsB σ a s
def spStrengthens : Sp := fun as t σ Q => aRII as fun a s v => SeaPre t σ a s ∧ ∀ σ', SeaFr σ σ' a → σ' a 0 = σ a 0 → vwS σ' a = upv (vwS σ a) s (max 0 (min (σ (a + 1) s) v)) → Q none t σ'
theorem c_strengthens {l : Launch} {g : GE} {d : Nat} {t : Tau} {σ : Mem} {Q : Post} {as : List TV} (h : spStrengthens as t σ Q) : WPc l g 59 (d + 2) 0 0 as t σ Q := by
  obtain ⟨a, s, v, rfl, ⟨hs, hv⟩, h'⟩ := aRII_e h
  have h := fun σ' (f : SeaFr σ σ' a) v => h' σ' f f.2.2 v
  have hs' := hs
  obtain ⟨o, f1, f2, f3, f4, f5, f6, t1, t2, t3, t4, t5, t6, l1, l2, l3, l4, l5, l6⟩ := hs
  refine wg (by decide) (regJ_ok reg1_ok) tk_59 py_59 ml_59 30 (by simp [catT]) (fun N hN => ?_)
  simp [bl_59, hN _, x_iconst, x_ldc2_w, x_aconst_null, x_iload, x_lload, x_aload, x_istore, x_lstore, x_astore, x_iinc, x_iadd, x_isub, x_imul, x_idiv, x_irem, x_iand, x_ior, x_ixor, x_ishl, x_ishr, x_iushr, x_ineg, x_ladd, x_lsub, x_lmul, x_ldiv, x_lrem, x_lcmp, x_i2l, x_i2b, x_i2s, x_i2c, x_dup, x_pop, x_dup_x1, x_dup2, x_getfield, x_putfield, x_iaload, x_baload, x_saload, x_caload, x_daload, x_faload, x_laload, x_aaload, x_iastore, x_bastore, x_sastore, x_castore, x_lastore, x_aastore, x_arraylength, x_getstatic, x_goto, x_goto_w, x_ifCond, x_if_icmp, x_ifnull, x_ifnonnull, x_lookupswitch, x_invokevirtual, x_invokestatic, x_invokedynamic, x_ireturn, x_freturn, x_dreturn, x_lreturn, x_areturn, x_return_, pI_c, pL_c, pR_c, pV_i, pV_r, gI_c, gL_c, gR_c, pN_z, pN_s, lget_c, lins_z, lins_c, ldel_z, ldel_c, ldel2_z, ldel2_c, lset_i, lset_l, lset_r, lkeep_z, lkeep_c, largs_z, largs_c, cat_i, cat_l, cat_r, lkp_c, cnd_eq, cnd_ne, cnd_lt, cnd_ge, cnd_gt, cnd_le, swL_z, swL_c, rE_e, rOr_s, rOr_n, rlk_z, rlk_c, aR_c, aI_c, aII_c, aIII_c, aRI_c, aRII_c, aRIII_c, vJn, vJs, vlc, spHas, spMax, spMin, o, hs', f1, t1, l1, f2, t2, l2, hv]
  exact ⟨fun z => by omega, h _ (SeaFr.rf.up (by omega)) (vwU_st hv.1 hv.2.2)⟩
def spResews : Sp := fun as t σ Q => pR as fun a r => pI r fun s r => pI r fun f r => pI r fun u r => pI r fun n r => r = [] ∧ SeaPre t σ a s ∧ (0 ≤ f ∧ f < 4 ∧ 0 ≤ u ∧ u < 4 ∧ 0 ≤ n ∧ n ≤ 1000) ∧ (0 ≤ partV (vwS σ a) s f ∧ partV (vwS σ a) s f ≤ 1000 ∧ 0 ≤ partV (vwS σ a) s u ∧ partV (vwS σ a) s u ≤ 1000) ∧ ∀ σ', SeaFr σ σ' a → σ' a 0 = σ a 0 → vwS σ' a = sewP (vwS σ a) s f u n → Q none t σ'
theorem c_resews {l : Launch} {g : GE} {d : Nat} {t : Tau} {σ : Mem} {Q : Post} {as : List TV} (h : spResews as t σ Q) : WPc l g 60 (d + 2) 0 0 as t σ Q := by
  obtain ⟨a, r1, rfl, h⟩ := pR_e h
  obtain ⟨s, r2, rfl, h⟩ := pI_e h
  obtain ⟨f, r3, rfl, h⟩ := pI_e h
  obtain ⟨u, r4, rfl, h⟩ := pI_e h
  obtain ⟨n, r5, rfl, rfl, ⟨hs, hv⟩, ⟨b1, b2, b3, b4, b5, b6⟩, ⟨p1, p2, p3, p4⟩, h'⟩ := pI_e h
  have h := fun σ' (f : SeaFr σ σ' a) v => h' σ' f f.2.2 v
  have hs' := hs
  obtain ⟨o, f1, f2, f3, f4, f5, f6, t1, t2, t3, t4, t5, t6, l1, l2, l3, l4, l5, l6⟩ := hs
  refine wg (by decide) reg1_ok tk_60 py_60 ml_60 30 (by simp [catT]) (fun N hN => ?_)
  have e1 := (fidx (s := s) (k := f) (by omega) (by omega) (by omega) (by omega)).1
  have e2 := (fidx (s := s) (k := u) (by omega) (by omega) (by omega) (by omega)).1
  simp [bl_60, hN _, x_iconst, x_ldc2_w, x_aconst_null, x_iload, x_lload, x_aload, x_istore, x_lstore, x_astore, x_iinc, x_iadd, x_isub, x_imul, x_idiv, x_irem, x_iand, x_ior, x_ixor, x_ishl, x_ishr, x_iushr, x_ineg, x_ladd, x_lsub, x_lmul, x_ldiv, x_lrem, x_lcmp, x_i2l, x_i2b, x_i2s, x_i2c, x_dup, x_pop, x_dup_x1, x_dup2, x_getfield, x_putfield, x_iaload, x_baload, x_saload, x_caload, x_daload, x_faload, x_laload, x_aaload, x_iastore, x_bastore, x_sastore, x_castore, x_lastore, x_aastore, x_arraylength, x_getstatic, x_goto, x_goto_w, x_ifCond, x_if_icmp, x_ifnull, x_ifnonnull, x_lookupswitch, x_invokevirtual, x_invokestatic, x_invokedynamic, x_ireturn, x_freturn, x_dreturn, x_lreturn, x_areturn, x_return_, pI_c, pL_c, pR_c, pV_i, pV_r, gI_c, gL_c, gR_c, pN_z, pN_s, lget_c, lins_z, lins_c, ldel_z, ldel_c, ldel2_z, ldel2_c, lset_i, lset_l, lset_r, lkeep_z, lkeep_c, largs_z, largs_c, cat_i, cat_l, cat_r, lkp_c, cnd_eq, cnd_ne, cnd_lt, cnd_ge, cnd_gt, cnd_le, swL_z, swL_c, rE_e, rOr_s, rOr_n, rlk_z, rlk_c, aR_c, aI_c, aII_c, aIII_c, aRI_c, aRII_c, aRIII_c, vJn, vJs, vlc, spHas, spSide, o, hs', f6, t6, l6, hv, b1, b2, b3, b4, e1, e2]
  refine ⟨fun z => by omega, fun z => by omega, fun z => by omega, by omega, by omega, ?_⟩
  have x1 : 12 + (4 * s + f) = 12 + 4 * s + f := by omega
  have x2 : 12 + (4 * s + u) = 12 + 4 * s + u := by omega
  have q1 : σ (a + 6) (4 * s + f) = partV (vwS σ a) s f := by rw [vw_fl (σ := σ) (a := a) (j := 4 * s + f) (by omega) (by omega), x1]
  have q3 : ∀ y, vwS (up σ (a + 6) (4 * s + f) y) a = upv (vwS σ a) (12 + 4 * s + f) y := fun y => by rw [vwU_fl (by omega) (by omega), x1]
  rw [q1, w32_id (by omega) (by omega)]
  have q2 : up σ (a + 6) (4 * s + f) (partV (vwS σ a) s f - n) (a + 6) (4 * s + u) = upv (vwS σ a) (12 + 4 * s + f) (partV (vwS σ a) s f - n) (12 + 4 * s + u) := by
    rw [vw_fl (σ := up σ (a + 6) (4 * s + f) (partV (vwS σ a) s f - n)) (by omega) (by omega), q3, x2]
  have p1' : 0 ≤ vwS σ a (12 + 4 * s + f) := p1
  have p2' : vwS σ a (12 + 4 * s + f) ≤ 1000 := p2
  have p3' : 0 ≤ vwS σ a (12 + 4 * s + u) := p3
  have p4' : vwS σ a (12 + 4 * s + u) ≤ 1000 := p4
  have q4 : -1000 ≤ upv (vwS σ a) (12 + 4 * s + f) (partV (vwS σ a) s f - n) (12 + 4 * s + u) ∧ upv (vwS σ a) (12 + 4 * s + f) (partV (vwS σ a) s f - n) (12 + 4 * s + u) ≤ 1000 := by
    unfold upv partV
    split <;> omega
  rw [q2, w32_id (by omega) (by omega)]
  refine h _ ((SeaFr.rf.up (by omega)).up (by omega)) ?_
  rw [vwU_fl (by omega) (by omega), q3, x2]
  rfl
/-- GO OVER: the loop -/
def spGo : Sp := fun as t σ Q => aRI as fun a s => SeaPre t σ a s ∧ (0 ≤ vwS σ a (6 + s) ∧ vwS σ a (6 + s) < 4) ∧ (0 ≤ vwS σ a 49 ∧ vwS σ a 49 ≤ 9999) ∧ ∀ σ', SeaFr σ σ' a → σ' a 0 = σ a 0 → vwS σ' a = goV (vwS σ a) s → Q none t σ'
theorem mgo_step {l : Launch} {g : GE} {d : Nat} {t : Tau} {σ : Mem} {Q : Post} {a s k m : Int} (hs : SeaT t a) (hv : hsB σ a s) (hk : 1 ≤ k ∧ k ≤ 3) (hm : 0 ≤ m ∧ m < 4) (K : Wp l g 61 (d + 3) 0 0 4 [(0, vR a), (1, vI s), (2, vI (if partV (vwS σ a) s m < partV (vwS σ a) s k then k else m)), (3, vI (k + 1))] [] t σ Q) :
    Wp l g 61 (d + 3) 0 0 4 [(0, vR a), (1, vI s), (2, vI m), (3, vI k)] [] t σ Q := by
  have hs' := hs
  obtain ⟨o, f1, f2, f3, f4, f5, f6, t1, t2, t3, t4, t5, t6, l1, l2, l3, l4, l5, l6⟩ := hs
  refine wa (by decide) (regJ_ok reg2_ok) tk_61 30 (fun N hN => ?_)
  have e1 : w32 (k + 1) = k + 1 := w32_id (by omega) (by omega)
  have x1 : σ (a + 6) (4 * s + k) = vwS σ a (12 + 4 * s + k) := by rw [vw_fl (σ := σ) (a := a) (j := 4 * s + k) (by omega) (by omega)]; congr 1; omega
  have x2 : σ (a + 6) (4 * s + m) = vwS σ a (12 + 4 * s + m) := by rw [vw_fl (σ := σ) (a := a) (j := 4 * s + m) (by omega) (by omega)]; congr 1; omega
  obtain ⟨v0, v1, v2⟩ := hv
  have k0 : 0 ≤ k := by omega
  have kn : ¬ 4 ≤ k := by omega
  have k4 : k < 4 := by omega
  simp [bl_61, hN _, x_iconst, x_ldc2_w, x_aconst_null, x_iload, x_lload, x_aload, x_istore, x_lstore, x_astore, x_iinc, x_iadd, x_isub, x_imul, x_idiv, x_irem, x_iand, x_ior, x_ixor, x_ishl, x_ishr, x_iushr, x_ineg, x_ladd, x_lsub, x_lmul, x_ldiv, x_lrem, x_lcmp, x_i2l, x_i2b, x_i2s, x_i2c, x_dup, x_pop, x_dup_x1, x_dup2, x_getfield, x_putfield, x_iaload, x_baload, x_saload, x_caload, x_daload, x_faload, x_laload, x_aaload, x_iastore, x_bastore, x_sastore, x_castore, x_lastore, x_aastore, x_arraylength, x_getstatic, x_goto, x_goto_w, x_ifCond, x_if_icmp, x_ifnull, x_ifnonnull, x_lookupswitch, x_invokevirtual, x_invokestatic, x_invokedynamic, x_ireturn, x_freturn, x_dreturn, x_lreturn, x_areturn, x_return_, pI_c, pL_c, pR_c, pV_i, pV_r, gI_c, gL_c, gR_c, pN_z, pN_s, lget_c, lins_z, lins_c, ldel_z, ldel_c, ldel2_z, ldel2_c, lset_i, lset_l, lset_r, lkeep_z, lkeep_c, largs_z, largs_c, cat_i, cat_l, cat_r, lkp_c, cnd_eq, cnd_ne, cnd_lt, cnd_ge, cnd_gt, cnd_le, swL_z, swL_c, rE_e, rOr_s, rOr_n, rlk_z, rlk_c, aR_c, aI_c, aII_c, aIII_c, aRI_c, aRII_c, aRIII_c, vJn, vJs, vlc, spHas, spSide, spParts, spOf, spMin, hsB, o, hs', v0, v1, v2, hm, e1, x1, x2, k0, k4, kn]
  refine ⟨fun z => ?_, fun z => ?_⟩
  · rwa [if_neg (Int.not_lt.mpr z)] at K
  · rwa [if_pos z] at K
theorem mgo_end {l : Launch} {g : GE} {d : Nat} {t : Tau} {σ : Mem} {Q : Post} {a s m : Int} (hs : SeaT t a) (hv : hsB σ a s) (hm : 0 ≤ m ∧ m < 4) (hb : m = bestV (vwS σ a) s) (b1 : 0 ≤ vwS σ a (6 + s)) (b2 : vwS σ a (6 + s) < 4) (b3 : 0 ≤ vwS σ a 49) (b4 : vwS σ a 49 ≤ 9999) (h : ∀ σ', SeaFr σ σ' a → vwS σ' a = goV (vwS σ a) s → Q none t σ') :
    Wp l g 61 (d + 3) 0 0 4 [(0, vR a), (1, vI s), (2, vI m), (3, vI 4)] [] t σ Q := by
  have hs' := hs
  obtain ⟨o, f1, f2, f3, f4, f5, f6, t1, t2, t3, t4, t5, t6, l1, l2, l3, l4, l5, l6⟩ := hs
  refine wa (by decide) (regJ_ok reg2_ok) tk_61 30 (fun N hN => ?_)
  obtain ⟨v0, v1, v2⟩ := hv
  obtain ⟨m0, m4⟩ := hm
  have x3 : σ (a + 3) s = vwS σ a (6 + s) := vw_sd v0 v2
  have x2 : σ (a + 6) (4 * s + m) = vwS σ a (12 + 4 * s + m) := by rw [vw_fl (σ := σ) (a := a) (j := 4 * s + m) (by omega) (by omega)]; congr 1; omega
  have x1 : σ (a + 6) (4 * s + vwS σ a (6 + s)) = vwS σ a (12 + 4 * s + vwS σ a (6 + s)) := by rw [vw_fl (σ := σ) (a := a) (j := 4 * s + vwS σ a (6 + s)) (by omega) (by omega)]; congr 1; omega
  simp [bl_61, hN _, x_iconst, x_ldc2_w, x_aconst_null, x_iload, x_lload, x_aload, x_istore, x_lstore, x_astore, x_iinc, x_iadd, x_isub, x_imul, x_idiv, x_irem, x_iand, x_ior, x_ixor, x_ishl, x_ishr, x_iushr, x_ineg, x_ladd, x_lsub, x_lmul, x_ldiv, x_lrem, x_lcmp, x_i2l, x_i2b, x_i2s, x_i2c, x_dup, x_pop, x_dup_x1, x_dup2, x_getfield, x_putfield, x_iaload, x_baload, x_saload, x_caload, x_daload, x_faload, x_laload, x_aaload, x_iastore, x_bastore, x_sastore, x_castore, x_lastore, x_aastore, x_arraylength, x_getstatic, x_goto, x_goto_w, x_ifCond, x_if_icmp, x_ifnull, x_ifnonnull, x_lookupswitch, x_invokevirtual, x_invokestatic, x_invokedynamic, x_ireturn, x_freturn, x_dreturn, x_lreturn, x_areturn, x_return_, pI_c, pL_c, pR_c, pV_i, pV_r, gI_c, gL_c, gR_c, pN_z, pN_s, lget_c, lins_z, lins_c, ldel_z, ldel_c, ldel2_z, ldel2_c, lset_i, lset_l, lset_r, lkeep_z, lkeep_c, largs_z, largs_c, cat_i, cat_l, cat_r, lkp_c, cnd_eq, cnd_ne, cnd_lt, cnd_ge, cnd_gt, cnd_le, swL_z, swL_c, rE_e, rOr_s, rOr_n, rlk_z, rlk_c, aR_c, aI_c, aII_c, aIII_c, aRI_c, aRII_c, aRIII_c, vJn, vJs, vlc, spHas, spSide, spParts, spOf, spMin, hsB, o, hs', v0, v1, v2, m0, m4, x1, x2, x3, b1, b2, f3, t3, l3]
  refine ⟨fun z => by omega, fun z => ?_, fun z => ?_⟩
  · refine h _ SeaFr.rf ?_
    unfold goV
    rw [if_pos (by rw [← hb]; exact z)]
  · have y1 : up σ (a + 3) s m a 2 = vwS σ a 49 := by
      rw [show up σ (a + 3) s m a = σ a from up_ne (by omega)]; exact vw_ov
    rw [y1, w32_id (by omega) (by omega)]
    refine h _ ((SeaFr.rf.up (by omega)).up (by omega)) ?_
    rw [vwU_ov, vwU_sd v0 v2]
    unfold goV
    rw [if_neg (by rw [← hb]; exact Int.not_le.mpr z), ← hb, Int.min_comm]
theorem best_b (V : Int → Int) (i : Int) : (0 ≤ best1 V i ∧ best1 V i < 4) ∧ (0 ≤ best2 V i ∧ best2 V i < 4) ∧ (0 ≤ bestV V i ∧ bestV V i < 4) := by
  have h1 : 0 ≤ best1 V i ∧ best1 V i < 4 := by unfold best1; split <;> omega
  have h2 : 0 ≤ best2 V i ∧ best2 V i < 4 := by unfold best2; split <;> omega
  refine ⟨h1, h2, ?_⟩
  unfold bestV
  split <;> omega
theorem c_mayGoOver {l : Launch} {g : GE} {d : Nat} {t : Tau} {σ : Mem} {Q : Post} {as : List TV} (h : spGo as t σ Q) : WPc l g 61 (d + 3) 0 0 as t σ Q := by
  obtain ⟨a, s, rfl, ⟨hs, hv⟩, ⟨b1, b2⟩, ⟨b3, b4⟩, h'⟩ := aRI_e h
  have h := fun σ' (f : SeaFr σ σ' a) v => h' σ' f f.2.2 v
  refine wg (by decide) (regJ_ok reg2_ok) tk_61 py_61 ml_61 30 (by simp [catT]) (fun N hN => ?_)
  simp [bl_61, hN _, x_iconst, x_ldc2_w, x_aconst_null, x_iload, x_lload, x_aload, x_istore, x_lstore, x_astore, x_iinc, x_iadd, x_isub, x_imul, x_idiv, x_irem, x_iand, x_ior, x_ixor, x_ishl, x_ishr, x_iushr, x_ineg, x_ladd, x_lsub, x_lmul, x_ldiv, x_lrem, x_lcmp, x_i2l, x_i2b, x_i2s, x_i2c, x_dup, x_pop, x_dup_x1, x_dup2, x_getfield, x_putfield, x_iaload, x_baload, x_saload, x_caload, x_daload, x_faload, x_laload, x_aaload, x_iastore, x_bastore, x_sastore, x_castore, x_lastore, x_aastore, x_arraylength, x_getstatic, x_goto, x_goto_w, x_ifCond, x_if_icmp, x_ifnull, x_ifnonnull, x_lookupswitch, x_invokevirtual, x_invokestatic, x_invokedynamic, x_ireturn, x_freturn, x_dreturn, x_lreturn, x_areturn, x_return_, pI_c, pL_c, pR_c, pV_i, pV_r, gI_c, gL_c, gR_c, pN_z, pN_s, lget_c, lins_z, lins_c, ldel_z, ldel_c, ldel2_z, ldel2_c, lset_i, lset_l, lset_r, lkeep_z, lkeep_c, largs_z, largs_c, cat_i, cat_l, cat_r, lkp_c, cnd_eq, cnd_ne, cnd_lt, cnd_ge, cnd_gt, cnd_le, swL_z, swL_c, rE_e, rOr_s, rOr_n, rlk_z, rlk_c, aR_c, aI_c, aII_c, aIII_c, aRI_c, aRII_c, aRIII_c, vJn, vJs, vlc]
  have hb := best_b (vwS σ a) s
  refine mgo_step hs hv (by omega) (by omega) ?_
  refine mgo_step hs hv (by omega) (by exact hb.1) ?_
  refine mgo_step hs hv (by omega) (by exact hb.2.1) ?_
  exact mgo_end hs hv (by exact hb.2.2) rfl b1 b2 b3 b4 h
/-- all PARTS become of a SIDE: the loop -/
def spHoists : Sp := fun as t σ Q => aRII as fun a s f => SeaPre t σ a s ∧ (0 ≤ f ∧ f < 4) ∧ ∀ σ', SeaFr σ σ' a → σ' a 0 = σ a 0 → vwS σ' a = yieldV (vwS σ a) s f → Q none t σ'
theorem hoi_loop {l : Launch} {g : GE} {d : Nat} {t : Tau} {σ : Mem} {Q : Post} {a s f : Int} {σ0 : Mem} (hs : SeaT t a) (hv : hsB σ0 a s) (hf : 0 ≤ f ∧ f < 4) (h : ∀ σ', SeaFr σ0 σ' a → vwS σ' a = yieldV (vwS σ0 a) s f → Q none t σ') :
    ∀ (n k : Nat) (σ : Mem), k + n = 4 → SeaFr σ0 σ a → vwS σ a = hoist4 (vwS σ0 a) s f k → Wp l g 58 (d + 2) 0 0 18 [(0, vR a), (1, vI s), (2, vI f), (3, vI k)] [] t σ Q := by
  have hs' := hs
  obtain ⟨o, f1, f2, f3, f4, f5, f6, t1, t2, t3, t4, t5, t6, l1, l2, l3, l4, l5, l6⟩ := hs
  obtain ⟨v0, v1, v2⟩ := hv
  obtain ⟨q0, q4⟩ := hf
  intro n
  induction n with
  | zero =>
    intro k σ hk hF hV
    obtain rfl : k = 4 := by omega
    refine wa (by decide) reg1_ok tk_58 30 (fun N hN => ?_)
    simp [bl_58, hN _, x_iconst, x_ldc2_w, x_aconst_null, x_iload, x_lload, x_aload, x_istore, x_lstore, x_astore, x_iinc, x_iadd, x_isub, x_imul, x_idiv, x_irem, x_iand, x_ior, x_ixor, x_ishl, x_ishr, x_iushr, x_ineg, x_ladd, x_lsub, x_lmul, x_ldiv, x_lrem, x_lcmp, x_i2l, x_i2b, x_i2s, x_i2c, x_dup, x_pop, x_dup_x1, x_dup2, x_getfield, x_putfield, x_iaload, x_baload, x_saload, x_caload, x_daload, x_faload, x_laload, x_aaload, x_iastore, x_bastore, x_sastore, x_castore, x_lastore, x_aastore, x_arraylength, x_getstatic, x_goto, x_goto_w, x_ifCond, x_if_icmp, x_ifnull, x_ifnonnull, x_lookupswitch, x_invokevirtual, x_invokestatic, x_invokedynamic, x_ireturn, x_freturn, x_dreturn, x_lreturn, x_areturn, x_return_, pI_c, pL_c, pR_c, pV_i, pV_r, gI_c, gL_c, gR_c, pN_z, pN_s, lget_c, lins_z, lins_c, ldel_z, ldel_c, ldel2_z, ldel2_c, lset_i, lset_l, lset_r, lkeep_z, lkeep_c, largs_z, largs_c, cat_i, cat_l, cat_r, lkp_c, cnd_eq, cnd_ne, cnd_lt, cnd_ge, cnd_gt, cnd_le, swL_z, swL_c, rE_e, rOr_s, rOr_n, rlk_z, rlk_c, aR_c, aI_c, aII_c, aIII_c, aRI_c, aRII_c, aRIII_c, vJn, vJs, vlc, o, f3, t3, l3, v0, v2]
    refine h _ (hF.up (by omega)) ?_
    rw [vwU_sd v0 v2, hV]
    rfl
  | succ n ih =>
    intro k σ hk hF hV
    have hk4 : k < 4 := by omega
    obtain ⟨e1, i0, i1⟩ := fidx (k := (k : Int)) v0 v2 (by omega) (by omega)
    have e2 := w32_succ (k := k) (by omega)
    have nk : ¬ (4 : Int) ≤ k := by omega
    refine wa (by decide) reg1_ok tk_58 30 (fun N hN => ?_)
    have ih' : ∀ x : Int, x = (if (k : Int) = f then 12 else 0) → Wp l g 58 (d + 2) 0 0 18 [(0, vR a), (1, vI s), (2, vI f), (3, vI (k + 1 : Nat))] [] t (up σ (a + 6) (4 * s + k) x) Q := fun x hx => by
      refine ih (k + 1) _ (by omega) (hF.up (by omega)) ?_
      rw [vwU_fl i0 i1, hV, hx, show 12 + (4 * s + (k : Int)) = 12 + 4 * s + k by omega]
      rfl
    simp [bl_58, hN _, x_iconst, x_ldc2_w, x_aconst_null, x_iload, x_lload, x_aload, x_istore, x_lstore, x_astore, x_iinc, x_iadd, x_isub, x_imul, x_idiv, x_irem, x_iand, x_ior, x_ixor, x_ishl, x_ishr, x_iushr, x_ineg, x_ladd, x_lsub, x_lmul, x_ldiv, x_lrem, x_lcmp, x_i2l, x_i2b, x_i2s, x_i2c, x_dup, x_pop, x_dup_x1, x_dup2, x_getfield, x_putfield, x_iaload, x_baload, x_saload, x_caload, x_daload, x_faload, x_laload, x_aaload, x_iastore, x_bastore, x_sastore, x_castore, x_lastore, x_aastore, x_arraylength, x_getstatic, x_goto, x_goto_w, x_ifCond, x_if_icmp, x_ifnull, x_ifnonnull, x_lookupswitch, x_invokevirtual, x_invokestatic, x_invokedynamic, x_ireturn, x_freturn, x_dreturn, x_lreturn, x_areturn, x_return_, pI_c, pL_c, pR_c, pV_i, pV_r, gI_c, gL_c, gR_c, pN_z, pN_s, lget_c, lins_z, lins_c, ldel_z, ldel_c, ldel2_z, ldel2_c, lset_i, lset_l, lset_r, lkeep_z, lkeep_c, largs_z, largs_c, cat_i, cat_l, cat_r, lkp_c, cnd_eq, cnd_ne, cnd_lt, cnd_ge, cnd_gt, cnd_le, swL_z, swL_c, rE_e, rOr_s, rOr_n, rlk_z, rlk_c, aR_c, aI_c, aII_c, aIII_c, aRI_c, aRII_c, aRIII_c, vJn, vJs, vlc, o, f6, t6, l6, e1, e2, i0, i1]
    refine ⟨fun z => absurd z nk, fun _ => ⟨fun z => ?_, fun z => ?_⟩⟩
    · exact ih' 0 (by rw [if_neg z])
    · exact ih' 12 (by rw [if_pos z])
theorem c_hoists {l : Launch} {g : GE} {d : Nat} {t : Tau} {σ : Mem} {Q : Post} {as : List TV} (h : spHoists as t σ Q) : WPc l g 58 (d + 2) 0 0 as t σ Q := by
  obtain ⟨a, s, f, rfl, ⟨hs, hv⟩, hf, h'⟩ := aRII_e h
  have h := fun σ' (f : SeaFr σ σ' a) v => h' σ' f f.2.2 v
  have hs' := hs
  obtain ⟨o, f1, f2, f3, f4, f5, f6, t1, t2, t3, t4, t5, t6, l1, l2, l3, l4, l5, l6⟩ := hs
  obtain ⟨v0, v1, v2⟩ := hv
  obtain ⟨q0, q4⟩ := hf
  refine wg (by decide) reg1_ok tk_58 py_58 ml_58 30 (by simp [catT]) (fun N hN => ?_)
  have K := hoi_loop (l := l) (g := g) (d := d) (σ := σ) hs' ⟨v0, v1, v2⟩ ⟨q0, q4⟩ h 4 0 σ rfl SeaFr.rf rfl
  simp [bl_58, hN _, x_iconst, x_ldc2_w, x_aconst_null, x_iload, x_lload, x_aload, x_istore, x_lstore, x_astore, x_iinc, x_iadd, x_isub, x_imul, x_idiv, x_irem, x_iand, x_ior, x_ixor, x_ishl, x_ishr, x_iushr, x_ineg, x_ladd, x_lsub, x_lmul, x_ldiv, x_lrem, x_lcmp, x_i2l, x_i2b, x_i2s, x_i2c, x_dup, x_pop, x_dup_x1, x_dup2, x_getfield, x_putfield, x_iaload, x_baload, x_saload, x_caload, x_daload, x_faload, x_laload, x_aaload, x_iastore, x_bastore, x_sastore, x_castore, x_lastore, x_aastore, x_arraylength, x_getstatic, x_goto, x_goto_w, x_ifCond, x_if_icmp, x_ifnull, x_ifnonnull, x_lookupswitch, x_invokevirtual, x_invokestatic, x_invokedynamic, x_ireturn, x_freturn, x_dreturn, x_lreturn, x_areturn, x_return_, pI_c, pL_c, pR_c, pV_i, pV_r, gI_c, gL_c, gR_c, pN_z, pN_s, lget_c, lins_z, lins_c, ldel_z, ldel_c, ldel2_z, ldel2_c, lset_i, lset_l, lset_r, lkeep_z, lkeep_c, largs_z, largs_c, cat_i, cat_l, cat_r, lkp_c, cnd_eq, cnd_ne, cnd_lt, cnd_ge, cnd_gt, cnd_le, swL_z, swL_c, rE_e, rOr_s, rOr_n, rlk_z, rlk_c, aR_c, aI_c, aII_c, aIII_c, aRI_c, aRII_c, aRIII_c, vJn, vJs, vlc, spHas, spSide, hsB, o, hs', v0, v1, v2, q0, q4]
  exact ⟨fun z => by omega, K, fun z => by omega⟩
abbrev reg3 : Reg := [(60, spResews), (61, spGo), (58, spHoists), (59, spStrengthens)] ++ (regJ ++ reg2)
theorem reg3_ok {l : Launch} {g : GE} {d : Nat} : ∀ e as t σ Q, rE l g (d + 3) reg3 e as t σ Q → WPc l g e (d + 3) 0 0 as t σ Q :=
  rE_cons (fun _ _ _ _ h => c_resews (d := d + 1) h) (rE_cons (fun _ _ _ _ h => c_mayGoOver h) (rE_cons (fun _ _ _ _ h => c_hoists (d := d + 1) h) (rE_cons (fun _ _ _ _ h => c_strengthens (d := d + 1) h) (regJ_ok (reg2_ok (d := d + 1))))))
end
section
/-! StruckColours$Sea: fights, days, what is sewn in -/
def SOK (V : Int → Int) (w l k : Int) : Prop := (0 ≤ V (6 + w) ∧ V (6 + w) < 4 ∧ 0 ≤ V (6 + l) ∧ V (6 + l) < 4) ∧ (0 ≤ ownV V w ∧ ownV V w ≤ 12 ∧ 0 ≤ partV V w (V (6 + l)) ∧ partV V w (V (6 + l)) ≤ 12) ∧ (1 ≤ k ∧ k ≤ 6) ∧ (0 ≤ V (36 + w) ∧ V (36 + w) ≤ 99 ∧ 0 ≤ V (42 + l) ∧ V (42 + l) ≤ 99 ∧ 0 ≤ V l ∧ V l ≤ 9) ∧ (0 ≤ V 49 ∧ V 49 ≤ 9999)
theorem sewP_n {V : Int → Int} {i f u k j : Int} (h1 : j ≠ 12 + 4 * i + f) (h2 : j ≠ 12 + 4 * i + u) : sewP V i f u k j = V j := by
  unfold sewP
  rw [upv_n h2, upv_n h1]
theorem goV_n {V : Int → Int} {i j : Int} (h1 : j ≠ 6 + i) (h2 : j ≠ 49) : goV V i j = V j := by
  unfold goV
  split
  · rfl
  · rw [upv_n h2, upv_n h1]
theorem goV_49 {V : Int → Int} {i : Int} (hi : 6 + i ≠ 49) (h0 : 0 ≤ V 49) (h1 : V 49 ≤ 9999) : 0 ≤ goV V i 49 ∧ goV V i 49 ≤ 9999 := by
  unfold goV
  split
  · exact ⟨h0, h1⟩
  · rw [upv_s]; omega
theorem up_ap (s : Mem) (x j v o i : Int) : up s x j v o i = if o = x ∧ i = j then v else s o i := congrArg id (rfl : up s x j v o i = _)
theorem na1 (a : Int) : (a = a + 1) = False := eq_false (by omega)
theorem na2 (a : Int) : (a = a + 2) = False := eq_false (by omega)
theorem na3 (a : Int) : (a = a + 3) = False := eq_false (by omega)
theorem na4 (a : Int) : (a = a + 4) = False := eq_false (by omega)
theorem na5 (a : Int) : (a = a + 5) = False := eq_false (by omega)
theorem na6 (a : Int) : (a = a + 6) = False := eq_false (by omega)
theorem strikeV_eq {V : Int → Int} {k w l : Int} (v0 : 0 ≤ w) (v2 : w < 6) (u0 : 0 ≤ l) (u2 : l < 6) (a1 : 0 ≤ V (6 + w)) (a3 : 0 ≤ V (6 + l)) (a2 : V (6 + w) < 4) (a4 : V (6 + l) < 4) : strikeV k V w l = goV (goV (upv (upv (upv (sewP V w (V (6 + w)) (V (6 + l)) (min k (ownV V w))) (36 + w) (min (V (36 + w) + 1) 99)) l (max (V l - 1) 0)) (42 + l) (min (V (42 + l) + 1) 99)) w) l := by
  unfold strikeV
  simp only []
  rw [sewP_n (j := 36 + w) (by omega) (by omega), upv_n (k := l) (by omega), sewP_n (j := l) (by omega) (by omega), upv_n (k := 42 + l) (by omega), upv_n (k := 42 + l) (by omega), sewP_n (j := 42 + l) (by omega) (by omega)]
def spStrikesTo : Sp := fun as t σ Q => aRIII as fun a w b k => SeaT t a ∧ hsB σ a w ∧ hsB σ a b ∧ w ≠ b ∧ SOK (vwS σ a) w b k ∧ ∀ σ', SeaFr σ σ' a → σ' a 0 = σ a 0 → vwS σ' a = strikeV k (vwS σ a) w b → Q none t σ'
set_option maxRecDepth 20000 in
theorem c_strikesTo {l : Launch} {g : GE} {d : Nat} {t : Tau} {σ : Mem} {Q : Post} {as : List TV} (h : spStrikesTo as t σ Q) : WPc l g 64 (d + 4) 0 0 as t σ Q := by
  obtain ⟨a, w, b, k, rfl, hs, ⟨v0, v1, v2⟩, ⟨u0, u1, u2⟩, hne, hS, h⟩ := aRIII_e h
  have hs' := hs
  obtain ⟨o, f1, f2, f3, f4, f5, f6, t1, t2, t3, t4, t5, t6, l1, l2, l3, l4, l5, l6⟩ := hs
  obtain ⟨⟨a1, a2, a3, a4⟩, ⟨o1, o2, o3, o4⟩, ⟨k1, k2⟩, ⟨n1, n2, n3, n4, n5, n6⟩, n7, n8⟩ := hS
  refine wg (by decide) reg3_ok ts_64 py_64 ml_64 30 (by simp [catT]) (fun N hN => ?_)
  have x1 : σ (a + 3) w = vwS σ a (6 + w) := vw_sd v0 v2
  have x2 : σ (a + 3) b = vwS σ a (6 + b) := vw_sd u0 u2
  have x3 : σ (a + 6) (4 * w + vwS σ a (6 + w)) = ownV (vwS σ a) w := by rw [vw_fl (σ := σ) (a := a) (j := 4 * w + vwS σ a (6 + w)) (by omega) (by omega)]; congr 1; omega
  simp [bs_64, hN _, x_iconst, x_ldc2_w, x_aconst_null, x_iload, x_lload, x_aload, x_istore, x_lstore, x_astore, x_iinc, x_iadd, x_isub, x_imul, x_idiv, x_irem, x_iand, x_ior, x_ixor, x_ishl, x_ishr, x_iushr, x_ineg, x_ladd, x_lsub, x_lmul, x_ldiv, x_lrem, x_lcmp, x_i2l, x_i2b, x_i2s, x_i2c, x_dup, x_pop, x_dup_x1, x_dup2, x_getfield, x_putfield, x_iaload, x_baload, x_saload, x_caload, x_daload, x_faload, x_laload, x_aaload, x_iastore, x_bastore, x_sastore, x_castore, x_lastore, x_aastore, x_arraylength, x_getstatic, x_goto, x_goto_w, x_ifCond, x_if_icmp, x_ifnull, x_ifnonnull, x_lookupswitch, x_invokevirtual, x_invokestatic, x_invokedynamic, x_ireturn, x_freturn, x_dreturn, x_lreturn, x_areturn, x_return_, pI_c, pL_c, pR_c, pV_i, pV_r, gI_c, gL_c, gR_c, pN_z, pN_s, lget_c, lins_z, lins_c, ldel_z, ldel_c, ldel2_z, ldel2_c, lset_i, lset_l, lset_r, lkeep_z, lkeep_c, largs_z, largs_c, cat_i, cat_l, cat_r, lkp_c, cnd_eq, cnd_ne, cnd_lt, cnd_ge, cnd_gt, cnd_le, swL_z, swL_c, rE_e, rOr_s, rOr_n, rlk_z, rlk_c, aR_c, aI_c, aII_c, aIII_c, aRI_c, aRII_c, aRIII_c, vJn, vJs, vlc, spHas, spIsPair, spSide, spParts, spOf, spMin, spMax, spResews, SeaPre, hsB, o, hs', v0, v1, v2, u0, u1, u2, hne, x1, x2, x3, a1, a2, a3, a4]
  refine ⟨⟨by omega, by simp only [partV, ownV] at *; omega, fun σ1 F1 z1 V1 => ?_⟩, fun z => by omega⟩
  have y1 : σ1 (a + 4) w = vwS σ a (36 + w) := by rw [vw_wn (σ := σ1) (a := a) v0 v2, V1, sewP_n (by omega) (by omega)]
  have y2 : σ1 (a + 2) b = vwS σ a b := by rw [vw_st (σ := σ1) (a := a) u0 u2, V1, sewP_n (by omega) (by omega)]
  have y3 : σ1 (a + 5) b = vwS σ a (42 + b) := by rw [vw_ls (σ := σ1) (a := a) u0 u2, V1, sewP_n (by omega) (by omega)]
  have c1 : w32 (vwS σ a (36 + w) + 1) = vwS σ a (36 + w) + 1 := w32_id (by omega) (by omega)
  have c2 : w32 (vwS σ a b - 1) = vwS σ a b - 1 := w32_id (by omega) (by omega)
  have c3 : w32 (vwS σ a (42 + b) + 1) = vwS σ a (42 + b) + 1 := w32_id (by omega) (by omega)
  have e5 : ∀ A B C, vwS (up (up (up σ1 (a + 4) w A) (a + 2) b B) (a + 5) b C) a = upv (upv (upv (sewP (vwS σ a) w (vwS σ a (6 + w)) (vwS σ a (6 + b)) (min k (ownV (vwS σ a) w))) (36 + w) A) b B) (42 + b) C := fun A B C => by
    rw [vwU_ls u0 u2, vwU_st u0 u2, vwU_wn v0 v2, V1]
  have g1 : ∀ A B C j, j ≠ 36 + w → j ≠ b → j ≠ 42 + b → j < 12 ∨ 36 ≤ j → upv (upv (upv (sewP (vwS σ a) w (vwS σ a (6 + w)) (vwS σ a (6 + b)) (min k (ownV (vwS σ a) w))) (36 + w) A) b B) (42 + b) C j = vwS σ a j := fun A B C j h1 h2 h3 h4 => by
    rw [upv_n h3, upv_n h2, upv_n h1, sewP_n (by omega) (by omega)]
  simp [sg_64_10_1, hN _, x_iconst, x_ldc2_w, x_aconst_null, x_iload, x_lload, x_aload, x_istore, x_lstore, x_astore, x_iinc, x_iadd, x_isub, x_imul, x_idiv, x_irem, x_iand, x_ior, x_ixor, x_ishl, x_ishr, x_iushr, x_ineg, x_ladd, x_lsub, x_lmul, x_ldiv, x_lrem, x_lcmp, x_i2l, x_i2b, x_i2s, x_i2c, x_dup, x_pop, x_dup_x1, x_dup2, x_getfield, x_putfield, x_iaload, x_baload, x_saload, x_caload, x_daload, x_faload, x_laload, x_aaload, x_iastore, x_bastore, x_sastore, x_castore, x_lastore, x_aastore, x_arraylength, x_getstatic, x_goto, x_goto_w, x_ifCond, x_if_icmp, x_ifnull, x_ifnonnull, x_lookupswitch, x_invokevirtual, x_invokestatic, x_invokedynamic, x_ireturn, x_freturn, x_dreturn, x_lreturn, x_areturn, x_return_, pI_c, pL_c, pR_c, pV_i, pV_r, gI_c, gL_c, gR_c, pN_z, pN_s, lget_c, lins_z, lins_c, ldel_z, ldel_c, ldel2_z, ldel2_c, lset_i, lset_l, lset_r, lkeep_z, lkeep_c, largs_z, largs_c, cat_i, cat_l, cat_r, lkp_c, cnd_eq, cnd_ne, cnd_lt, cnd_ge, cnd_gt, cnd_le, swL_z, swL_c, rE_e, rOr_s, rOr_n, rlk_z, rlk_c, aR_c, aI_c, aII_c, aIII_c, aRI_c, aRII_c, aRIII_c, vJn, vJs, vlc, spMin, spMax, spGo, SeaPre, hsB, o, hs', v0, v1, v2, u0, u1, u2, f2, t2, l2, f4, t4, l4, f5, t5, l5, up_ap, y1, y2, y3, z1, na2, na4, na5, c1, c2, c3, e5]
  rw [g1 _ _ _ (6 + w) (by omega) (by omega) (by omega) (by omega), g1 _ _ _ 49 (by omega) (by omega) (by omega) (by omega)]
  refine ⟨by omega, by omega, fun σ2 F2 z2 V2 => ?_⟩
  have d1 : vwS σ2 a (6 + b) = vwS σ a (6 + b) := by rw [V2, goV_n (by omega) (by omega), g1 _ _ _ (6 + b) (by omega) (by omega) (by omega) (by omega)]
  have d2 := goV_49 (V := upv (upv (upv (sewP (vwS σ a) w (vwS σ a (6 + w)) (vwS σ a (6 + b)) (min k (ownV (vwS σ a) w))) (36 + w) (min (vwS σ a (36 + w) + 1) 99)) b (max (vwS σ a b - 1) 0)) (42 + b) (min (vwS σ a (42 + b) + 1) 99)) (i := w) (by omega) (by rw [g1 _ _ _ 49 (by omega) (by omega) (by omega) (by omega)]; omega) (by rw [g1 _ _ _ 49 (by omega) (by omega) (by omega) (by omega)]; omega)
  rw [← V2] at d2
  simp [sg_64_10_2, hN _, x_iconst, x_ldc2_w, x_aconst_null, x_iload, x_lload, x_aload, x_istore, x_lstore, x_astore, x_iinc, x_iadd, x_isub, x_imul, x_idiv, x_irem, x_iand, x_ior, x_ixor, x_ishl, x_ishr, x_iushr, x_ineg, x_ladd, x_lsub, x_lmul, x_ldiv, x_lrem, x_lcmp, x_i2l, x_i2b, x_i2s, x_i2c, x_dup, x_pop, x_dup_x1, x_dup2, x_getfield, x_putfield, x_iaload, x_baload, x_saload, x_caload, x_daload, x_faload, x_laload, x_aaload, x_iastore, x_bastore, x_sastore, x_castore, x_lastore, x_aastore, x_arraylength, x_getstatic, x_goto, x_goto_w, x_ifCond, x_if_icmp, x_ifnull, x_ifnonnull, x_lookupswitch, x_invokevirtual, x_invokestatic, x_invokedynamic, x_ireturn, x_freturn, x_dreturn, x_lreturn, x_areturn, x_return_, pI_c, pL_c, pR_c, pV_i, pV_r, gI_c, gL_c, gR_c, pN_z, pN_s, lget_c, lins_z, lins_c, ldel_z, ldel_c, ldel2_z, ldel2_c, lset_i, lset_l, lset_r, lkeep_z, lkeep_c, largs_z, largs_c, cat_i, cat_l, cat_r, lkp_c, cnd_eq, cnd_ne, cnd_lt, cnd_ge, cnd_gt, cnd_le, swL_z, swL_c, rE_e, rOr_s, rOr_n, rlk_z, rlk_c, aR_c, aI_c, aII_c, aIII_c, aRI_c, aRII_c, aRIII_c, vJn, vJs, vlc, spGo, SeaPre, hsB, o, hs', u0, u1, u2, z2, d1, a3, a4, d2]
  intro σ3 F3 z3 V3
  simp [sg_64_10_3, hN _, x_iconst, x_ldc2_w, x_aconst_null, x_iload, x_lload, x_aload, x_istore, x_lstore, x_astore, x_iinc, x_iadd, x_isub, x_imul, x_idiv, x_irem, x_iand, x_ior, x_ixor, x_ishl, x_ishr, x_iushr, x_ineg, x_ladd, x_lsub, x_lmul, x_ldiv, x_lrem, x_lcmp, x_i2l, x_i2b, x_i2s, x_i2c, x_dup, x_pop, x_dup_x1, x_dup2, x_getfield, x_putfield, x_iaload, x_baload, x_saload, x_caload, x_daload, x_faload, x_laload, x_aaload, x_iastore, x_bastore, x_sastore, x_castore, x_lastore, x_aastore, x_arraylength, x_getstatic, x_goto, x_goto_w, x_ifCond, x_if_icmp, x_ifnull, x_ifnonnull, x_lookupswitch, x_invokevirtual, x_invokestatic, x_invokedynamic, x_ireturn, x_freturn, x_dreturn, x_lreturn, x_areturn, x_return_, pI_c, pL_c, pR_c, pV_i, pV_r, gI_c, gL_c, gR_c, pN_z, pN_s, lget_c, lins_z, lins_c, ldel_z, ldel_c, ldel2_z, ldel2_c, lset_i, lset_l, lset_r, lkeep_z, lkeep_c, largs_z, largs_c, cat_i, cat_l, cat_r, lkp_c, cnd_eq, cnd_ne, cnd_lt, cnd_ge, cnd_gt, cnd_le, swL_z, swL_c, rE_e, rOr_s, rOr_n, rlk_z, rlk_c, aR_c, aI_c, aII_c, aIII_c, aRI_c, aRII_c, aRIII_c, vJn, vJs, vlc]
  refine h σ3 (((F1.up (by omega)).up (by omega)).up (by omega) |>.tr (F2.tr F3)) (by omega) ?_
  rw [V3, V2, strikeV_eq v0 v2 u0 u2 a1 a3 a2 a4]
end
section
/-! StruckColours$Sea: sewsIn, strikesAll, mendsFlag -/
/-- what a ship's row must be for these -/
def ShOK (V : Int → Int) (s : Int) : Prop := (0 ≤ V (6 + s) ∧ V (6 + s) < 4) ∧ (∀ f, 0 ≤ f → f < 4 → 0 ≤ partV V s f ∧ partV V s f ≤ 12) ∧ (0 ≤ V 49 ∧ V 49 ≤ 9999)
def spSewsIn : Sp := fun as t σ Q => aRIII as fun a s f n => SeaT t a ∧ (hsB σ a s → ShOK (vwS σ a) s) ∧
  (¬ (hsB σ a s ∧ (0 ≤ f ∧ f < 4) ∧ (1 ≤ n ∧ n ≤ 12)) → Q (some (vI (-1))) t σ) ∧
  (hsB σ a s → (0 ≤ f ∧ f < 4) → (1 ≤ n ∧ n ≤ 12) → (ownV (vwS σ a) s < n → Q (some (vI (-2))) t σ) ∧ (¬ ownV (vwS σ a) s < n → (vwS σ a (6 + s) = f → Q (some (vI (-3))) t σ) ∧ (¬ vwS σ a (6 + s) = f → ∀ σ', SeaFr σ σ' a → σ' a 0 = σ a 0 → vwS σ' a = sewV (vwS σ a) s f n → Q (some (vI (sewV (vwS σ a) s f n (6 + s)))) t σ')))
set_option maxRecDepth 20000 in
theorem c_sewsIn {l : Launch} {g : GE} {d : Nat} {t : Tau} {σ : Mem} {Q : Post} {as : List TV} (h : spSewsIn as t σ Q) : WPc l g 67 (d + 4) 0 0 as t σ Q := by
  obtain ⟨a, s, f, n, rfl, hs, hW, h1, h2⟩ := aRIII_e h
  have hs' := hs
  obtain ⟨o, f1, f2, f3, f4, f5, f6, t1, t2, t3, t4, t5, t6, l1, l2, l3, l4, l5, l6⟩ := hs
  by_cases hv : hsB σ a s ∧ (0 ≤ f ∧ f < 4) ∧ (1 ≤ n ∧ n ≤ 12)
  · obtain ⟨⟨v0, v1, v2⟩, ⟨q0, q4⟩, n1, n2⟩ := hv
    obtain ⟨⟨a1, a2⟩, hp, p7, p8⟩ := hW ⟨v0, v1, v2⟩
    obtain ⟨h2, h3⟩ := h2 ⟨v0, v1, v2⟩ ⟨q0, q4⟩ ⟨n1, n2⟩
    obtain ⟨o1, o2⟩ := hp _ a1 a2
    obtain ⟨o3, o4⟩ := hp _ q0 q4
    refine wg (by decide) reg3_ok ts_67 py_67 ml_67 30 (by simp [catT]) (fun N hN => ?_)
    have x1 : σ (a + 3) s = vwS σ a (6 + s) := vw_sd v0 v2
    have x3 : σ (a + 6) (4 * s + vwS σ a (6 + s)) = ownV (vwS σ a) s := by rw [vw_fl (σ := σ) (a := a) (j := 4 * s + vwS σ a (6 + s)) (by omega) (by omega)]; congr 1; omega
    have m1 : ¬ n < 1 := by omega
    have m2 : ¬ 12 < n := by omega
    simp [bs_67, hN _, x_iconst, x_ldc2_w, x_aconst_null, x_iload, x_lload, x_aload, x_istore, x_lstore, x_astore, x_iinc, x_iadd, x_isub, x_imul, x_idiv, x_irem, x_iand, x_ior, x_ixor, x_ishl, x_ishr, x_iushr, x_ineg, x_ladd, x_lsub, x_lmul, x_ldiv, x_lrem, x_lcmp, x_i2l, x_i2b, x_i2s, x_i2c, x_dup, x_pop, x_dup_x1, x_dup2, x_getfield, x_putfield, x_iaload, x_baload, x_saload, x_caload, x_daload, x_faload, x_laload, x_aaload, x_iastore, x_bastore, x_sastore, x_castore, x_lastore, x_aastore, x_arraylength, x_getstatic, x_goto, x_goto_w, x_ifCond, x_if_icmp, x_ifnull, x_ifnonnull, x_lookupswitch, x_invokevirtual, x_invokestatic, x_invokedynamic, x_ireturn, x_freturn, x_dreturn, x_lreturn, x_areturn, x_return_, pI_c, pL_c, pR_c, pV_i, pV_r, gI_c, gL_c, gR_c, pN_z, pN_s, lget_c, lins_z, lins_c, ldel_z, ldel_c, ldel2_z, ldel2_c, lset_i, lset_l, lset_r, lkeep_z, lkeep_c, largs_z, largs_c, cat_i, cat_l, cat_r, lkp_c, cnd_eq, cnd_ne, cnd_lt, cnd_ge, cnd_gt, cnd_le, swL_z, swL_c, rE_e, rOr_s, rOr_n, rlk_z, rlk_c, aR_c, aI_c, aII_c, aIII_c, aRI_c, aRII_c, aRIII_c, vJn, vJs, vlc, spHas, spSide, spParts, spOf, spResews, SeaPre, hsB, o, hs', v0, v1, v2, x1, x3, a1, a2, q0, q4, n1, n2, m1, m2]
    refine ⟨fun z => by omega, fun z => by omega, fun z1 => ⟨fun z2 => ⟨by omega, ⟨o1, by omega, o3, by omega⟩, fun σ1 F1 zz V1 => ?_⟩, fun z2 => (h3 (by omega)).1 z2⟩, fun z => h2 z⟩
    have d1 : vwS σ1 a (6 + s) = vwS σ a (6 + s) := by rw [V1, sewP_n (by omega) (by omega)]
    have d2 : vwS σ1 a 49 = vwS σ a 49 := by rw [V1, sewP_n (by omega) (by omega)]
    simp [sg_67_57_1, hN _, x_iconst, x_ldc2_w, x_aconst_null, x_iload, x_lload, x_aload, x_istore, x_lstore, x_astore, x_iinc, x_iadd, x_isub, x_imul, x_idiv, x_irem, x_iand, x_ior, x_ixor, x_ishl, x_ishr, x_iushr, x_ineg, x_ladd, x_lsub, x_lmul, x_ldiv, x_lrem, x_lcmp, x_i2l, x_i2b, x_i2s, x_i2c, x_dup, x_pop, x_dup_x1, x_dup2, x_getfield, x_putfield, x_iaload, x_baload, x_saload, x_caload, x_daload, x_faload, x_laload, x_aaload, x_iastore, x_bastore, x_sastore, x_castore, x_lastore, x_aastore, x_arraylength, x_getstatic, x_goto, x_goto_w, x_ifCond, x_if_icmp, x_ifnull, x_ifnonnull, x_lookupswitch, x_invokevirtual, x_invokestatic, x_invokedynamic, x_ireturn, x_freturn, x_dreturn, x_lreturn, x_areturn, x_return_, pI_c, pL_c, pR_c, pV_i, pV_r, gI_c, gL_c, gR_c, pN_z, pN_s, lget_c, lins_z, lins_c, ldel_z, ldel_c, ldel2_z, ldel2_c, lset_i, lset_l, lset_r, lkeep_z, lkeep_c, largs_z, largs_c, cat_i, cat_l, cat_r, lkp_c, cnd_eq, cnd_ne, cnd_lt, cnd_ge, cnd_gt, cnd_le, swL_z, swL_c, rE_e, rOr_s, rOr_n, rlk_z, rlk_c, aR_c, aI_c, aII_c, aIII_c, aRI_c, aRII_c, aRIII_c, vJn, vJs, vlc, spGo, SeaPre, hsB, o, hs', v0, v1, v2, zz, d1, d2, a1, a2, p7, p8]
    intro σ2 F2 zz2 V2
    have x9 : σ2 (a + 3) s = vwS σ2 a (6 + s) := vw_sd v0 v2
    simp [sg_67_57_2, hN _, x_iconst, x_ldc2_w, x_aconst_null, x_iload, x_lload, x_aload, x_istore, x_lstore, x_astore, x_iinc, x_iadd, x_isub, x_imul, x_idiv, x_irem, x_iand, x_ior, x_ixor, x_ishl, x_ishr, x_iushr, x_ineg, x_ladd, x_lsub, x_lmul, x_ldiv, x_lrem, x_lcmp, x_i2l, x_i2b, x_i2s, x_i2c, x_dup, x_pop, x_dup_x1, x_dup2, x_getfield, x_putfield, x_iaload, x_baload, x_saload, x_caload, x_daload, x_faload, x_laload, x_aaload, x_iastore, x_bastore, x_sastore, x_castore, x_lastore, x_aastore, x_arraylength, x_getstatic, x_goto, x_goto_w, x_ifCond, x_if_icmp, x_ifnull, x_ifnonnull, x_lookupswitch, x_invokevirtual, x_invokestatic, x_invokedynamic, x_ireturn, x_freturn, x_dreturn, x_lreturn, x_areturn, x_return_, pI_c, pL_c, pR_c, pV_i, pV_r, gI_c, gL_c, gR_c, pN_z, pN_s, lget_c, lins_z, lins_c, ldel_z, ldel_c, ldel2_z, ldel2_c, lset_i, lset_l, lset_r, lkeep_z, lkeep_c, largs_z, largs_c, cat_i, cat_l, cat_r, lkp_c, cnd_eq, cnd_ne, cnd_lt, cnd_ge, cnd_gt, cnd_le, swL_z, swL_c, rE_e, rOr_s, rOr_n, rlk_z, rlk_c, aR_c, aI_c, aII_c, aIII_c, aRI_c, aRII_c, aRIII_c, vJn, vJs, vlc, spOf, hsB, o, hs', v0, v1, v2, zz2, x9]
    rw [V2, V1]
    exact (h3 (by omega)).2 z2 σ2 (F1.tr F2) (by omega) (by rw [V2, V1]; rfl)
  · have h1 := h1 hv
    refine wg (by decide) reg3_ok ts_67 py_67 ml_67 30 (by simp [catT]) (fun N hN => ?_)
    simp [bs_67, hN _, x_iconst, x_ldc2_w, x_aconst_null, x_iload, x_lload, x_aload, x_istore, x_lstore, x_astore, x_iinc, x_iadd, x_isub, x_imul, x_idiv, x_irem, x_iand, x_ior, x_ixor, x_ishl, x_ishr, x_iushr, x_ineg, x_ladd, x_lsub, x_lmul, x_ldiv, x_lrem, x_lcmp, x_i2l, x_i2b, x_i2s, x_i2c, x_dup, x_pop, x_dup_x1, x_dup2, x_getfield, x_putfield, x_iaload, x_baload, x_saload, x_caload, x_daload, x_faload, x_laload, x_aaload, x_iastore, x_bastore, x_sastore, x_castore, x_lastore, x_aastore, x_arraylength, x_getstatic, x_goto, x_goto_w, x_ifCond, x_if_icmp, x_ifnull, x_ifnonnull, x_lookupswitch, x_invokevirtual, x_invokestatic, x_invokedynamic, x_ireturn, x_freturn, x_dreturn, x_lreturn, x_areturn, x_return_, pI_c, pL_c, pR_c, pV_i, pV_r, gI_c, gL_c, gR_c, pN_z, pN_s, lget_c, lins_z, lins_c, ldel_z, ldel_c, ldel2_z, ldel2_c, lset_i, lset_l, lset_r, lkeep_z, lkeep_c, largs_z, largs_c, cat_i, cat_l, cat_r, lkp_c, cnd_eq, cnd_ne, cnd_lt, cnd_ge, cnd_gt, cnd_le, swL_z, swL_c, rE_e, rOr_s, rOr_n, rlk_z, rlk_c, aR_c, aI_c, aII_c, aIII_c, aRI_c, aRII_c, aRIII_c, vJn, vJs, vlc, spHas, spSide, spParts, spOf, spResews, SeaPre, hsB, o, hs']
    refine ⟨fun _ => h1, fun r1 r2 r3 => ⟨fun _ => h1, fun r4 r5 => ⟨fun _ => h1, fun r6 => ⟨fun r7 => (hv ⟨⟨r1, r2, r3⟩, ⟨r4, r5⟩, r6, r7⟩).elim, fun _ => h1⟩⟩⟩⟩
def spStrikesAll : Sp := fun as t σ Q => aRII as fun a s f => SeaT t a ∧ (hsB σ a s → ShOK (vwS σ a) s) ∧
  (¬ (hsB σ a s ∧ (0 ≤ f ∧ f < 4)) → Q (some (vI (-1))) t σ) ∧
  (hsB σ a s → (0 ≤ f ∧ f < 4) → (partV (vwS σ a) s f = 12 → Q (some (vI (-2))) t σ) ∧ (¬ partV (vwS σ a) s f = 12 → ∀ σ', SeaFr σ σ' a → σ' a 0 = σ a 0 → vwS σ' a = yieldV (vwS σ a) s f → Q (some (vI (12 - partV (vwS σ a) s f))) t σ'))
set_option maxRecDepth 20000 in
theorem c_strikesAll {l : Launch} {g : GE} {d : Nat} {t : Tau} {σ : Mem} {Q : Post} {as : List TV} (h : spStrikesAll as t σ Q) : WPc l g 68 (d + 4) 0 0 as t σ Q := by
  obtain ⟨a, s, f, rfl, hs, hW, h1, h2⟩ := aRII_e h
  have hs' := hs
  obtain ⟨o, f1, f2, f3, f4, f5, f6, t1, t2, t3, t4, t5, t6, l1, l2, l3, l4, l5, l6⟩ := hs
  by_cases hv : hsB σ a s ∧ (0 ≤ f ∧ f < 4)
  · obtain ⟨⟨v0, v1, v2⟩, q0, q4⟩ := hv
    obtain ⟨⟨a1, a2⟩, hp, p7, p8⟩ := hW ⟨v0, v1, v2⟩
    obtain ⟨h2, h3⟩ := h2 ⟨v0, v1, v2⟩ ⟨q0, q4⟩
    obtain ⟨o3, o4⟩ := hp _ q0 q4
    refine wg (by decide) reg3_ok ts_68 py_68 ml_68 30 (by simp [catT]) (fun N hN => ?_)
    have x3 : σ (a + 6) (4 * s + f) = partV (vwS σ a) s f := by rw [vw_fl (σ := σ) (a := a) (j := 4 * s + f) (by omega) (by omega)]; congr 1; omega
    have e1 : w32 (12 - partV (vwS σ a) s f) = 12 - partV (vwS σ a) s f := w32_id (by omega) (by omega)
    simp [bs_68, hN _, x_iconst, x_ldc2_w, x_aconst_null, x_iload, x_lload, x_aload, x_istore, x_lstore, x_astore, x_iinc, x_iadd, x_isub, x_imul, x_idiv, x_irem, x_iand, x_ior, x_ixor, x_ishl, x_ishr, x_iushr, x_ineg, x_ladd, x_lsub, x_lmul, x_ldiv, x_lrem, x_lcmp, x_i2l, x_i2b, x_i2s, x_i2c, x_dup, x_pop, x_dup_x1, x_dup2, x_getfield, x_putfield, x_iaload, x_baload, x_saload, x_caload, x_daload, x_faload, x_laload, x_aaload, x_iastore, x_bastore, x_sastore, x_castore, x_lastore, x_aastore, x_arraylength, x_getstatic, x_goto, x_goto_w, x_ifCond, x_if_icmp, x_ifnull, x_ifnonnull, x_lookupswitch, x_invokevirtual, x_invokestatic, x_invokedynamic, x_ireturn, x_freturn, x_dreturn, x_lreturn, x_areturn, x_return_, pI_c, pL_c, pR_c, pV_i, pV_r, gI_c, gL_c, gR_c, pN_z, pN_s, lget_c, lins_z, lins_c, ldel_z, ldel_c, ldel2_z, ldel2_c, lset_i, lset_l, lset_r, lkeep_z, lkeep_c, largs_z, largs_c, cat_i, cat_l, cat_r, lkp_c, cnd_eq, cnd_ne, cnd_lt, cnd_ge, cnd_gt, cnd_le, swL_z, swL_c, rE_e, rOr_s, rOr_n, rlk_z, rlk_c, aR_c, aI_c, aII_c, aIII_c, aRI_c, aRII_c, aRIII_c, vJn, vJs, vlc, spHas, spSide, spParts, spOf, spHoists, SeaPre, hsB, o, hs', v0, v1, v2, x3, q0, q4, e1]
    refine ⟨fun z => by omega, ⟨fun z1 σ1 F1 zz V1 => ?_, fun z1 => h2 (by omega)⟩, fun z => by omega⟩
    simp [sg_68_34_1, hN _, x_iconst, x_ldc2_w, x_aconst_null, x_iload, x_lload, x_aload, x_istore, x_lstore, x_astore, x_iinc, x_iadd, x_isub, x_imul, x_idiv, x_irem, x_iand, x_ior, x_ixor, x_ishl, x_ishr, x_iushr, x_ineg, x_ladd, x_lsub, x_lmul, x_ldiv, x_lrem, x_lcmp, x_i2l, x_i2b, x_i2s, x_i2c, x_dup, x_pop, x_dup_x1, x_dup2, x_getfield, x_putfield, x_iaload, x_baload, x_saload, x_caload, x_daload, x_faload, x_laload, x_aaload, x_iastore, x_bastore, x_sastore, x_castore, x_lastore, x_aastore, x_arraylength, x_getstatic, x_goto, x_goto_w, x_ifCond, x_if_icmp, x_ifnull, x_ifnonnull, x_lookupswitch, x_invokevirtual, x_invokestatic, x_invokedynamic, x_ireturn, x_freturn, x_dreturn, x_lreturn, x_areturn, x_return_, pI_c, pL_c, pR_c, pV_i, pV_r, gI_c, gL_c, gR_c, pN_z, pN_s, lget_c, lins_z, lins_c, ldel_z, ldel_c, ldel2_z, ldel2_c, lset_i, lset_l, lset_r, lkeep_z, lkeep_c, largs_z, largs_c, cat_i, cat_l, cat_r, lkp_c, cnd_eq, cnd_ne, cnd_lt, cnd_ge, cnd_gt, cnd_le, swL_z, swL_c, rE_e, rOr_s, rOr_n, rlk_z, rlk_c, aR_c, aI_c, aII_c, aIII_c, aRI_c, aRII_c, aRIII_c, vJn, vJs, vlc]
    exact h3 (by omega) σ1 F1 zz V1
  · have h1 := h1 hv
    refine wg (by decide) reg3_ok ts_68 py_68 ml_68 30 (by simp [catT]) (fun N hN => ?_)
    simp [bs_68, hN _, x_iconst, x_ldc2_w, x_aconst_null, x_iload, x_lload, x_aload, x_istore, x_lstore, x_astore, x_iinc, x_iadd, x_isub, x_imul, x_idiv, x_irem, x_iand, x_ior, x_ixor, x_ishl, x_ishr, x_iushr, x_ineg, x_ladd, x_lsub, x_lmul, x_ldiv, x_lrem, x_lcmp, x_i2l, x_i2b, x_i2s, x_i2c, x_dup, x_pop, x_dup_x1, x_dup2, x_getfield, x_putfield, x_iaload, x_baload, x_saload, x_caload, x_daload, x_faload, x_laload, x_aaload, x_iastore, x_bastore, x_sastore, x_castore, x_lastore, x_aastore, x_arraylength, x_getstatic, x_goto, x_goto_w, x_ifCond, x_if_icmp, x_ifnull, x_ifnonnull, x_lookupswitch, x_invokevirtual, x_invokestatic, x_invokedynamic, x_ireturn, x_freturn, x_dreturn, x_lreturn, x_areturn, x_return_, pI_c, pL_c, pR_c, pV_i, pV_r, gI_c, gL_c, gR_c, pN_z, pN_s, lget_c, lins_z, lins_c, ldel_z, ldel_c, ldel2_z, ldel2_c, lset_i, lset_l, lset_r, lkeep_z, lkeep_c, largs_z, largs_c, cat_i, cat_l, cat_r, lkp_c, cnd_eq, cnd_ne, cnd_lt, cnd_ge, cnd_gt, cnd_le, swL_z, swL_c, rE_e, rOr_s, rOr_n, rlk_z, rlk_c, aR_c, aI_c, aII_c, aIII_c, aRI_c, aRII_c, aRIII_c, vJn, vJs, vlc, spHas, spSide, spParts, spOf, spHoists, SeaPre, hsB, o, hs']
    refine ⟨fun _ => h1, fun r1 r2 r3 => ⟨fun r4 r5 => (hv ⟨⟨r1, r2, r3⟩, r4, r5⟩).elim, fun _ => h1⟩⟩
/-- which SIDE mends: the loop's turn -/
theorem men_step {l : Launch} {g : GE} {d : Nat} {t : Tau} {σ : Mem} {Q : Post} {a s w : Int} {k : Nat} (hs : SeaT t a) (hv : hsB σ a s) (hS : ShOK (vwS σ a) s) (hk : k < 4) (hw : w = fewS (vwS σ a) s k) (hw2 : w = -1 ∨ 0 ≤ w ∧ w < 4) (K : Wp l g 66 (d + 4) 0 0 4 [(0, vR a), (1, vI s), (2, vI (fewS (vwS σ a) s (k + 1))), (3, vI (k + 1 : Nat))] [] t σ Q) :
    Wp l g 66 (d + 4) 0 0 4 [(0, vR a), (1, vI s), (2, vI w), (3, vI k)] [] t σ Q := by
  have hs' := hs
  obtain ⟨o, f1, f2, f3, f4, f5, f6, t1, t2, t3, t4, t5, t6, l1, l2, l3, l4, l5, l6⟩ := hs
  obtain ⟨v0, v1, v2⟩ := hv
  obtain ⟨⟨a1, a2⟩, hp, p7, p8⟩ := hS
  have nk : ¬ (4 : Int) ≤ k := by omega
  have k0 : (0 : Int) ≤ k := by omega
  have k4 : (k : Int) < 4 := by omega
  have e2 := w32_succ (k := k) (by omega)
  have x1 : σ (a + 3) s = vwS σ a (6 + s) := vw_sd v0 v2
  have x3 : σ (a + 6) (4 * s + k) = partV (vwS σ a) s k := by rw [vw_fl (σ := σ) (a := a) (j := 4 * s + k) (by omega) (by omega)]; congr 1; omega
  have x4 : 0 ≤ w → w < 4 → σ (a + 6) (4 * s + w) = partV (vwS σ a) s w := fun z1 z2 => by rw [vw_fl (σ := σ) (a := a) (j := 4 * s + w) (by omega) (by omega)]; congr 1; omega
  refine wa (by decide) reg3_ok tk_66 30 (fun N hN => ?_)
  have K1 : ∀ y, y = fewS (vwS σ a) s (k + 1) → Wp l g 66 (d + 4) 0 0 4 [(0, vR a), (1, vI s), (2, vI y), (3, vI ((k : Int) + 1))] [] t σ Q := fun y hy => by
    rw [hy, show (k : Int) + 1 = ((k + 1 : Nat) : Int) by omega]
    exact K
  have hfe : fewS (vwS σ a) s (k + 1) = if (k : Int) ≠ vwS σ a (6 + s) ∧ 0 < partV (vwS σ a) s k ∧ (w = -1 ∨ partV (vwS σ a) s k < partV (vwS σ a) s w) then (k : Int) else w := by rw [hw]; rfl
  simp [bl_66, hN _, x_iconst, x_ldc2_w, x_aconst_null, x_iload, x_lload, x_aload, x_istore, x_lstore, x_astore, x_iinc, x_iadd, x_isub, x_imul, x_idiv, x_irem, x_iand, x_ior, x_ixor, x_ishl, x_ishr, x_iushr, x_ineg, x_ladd, x_lsub, x_lmul, x_ldiv, x_lrem, x_lcmp, x_i2l, x_i2b, x_i2s, x_i2c, x_dup, x_pop, x_dup_x1, x_dup2, x_getfield, x_putfield, x_iaload, x_baload, x_saload, x_caload, x_daload, x_faload, x_laload, x_aaload, x_iastore, x_bastore, x_sastore, x_castore, x_lastore, x_aastore, x_arraylength, x_getstatic, x_goto, x_goto_w, x_ifCond, x_if_icmp, x_ifnull, x_ifnonnull, x_lookupswitch, x_invokevirtual, x_invokestatic, x_invokedynamic, x_ireturn, x_freturn, x_dreturn, x_lreturn, x_areturn, x_return_, pI_c, pL_c, pR_c, pV_i, pV_r, gI_c, gL_c, gR_c, pN_z, pN_s, lget_c, lins_z, lins_c, ldel_z, ldel_c, ldel2_z, ldel2_c, lset_i, lset_l, lset_r, lkeep_z, lkeep_c, largs_z, largs_c, cat_i, cat_l, cat_r, lkp_c, cnd_eq, cnd_ne, cnd_lt, cnd_ge, cnd_gt, cnd_le, swL_z, swL_c, rE_e, rOr_s, rOr_n, rlk_z, rlk_c, aR_c, aI_c, aII_c, aIII_c, aRI_c, aRII_c, aRIII_c, vJn, vJs, vlc, spHas, spSide, spParts, spOf, hsB, o, hs', v0, v1, v2, x1, x3, a1, a2, k0, k4, e2]
  refine ⟨fun z => absurd z nk, fun z => K1 w (by rw [hfe, if_neg (fun q => q.1 z)]), fun z1 => ⟨fun z2 => K1 w (by rw [hfe, if_neg (fun q => absurd q.2.1 (Int.not_lt.mpr z2))]), fun z2 => ⟨fun z3 => K1 k (by rw [hfe, if_pos ⟨z1, z2, Or.inl z3⟩]), fun z3 => ?_⟩⟩⟩
  have hw3 : 0 ≤ w ∧ w < 4 := by omega
  rw [if_pos hw3, x4 hw3.1 hw3.2]
  exact ⟨fun z4 => K1 w (by rw [hfe, if_neg (fun q => q.2.2.elim z3 (fun q => absurd q (Int.not_lt.mpr z4)))]), fun z4 => K1 k (by rw [hfe, if_pos ⟨z1, z2, Or.inr z4⟩])⟩
theorem fewS_b (V : Int → Int) (i : Int) : ∀ n : Nat, fewS V i n = -1 ∨ (0 ≤ fewS V i n ∧ fewS V i n < n)
  | 0 => Or.inl rfl
  | n + 1 => by
    have ih := fewS_b V i n
    unfold fewS
    split <;> omega
def spMends : Sp := fun as t σ Q => aRI as fun a s => SeaPre t σ a s ∧ ShOK (vwS σ a) s ∧ ∀ σ', SeaFr σ σ' a → σ' a 0 = σ a 0 → vwS σ' a = mendV (vwS σ a) s → Q none t σ'
theorem men_end {l : Launch} {g : GE} {d : Nat} {t : Tau} {σ : Mem} {Q : Post} {a s : Int} (hs : SeaT t a) (hv : hsB σ a s) (hS : ShOK (vwS σ a) s) (h : ∀ σ', SeaFr σ σ' a → σ' a 0 = σ a 0 → vwS σ' a = mendV (vwS σ a) s → Q none t σ') :
    Wp l g 66 (d + 4) 0 0 4 [(0, vR a), (1, vI s), (2, vI (fewS (vwS σ a) s 4)), (3, vI 4)] [] t σ Q := by
  have hs' := hs
  obtain ⟨o, f1, f2, f3, f4, f5, f6, t1, t2, t3, t4, t5, t6, l1, l2, l3, l4, l5, l6⟩ := hs
  obtain ⟨v0, v1, v2⟩ := hv
  obtain ⟨⟨a1, a2⟩, hp, p7, p8⟩ := hS
  have hb := fewS_b (vwS σ a) s 4
  have x1 : σ (a + 3) s = vwS σ a (6 + s) := vw_sd v0 v2
  obtain ⟨o1, o2⟩ := hp _ a1 a2
  refine wa (by decide) reg3_ok tk_66 30 (fun N hN => ?_)
  simp [bl_66, hN _, x_iconst, x_ldc2_w, x_aconst_null, x_iload, x_lload, x_aload, x_istore, x_lstore, x_astore, x_iinc, x_iadd, x_isub, x_imul, x_idiv, x_irem, x_iand, x_ior, x_ixor, x_ishl, x_ishr, x_iushr, x_ineg, x_ladd, x_lsub, x_lmul, x_ldiv, x_lrem, x_lcmp, x_i2l, x_i2b, x_i2s, x_i2c, x_dup, x_pop, x_dup_x1, x_dup2, x_getfield, x_putfield, x_iaload, x_baload, x_saload, x_caload, x_daload, x_faload, x_laload, x_aaload, x_iastore, x_bastore, x_sastore, x_castore, x_lastore, x_aastore, x_arraylength, x_getstatic, x_goto, x_goto_w, x_ifCond, x_if_icmp, x_ifnull, x_ifnonnull, x_lookupswitch, x_invokevirtual, x_invokestatic, x_invokedynamic, x_ireturn, x_freturn, x_dreturn, x_lreturn, x_areturn, x_return_, pI_c, pL_c, pR_c, pV_i, pV_r, gI_c, gL_c, gR_c, pN_z, pN_s, lget_c, lins_z, lins_c, ldel_z, ldel_c, ldel2_z, ldel2_c, lset_i, lset_l, lset_r, lkeep_z, lkeep_c, largs_z, largs_c, cat_i, cat_l, cat_r, lkp_c, cnd_eq, cnd_ne, cnd_lt, cnd_ge, cnd_gt, cnd_le, swL_z, swL_c, rE_e, rOr_s, rOr_n, rlk_z, rlk_c, aR_c, aI_c, aII_c, aIII_c, aRI_c, aRII_c, aRIII_c, vJn, vJs, vlc, spHas, spSide, spParts, spOf, hsB, o, hs', v0, v1, v2, x1]
  refine ⟨fun z => h σ SeaFr.rf rfl (by unfold mendV; rw [if_pos z]), fun z => ?_⟩
  have hw3 : 0 ≤ fewS (vwS σ a) s 4 ∧ fewS (vwS σ a) s 4 < 4 := by omega
  obtain ⟨o3, o4⟩ := hp _ hw3.1 hw3.2
  simp [spResews, hN _, x_iconst, x_ldc2_w, x_aconst_null, x_iload, x_lload, x_aload, x_istore, x_lstore, x_astore, x_iinc, x_iadd, x_isub, x_imul, x_idiv, x_irem, x_iand, x_ior, x_ixor, x_ishl, x_ishr, x_iushr, x_ineg, x_ladd, x_lsub, x_lmul, x_ldiv, x_lrem, x_lcmp, x_i2l, x_i2b, x_i2s, x_i2c, x_dup, x_pop, x_dup_x1, x_dup2, x_getfield, x_putfield, x_iaload, x_baload, x_saload, x_caload, x_daload, x_faload, x_laload, x_aaload, x_iastore, x_bastore, x_sastore, x_castore, x_lastore, x_aastore, x_arraylength, x_getstatic, x_goto, x_goto_w, x_ifCond, x_if_icmp, x_ifnull, x_ifnonnull, x_lookupswitch, x_invokevirtual, x_invokestatic, x_invokedynamic, x_ireturn, x_freturn, x_dreturn, x_lreturn, x_areturn, x_return_, pI_c, pL_c, pR_c, pV_i, pV_r, gI_c, gL_c, gR_c, pN_z, pN_s, lget_c, lins_z, lins_c, ldel_z, ldel_c, ldel2_z, ldel2_c, lset_i, lset_l, lset_r, lkeep_z, lkeep_c, largs_z, largs_c, cat_i, cat_l, cat_r, lkp_c, cnd_eq, cnd_ne, cnd_lt, cnd_ge, cnd_gt, cnd_le, swL_z, swL_c, rE_e, rOr_s, rOr_n, rlk_z, rlk_c, aR_c, aI_c, aII_c, aIII_c, aRI_c, aRII_c, aRIII_c, vJn, vJs, vlc, SeaPre, hsB, hs', v0, v1, v2, hw3, a1, a2]
  refine ⟨by omega, fun σ' F zz V => h σ' F zz ?_⟩
  rw [V]
  unfold mendV
  rw [if_neg z]
theorem c_mendsFlag {l : Launch} {g : GE} {d : Nat} {t : Tau} {σ : Mem} {Q : Post} {as : List TV} (h : spMends as t σ Q) : WPc l g 66 (d + 4) 0 0 as t σ Q := by
  obtain ⟨a, s, rfl, ⟨hs, hv⟩, hS, h⟩ := aRI_e h
  refine wg (by decide) reg3_ok tk_66 py_66 ml_66 30 (by simp [catT]) (fun N hN => ?_)
  simp [bl_66, hN _, x_iconst, x_ldc2_w, x_aconst_null, x_iload, x_lload, x_aload, x_istore, x_lstore, x_astore, x_iinc, x_iadd, x_isub, x_imul, x_idiv, x_irem, x_iand, x_ior, x_ixor, x_ishl, x_ishr, x_iushr, x_ineg, x_ladd, x_lsub, x_lmul, x_ldiv, x_lrem, x_lcmp, x_i2l, x_i2b, x_i2s, x_i2c, x_dup, x_pop, x_dup_x1, x_dup2, x_getfield, x_putfield, x_iaload, x_baload, x_saload, x_caload, x_daload, x_faload, x_laload, x_aaload, x_iastore, x_bastore, x_sastore, x_castore, x_lastore, x_aastore, x_arraylength, x_getstatic, x_goto, x_goto_w, x_ifCond, x_if_icmp, x_ifnull, x_ifnonnull, x_lookupswitch, x_invokevirtual, x_invokestatic, x_invokedynamic, x_ireturn, x_freturn, x_dreturn, x_lreturn, x_areturn, x_return_, pI_c, pL_c, pR_c, pV_i, pV_r, gI_c, gL_c, gR_c, pN_z, pN_s, lget_c, lins_z, lins_c, ldel_z, ldel_c, ldel2_z, ldel2_c, lset_i, lset_l, lset_r, lkeep_z, lkeep_c, largs_z, largs_c, cat_i, cat_l, cat_r, lkp_c, cnd_eq, cnd_ne, cnd_lt, cnd_ge, cnd_gt, cnd_le, swL_z, swL_c, rE_e, rOr_s, rOr_n, rlk_z, rlk_c, aR_c, aI_c, aII_c, aIII_c, aRI_c, aRII_c, aRIII_c, vJn, vJs, vlc]
  refine men_step (k := 0) hs hv hS (by omega) rfl (Or.inl rfl) ?_
  refine men_step (k := 1) hs hv hS (by omega) rfl (by have := fewS_b (vwS σ a) s (0 + 1); omega) ?_
  refine men_step (k := 2) hs hv hS (by omega) rfl (by have := fewS_b (vwS σ a) s (1 + 1); omega) ?_
  refine men_step (k := 3) hs hv hS (by omega) rfl (by have := fewS_b (vwS σ a) s (2 + 1); omega) ?_
  exact men_end hs hv hS h
end
section
/-! rows stay as they must be -/
theorem sewP_at {V : Int → Int} {i f u k j s : Int} (hf : 0 ≤ f ∧ f < 4) (hu : 0 ≤ u ∧ u < 4) (hs : 0 ≤ s ∧ s < 4) (hne : f ≠ u) : partV (sewP V i f u k) j s = if j = i ∧ s = f then partV V i f - k else if j = i ∧ s = u then partV V i u + k else partV V j s := by
  unfold sewP partV upv
  by_cases hj : j = i
  · subst hj
    by_cases h1 : s = f
    · subst h1
      have e1 : ¬ (12 + 4 * j + s = 12 + 4 * j + u) := by omega
      simp [e1]
    · by_cases h2 : s = u
      · subst h2
        have e1 : ¬ (12 + 4 * j + s = 12 + 4 * j + f) := by omega
        simp [e1, h1]
      · have e1 : ¬ (12 + 4 * j + s = 12 + 4 * j + f) := by omega
        have e2 : ¬ (12 + 4 * j + s = 12 + 4 * j + u) := by omega
        simp [e1, e2, h1, h2]
  · have e1 : ¬ (12 + 4 * j + s = 12 + 4 * i + f) := by omega
    have e2 : ¬ (12 + 4 * j + s = 12 + 4 * i + u) := by omega
    simp [e1, e2, hj]
theorem WFV.sh {n : Nat} {M V : Int → Int} (h : WFV n M V) {i : Int} (h0 : 0 ≤ i) (h1 : i < n) : ShOK V i := by
  obtain ⟨-, q1, q2, -⟩ := h
  obtain ⟨-, a, ⟨p0, p1, p2, p3, ps⟩, -, -, -⟩ := q1 i h0 h1
  refine ⟨a, fun f f0 f4 => ?_, q2⟩
  rcases (show f = 0 ∨ f = 1 ∨ f = 2 ∨ f = 3 by omega) with rfl | rfl | rfl | rfl <;> constructor <;> omega
/-- a change of strength alone -/
theorem WFV.st {n : Nat} {M V : Int → Int} (h : WFV n M V) {i x : Int} (h0 : 0 ≤ i) (h1 : i < n) (x0 : 0 ≤ x) (x1 : x ≤ M i) : WFV n M (upv V i x) := by
  obtain ⟨q0, q1, q2, q3, q4⟩ := h
  refine ⟨q0, fun j j0 j1 => ?_, ?_, ?_, fun j hj => ?_⟩
  · obtain ⟨⟨s0, s1, s2, s3⟩, a, ⟨p0, p1, p2, p3, ps⟩, st, w, lo⟩ := q1 j j0 j1
    have e6 : upv V i x (6 + j) = V (6 + j) := upv_n (by omega)
    have ep : ∀ s, 0 ≤ s → s < 4 → partV (upv V i x) j s = partV V j s := fun s z0 z1 => upv_n (by omega)
    refine ⟨?_, by rw [e6]; exact a, ?_, fun s z0 z1 => ?_, by rw [upv_n (by omega)]; exact w, by rw [upv_n (by omega)]; exact lo⟩
    · by_cases hj : j = i
      · subst hj; rw [upv_s]; omega
      · rw [upv_n hj]; omega
    · rw [ep 0 (by omega) (by omega), ep 1 (by omega) (by omega), ep 2 (by omega) (by omega), ep 3 (by omega) (by omega)]; exact ⟨p0, p1, p2, p3, ps⟩
    · show partV _ j s ≤ partV (upv V i x) j (upv V i x (6 + j))
      rw [e6, ep s z0 z1, ep _ a.1 a.2]; exact st s z0 z1
  · rw [upv_n (by omega)]; exact q2
  · rw [upv_n (by omega)]; exact q3
  · rw [upv_n (by omega)]; exact q4 j hj
/-- one PART that mends -/
theorem WFV.mend {n : Nat} {M V : Int → Int} (h : WFV n M V) {i : Int} (h0 : 0 ≤ i) (h1 : i < n) : WFV n M (mendV V i) := by
  unfold mendV
  by_cases hz : fewS V i 4 = -1
  · rw [if_pos hz]; exact h
  · rw [if_neg hz]
    have hb := fewS_b V i 4
    have hf : 0 ≤ fewS V i 4 ∧ fewS V i 4 < 4 := by omega
    have hp : fewS V i 4 ≠ V (6 + i) ∧ 0 < partV V i (fewS V i 4) := by
      have key : ∀ m : Nat, fewS V i m ≠ -1 → fewS V i m ≠ V (6 + i) ∧ 0 < partV V i (fewS V i m) := by
        intro m
        induction m with
        | zero => intro z; exact absurd rfl z
        | succ m ih =>
          unfold fewS
          split
          · rename_i hc
            exact fun _ => ⟨hc.1, hc.2.1⟩
          · exact ih
      exact key 4 hz
    obtain ⟨q0, q1, q2, q3, q4⟩ := h
    obtain ⟨-, ai, ⟨p0, p1, p2, p3, ps⟩, sti, -, -⟩ := q1 i h0 h1
    generalize hfe : fewS V i 4 = f at hf hp
    clear hz hb
    refine ⟨q0, fun j j0 j1 => ?_, ?_, ?_, fun j hj => ?_⟩
    · obtain ⟨s0, a, pj, st, w, lo⟩ := q1 j j0 j1
      have e6 : sewP V i f (V (6 + i)) 1 (6 + j) = V (6 + j) := sewP_n (by omega) (by omega)
      have ep : ∀ s, 0 ≤ s → s < 4 → partV (sewP V i f (V (6 + i)) 1) j s = _ := fun s z0 z1 => sewP_at hf ai ⟨z0, z1⟩ hp.1
      refine ⟨by rw [sewP_n (by omega) (by omega)]; exact s0, by rw [e6]; exact a, ?_, fun s z0 z1 => ?_, by rw [sewP_n (by omega) (by omega)]; exact w, by rw [sewP_n (by omega) (by omega)]; exact lo⟩
      · rw [ep 0 (by omega) (by omega), ep 1 (by omega) (by omega), ep 2 (by omega) (by omega), ep 3 (by omega) (by omega)]
        by_cases hj : j = i
        · subst hj
          generalize hve : V (6 + j) = v at *
          rcases (show f = 0 ∨ f = 1 ∨ f = 2 ∨ f = 3 by omega) with rfl | rfl | rfl | rfl <;> rcases (show v = 0 ∨ v = 1 ∨ v = 2 ∨ v = 3 by omega) with rfl | rfl | rfl | rfl <;> simp at hp ⊢ <;> omega
        · simp [hj]; exact pj
      · show partV _ j s ≤ partV (sewP V i f (V (6 + i)) 1) j (sewP V i f (V (6 + i)) 1 (6 + j))
        rw [e6, ep s z0 z1, ep _ a.1 a.2]
        have := st s z0 z1
        by_cases hj : j = i
        · subst hj
          have t1 := sti s z0 z1
          have t2 := sti f hf.1 hf.2
          simp only [partV, ownV] at t1 t2 hp ⊢
          grind
        · simp [hj]; exact this
    · rw [sewP_n (by omega) (by omega)]; exact q2
    · rw [sewP_n (by omega) (by omega)]; exact q3
    · rw [sewP_n (by omega) (by omega)]; exact q4 j hj
end
section
/-! rows stay as they must be: fights, what is sewn in, what yields -/
def WFW (n : Nat) (M : Int → Int) (V : Int → Int) (P : Int → Prop) : Prop := n ≤ 6 ∧ (∀ i : Int, 0 ≤ i → i < n → (0 ≤ V i ∧ V i ≤ M i ∧ 1 ≤ M i ∧ M i ≤ 9) ∧ (0 ≤ V (6 + i) ∧ V (6 + i) < 4) ∧ (0 ≤ partV V i 0 ∧ 0 ≤ partV V i 1 ∧ 0 ≤ partV V i 2 ∧ 0 ≤ partV V i 3 ∧ partV V i 0 + partV V i 1 + partV V i 2 + partV V i 3 = 12) ∧ (P i → ∀ s, 0 ≤ s → s < 4 → partV V i s ≤ ownV V i) ∧ (0 ≤ V (36 + i) ∧ V (36 + i) ≤ 99) ∧ (0 ≤ V (42 + i) ∧ V (42 + i) ≤ 99)) ∧ (0 ≤ V 49 ∧ V 49 ≤ 9999) ∧ b32 (V 48) ∧ ∀ j, (j < 0 ∨ 50 ≤ j) → V j = 0
theorem WFV.w {n : Nat} {M V : Int → Int} (h : WFV n M V) : WFW n M V (fun _ => True) := by
  obtain ⟨q0, q1, q2⟩ := h
  exact ⟨q0, fun i i0 i1 => by obtain ⟨a, b, c, d, e⟩ := q1 i i0 i1; exact ⟨a, b, c, fun _ => d, e⟩, q2⟩
theorem WFW.v {n : Nat} {M V : Int → Int} {P : Int → Prop} (h : WFW n M V P) (hP : ∀ i : Int, 0 ≤ i → i < n → P i) : WFV n M V := by
  obtain ⟨q0, q1, q2⟩ := h
  exact ⟨q0, fun i i0 i1 => by obtain ⟨a, b, c, d, e⟩ := q1 i i0 i1; exact ⟨a, b, c, d (hP i i0 i1), e⟩, q2⟩
theorem WFW.mono {n : Nat} {M V : Int → Int} {P P' : Int → Prop} (h : WFW n M V P) (hP : ∀ i, P' i → P i) : WFW n M V P' := by
  obtain ⟨q0, q1, q2⟩ := h
  exact ⟨q0, fun i i0 i1 => by obtain ⟨a, b, c, d, e⟩ := q1 i i0 i1; exact ⟨a, b, c, fun z => d (hP i z), e⟩, q2⟩
/-- a change of strength, of won or lost -/
theorem WFW.upd {n : Nat} {M V : Int → Int} {P : Int → Prop} (h : WFW n M V P) {i x k : Int} (h0 : 0 ≤ i) (h1 : i < n) (hk : (k = i ∧ 0 ≤ x ∧ x ≤ M i) ∨ ((k = 36 + i ∨ k = 42 + i) ∧ 0 ≤ x ∧ x ≤ 99)) : WFW n M (upv V k x) P := by
  obtain ⟨q0, q1, q2, q3, q4⟩ := h
  refine ⟨q0, fun j j0 j1 => ?_, ?_, ?_, fun j hj => ?_⟩
  · obtain ⟨⟨s0, s1, s2, s3⟩, a, ⟨p0, p1, p2, p3, ps⟩, st, w, lo⟩ := q1 j j0 j1
    have e6 : upv V k x (6 + j) = V (6 + j) := upv_n (by omega)
    have ep : ∀ s, 0 ≤ s → s < 4 → partV (upv V k x) j s = partV V j s := fun s z0 z1 => upv_n (by omega)
    refine ⟨?_, by rw [e6]; exact a, ?_, fun hP s z0 z1 => ?_, ?_, ?_⟩
    · by_cases hj : j = k
      · subst hj
        have : j = i := by omega
        subst this
        rw [upv_s]; omega
      · rw [upv_n hj]; omega
    · rw [ep 0 (by omega) (by omega), ep 1 (by omega) (by omega), ep 2 (by omega) (by omega), ep 3 (by omega) (by omega)]; exact ⟨p0, p1, p2, p3, ps⟩
    · show partV _ j s ≤ partV (upv V k x) j (upv V k x (6 + j))
      rw [e6, ep s z0 z1, ep _ a.1 a.2]; exact st hP s z0 z1
    · by_cases hj : 36 + j = k
      · rw [hj, upv_s]; omega
      · rw [upv_n hj]; omega
    · by_cases hj : 42 + j = k
      · rw [hj, upv_s]; omega
      · rw [upv_n hj]; omega
  · rw [upv_n (by omega)]; exact q2
  · rw [upv_n (by omega)]; exact q3
  · rw [upv_n (by omega)]; exact q4 j hj
theorem WFW.sew {n : Nat} {M V : Int → Int} {P : Int → Prop} (h : WFW n M V P) {i f u k : Int} (h0 : 0 ≤ i) (h1 : i < n) (hf : 0 ≤ f ∧ f < 4) (hu : 0 ≤ u ∧ u < 4) (hne : f ≠ u) (hk : 0 ≤ k ∧ k ≤ partV V i f) : WFW n M (sewP V i f u k) (fun j => P j ∧ j ≠ i) := by
  obtain ⟨q0, q1, q2, q3, q4⟩ := h
  obtain ⟨-, ai, ⟨p0, p1, p2, p3, ps⟩, -, -, -⟩ := q1 i h0 h1
  refine ⟨q0, fun j j0 j1 => ?_, ?_, ?_, fun j hj => ?_⟩
  · obtain ⟨s0, a, pj, st, w, lo⟩ := q1 j j0 j1
    have e6 : sewP V i f u k (6 + j) = V (6 + j) := sewP_n (by omega) (by omega)
    have ep : ∀ s, 0 ≤ s → s < 4 → partV (sewP V i f u k) j s = _ := fun s z0 z1 => sewP_at hf hu ⟨z0, z1⟩ hne
    refine ⟨by rw [sewP_n (by omega) (by omega)]; exact s0, by rw [e6]; exact a, ?_, fun hP s z0 z1 => ?_, by rw [sewP_n (by omega) (by omega)]; exact w, by rw [sewP_n (by omega) (by omega)]; exact lo⟩
    · rw [ep 0 (by omega) (by omega), ep 1 (by omega) (by omega), ep 2 (by omega) (by omega), ep 3 (by omega) (by omega)]
      by_cases hj : j = i
      · subst hj
        rcases (show f = 0 ∨ f = 1 ∨ f = 2 ∨ f = 3 by omega) with rfl | rfl | rfl | rfl <;> rcases (show u = 0 ∨ u = 1 ∨ u = 2 ∨ u = 3 by omega) with rfl | rfl | rfl | rfl <;> simp at hne ⊢ <;> omega
      · simp [hj]; exact pj
    · show partV _ j s ≤ partV (sewP V i f u k) j (sewP V i f u k (6 + j))
      rw [e6, ep s z0 z1, ep _ a.1 a.2]
      have := st hP.1 s z0 z1
      simp [hP.2]; exact this
  · rw [sewP_n (by omega) (by omega)]; exact q2
  · rw [sewP_n (by omega) (by omega)]; exact q3
  · rw [sewP_n (by omega) (by omega)]; exact q4 j hj
theorem best_max (V : Int → Int) (i : Int) {s : Int} (h0 : 0 ≤ s) (h4 : s < 4) : partV V i s ≤ partV V i (bestV V i) := by
  have h1 : partV V i 0 ≤ partV V i (best1 V i) ∧ partV V i 1 ≤ partV V i (best1 V i) := by
    unfold best1; split <;> constructor <;> omega
  have h2 : partV V i (best1 V i) ≤ partV V i (best2 V i) ∧ partV V i 2 ≤ partV V i (best2 V i) := by
    unfold best2; split <;> constructor <;> omega
  have h3 : partV V i (best2 V i) ≤ partV V i (bestV V i) ∧ partV V i 3 ≤ partV V i (bestV V i) := by
    unfold bestV; split <;> constructor <;> omega
  rcases (show s = 0 ∨ s = 1 ∨ s = 2 ∨ s = 3 by omega) with rfl | rfl | rfl | rfl <;> omega
theorem WFW.go {n : Nat} {M V : Int → Int} {P : Int → Prop} (h : WFW n M V P) {i : Int} (h0 : 0 ≤ i) (h1 : i < n) : WFW n M (goV V i) (fun j => P j ∨ j = i) := by
  have hb := (best_b V i).2.2
  unfold goV
  split
  · rename_i hc
    obtain ⟨q0, q1, q2⟩ := h
    refine ⟨q0, fun j j0 j1 => ?_, q2⟩
    obtain ⟨a, b, c, d, e⟩ := q1 j j0 j1
    refine ⟨a, b, c, fun z s z0 z1 => ?_, e⟩
    rcases z with z | z
    · exact d z s z0 z1
    · subst z
      have := best_max V j z0 z1
      omega
  · obtain ⟨q0, q1, q2, q3, q4⟩ := h
    generalize hB : bestV V i = B at hb
    refine ⟨q0, fun j j0 j1 => ?_, by rw [upv_s]; omega, ?_, fun j hj => ?_⟩
    · obtain ⟨s0, a, pj, st, w, lo⟩ := q1 j j0 j1
      have e0 : ∀ k, k ≠ 6 + i → k ≠ 49 → upv (upv V (6 + i) B) 49 (min 9999 (V 49 + 1)) k = V k := fun k k1 k2 => by rw [upv_n k2, upv_n k1]
      have ep : ∀ s, 0 ≤ s → s < 4 → partV (upv (upv V (6 + i) B) 49 (min 9999 (V 49 + 1))) j s = partV V j s := fun s z0 z1 => e0 _ (by omega) (by omega)
      have e6 : upv (upv V (6 + i) B) 49 (min 9999 (V 49 + 1)) (6 + j) = if j = i then B else V (6 + j) := by
        by_cases hj : j = i
        · rw [if_pos hj, hj, upv_n (by omega), upv_s]
        · rw [if_neg hj]; exact e0 _ (by omega) (by omega)
      refine ⟨by rw [e0 _ (by omega) (by omega)]; exact s0, ?_, ?_, fun z s z0 z1 => ?_, by rw [e0 _ (by omega) (by omega)]; exact w, by rw [e0 _ (by omega) (by omega)]; exact lo⟩
      · rw [e6]; split <;> omega
      · rw [ep 0 (by omega) (by omega), ep 1 (by omega) (by omega), ep 2 (by omega) (by omega), ep 3 (by omega) (by omega)]; exact pj
      · show partV _ j s ≤ partV (upv (upv V (6 + i) B) 49 (min 9999 (V 49 + 1))) j (upv (upv V (6 + i) B) 49 (min 9999 (V 49 + 1)) (6 + j))
        rw [e6, ep s z0 z1]
        by_cases hj : j = i
        · subst hj
          rw [if_pos rfl, ep B hb.1 hb.2, ← hB]
          exact best_max V j z0 z1
        · rw [if_neg hj, ep _ a.1 a.2]
          exact st (z.resolve_right hj) s z0 z1
    · rw [upv_n (by omega), upv_n (by omega)]; exact q3
    · rw [upv_n (by omega), upv_n (by omega)]; exact q4 j hj
theorem WFV.sewV {n : Nat} {M V : Int → Int} (h : WFV n M V) {i u k : Int} (h0 : 0 ≤ i) (h1 : i < n) (hu : 0 ≤ u ∧ u < 4) (hne : V (6 + i) ≠ u) (hk : 0 ≤ k ∧ k ≤ ownV V i) : WFV n M (sewV V i u k) := by
  have ha := (h.2.1 i h0 h1).2.1
  have h2 := (h.w.sew h0 h1 ha hu hne hk).go h0 h1
  refine h2.v fun j _ _ => ?_
  by_cases hj : j = i
  · exact Or.inr hj
  · exact Or.inl ⟨trivial, hj⟩
theorem WFV.strike {n : Nat} {M V : Int → Int} (h : WFV n M V) {w l k : Int} (v0 : 0 ≤ w) (v1 : w < n) (u0 : 0 ≤ l) (u1 : l < n) (hk : 0 ≤ k) (hne : V (6 + w) ≠ V (6 + l)) : WFV n M (strikeV k V w l) := by
  have n6 := h.1
  obtain ⟨-, aw, pw, -, ww, -⟩ := h.2.1 w v0 v1
  obtain ⟨sl, al, -, -, -, ll⟩ := h.2.1 l u0 u1
  have ho := (h.sh v0 v1).2.1 _ aw.1 aw.2
  rw [strikeV_eq v0 (by omega) u0 (by omega) aw.1 al.1 aw.2 al.2]
  have h1 := h.w.sew v0 v1 aw al hne (k := min k (ownV V w)) (by simp only [ownV] at *; omega)
  have h2 := h1.upd v0 v1 (x := min (V (36 + w) + 1) 99) (k := 36 + w) (Or.inr ⟨Or.inl rfl, by omega⟩)
  have h3 := h2.upd u0 u1 (x := max (V l - 1) 0) (k := l) (Or.inl ⟨rfl, by omega⟩)
  have h4 := h3.upd u0 u1 (x := min (V (42 + l) + 1) 99) (k := 42 + l) (Or.inr ⟨Or.inr rfl, by omega⟩)
  have h5 := (h4.go v0 v1).go u0 u1
  refine h5.v fun j _ _ => ?_
  by_cases hj : j = w
  · exact Or.inl (Or.inr hj)
  · exact Or.inl (Or.inl ⟨trivial, hj⟩)
theorem WFV.day1 {n : Nat} {M V : Int → Int} (h : WFV n M V) {i : Int} (h0 : 0 ≤ i) (h1 : i < n) : WFV n M (day1 M V i) := by
  obtain ⟨s, -⟩ := h.2.1 i h0 h1
  exact (h.st h0 h1 (x := min (M i) (V i + 1)) (by omega) (by omega)).mend h0 h1
theorem wf_dayI {n : Nat} {M V : Int → Int} (h : WFV n M V) : ∀ k : Nat, k ≤ n → WFV n M (dayI M V k)
  | 0, _ => h
  | k + 1, hk => (wf_dayI h k (by omega)).day1 (by omega) (by omega)
theorem wf_48 {n : Nat} {M V : Int → Int} (h : WFV n M V) {x : Int} (hx : b32 x) : WFV n M (upv V 48 x) := by
  obtain ⟨q0, q1, q2, q3, q4⟩ := h
  have e : ∀ j, j ≠ 48 → upv V 48 x j = V j := fun j hj => upv_n hj
  refine ⟨q0, fun j j0 j1 => ?_, by rw [e 49 (by omega)]; exact q2, by rw [upv_s]; exact hx, fun j hj => by rw [e j (by omega)]; exact q4 j hj⟩
  obtain ⟨s0, a, pj, st, w, lo⟩ := q1 j j0 j1
  have ep : ∀ s, 0 ≤ s → s < 4 → partV (upv V 48 x) j s = partV V j s := fun s z0 z1 => e _ (by omega)
  have e6 : upv V 48 x (6 + j) = V (6 + j) := e _ (by omega)
  refine ⟨by rw [e j (by omega)]; exact s0, by rw [e6]; exact a, ?_, fun s z0 z1 => ?_, by rw [e _ (by omega)]; exact w, by rw [e _ (by omega)]; exact lo⟩
  · rw [ep 0 (by omega) (by omega), ep 1 (by omega) (by omega), ep 2 (by omega) (by omega), ep 3 (by omega) (by omega)]; exact pj
  · show partV _ j s ≤ partV (upv V 48 x) j (upv V 48 x (6 + j))
    rw [e6, ep s z0 z1, ep _ a.1 a.2]; exact st s z0 z1
theorem wf_day {n : Nat} {M V : Int → Int} (h : WFV n M V) : WFV n M (dayV n M V) := wf_48 (wf_dayI h n (Nat.le_refl n)) (w32_b _)
theorem wf_days {n : Nat} {M V : Int → Int} (h : WFV n M V) : ∀ k : Nat, WFV n M (daysV n M V k)
  | 0 => h
  | k + 1 => wf_day (wf_days h k)
end
section
/-! StruckColours$Sea: dawns -/
abbrev reg4 : Reg := [(64, spStrikesTo), (67, spSewsIn), (68, spStrikesAll), (66, spMends)] ++ reg3
theorem reg4_ok {l : Launch} {g : GE} {d : Nat} : ∀ e as t σ Q, rE l g (d + 4) reg4 e as t σ Q → WPc l g e (d + 4) 0 0 as t σ Q :=
  rE_cons (fun _ _ _ _ h => c_strikesTo h) (rE_cons (fun _ _ _ _ h => c_sewsIn h) (rE_cons (fun _ _ _ _ h => c_strikesAll h) (rE_cons (fun _ _ _ _ h => c_mendsFlag h) (reg3_ok (d := d + 1)))))
/-- n ships, as they must be -/
def SeaW (t : Tau) (σ : Mem) (a : Int) (n : Nat) : Prop := SeaT t a ∧ σ a 0 = n ∧ WFV n (σ (a + 1)) (vwS σ a)
def spDawns : Sp := fun as t σ Q => aRI as fun a k => ∃ n m : Nat, k = m ∧ m ≤ 1000 ∧ SeaW t σ a n ∧ ∀ σ', SeaFr σ σ' a → σ' a 0 = σ a 0 → vwS σ' a = daysV n (σ (a + 1)) (vwS σ a) m → Q none t σ'
theorem daw_in {l : Launch} {g : GE} {d : Nat} {t : Tau} {σ : Mem} {Q : Post} {a : Int} {σ0 : Mem} {n m j : Nat} {V : Int → Int} (hs : SeaT t a) (hn : σ0 a 0 = n) (hV0 : WFV n (σ0 (a + 1)) V) (hj : j < 1000)
    (h : ∀ σ', SeaFr σ0 σ' a → vwS σ' a = dayI (σ0 (a + 1)) V n → Wp l g 65 (d + 5) 0 0 2 [(0, vR a), (1, vI m), (2, vI (j + 1 : Nat))] [] t (up σ' a 1 (w32 (vwS σ' a 48 + 1))) Q) :
    ∀ (r i : Nat) (σ : Mem), i + r = n → SeaFr σ0 σ a → vwS σ a = dayI (σ0 (a + 1)) V i → Wp l g 65 (d + 5) 0 0 9 [(0, vR a), (1, vI m), (2, vI j), (3, vI i)] [] t σ Q := by
  have hs' := hs
  obtain ⟨o, f1, f2, f3, f4, f5, f6, t1, t2, t3, t4, t5, t6, l1, l2, l3, l4, l5, l6⟩ := hs
  have n6 := hV0.1
  have e2 := w32_succ (k := j) (by omega)
  intro r
  induction r with
  | zero =>
    intro i σ hi hF hV
    have hi' : i = n := by omega
    subst hi'
    have z0 : σ a 0 = i := by rw [hF.2.2, hn]
    have K := h σ hF hV
    have x1 : σ a 1 = vwS σ a 48 := vw_dy
    refine wa (by decide) reg4_ok ts_65 30 (fun N hN => ?_)
    simp [bs_65, hN _, x_iconst, x_ldc2_w, x_aconst_null, x_iload, x_lload, x_aload, x_istore, x_lstore, x_astore, x_iinc, x_iadd, x_isub, x_imul, x_idiv, x_irem, x_iand, x_ior, x_ixor, x_ishl, x_ishr, x_iushr, x_ineg, x_ladd, x_lsub, x_lmul, x_ldiv, x_lrem, x_lcmp, x_i2l, x_i2b, x_i2s, x_i2c, x_dup, x_pop, x_dup_x1, x_dup2, x_getfield, x_putfield, x_iaload, x_baload, x_saload, x_caload, x_daload, x_faload, x_laload, x_aaload, x_iastore, x_bastore, x_sastore, x_castore, x_lastore, x_aastore, x_arraylength, x_getstatic, x_goto, x_goto_w, x_ifCond, x_if_icmp, x_ifnull, x_ifnonnull, x_lookupswitch, x_invokevirtual, x_invokestatic, x_invokedynamic, x_ireturn, x_freturn, x_dreturn, x_lreturn, x_areturn, x_return_, pI_c, pL_c, pR_c, pV_i, pV_r, gI_c, gL_c, gR_c, pN_z, pN_s, lget_c, lins_z, lins_c, ldel_z, ldel_c, ldel2_z, ldel2_c, lset_i, lset_l, lset_r, lkeep_z, lkeep_c, largs_z, largs_c, cat_i, cat_l, cat_r, lkp_c, cnd_eq, cnd_ne, cnd_lt, cnd_ge, cnd_gt, cnd_le, swL_z, swL_c, rE_e, rOr_s, rOr_n, rlk_z, rlk_c, aR_c, aI_c, aII_c, aIII_c, aRI_c, aRII_c, aRIII_c, vJn, vJs, vlc, o, z0, x1, e2]
    exact K
  | succ r ih =>
    intro i σ hi hF hV
    have z0 : σ a 0 = n := by rw [hF.2.2, hn]
    have hW := wf_dayI hV0 i (by omega)
    have i0 : (0 : Int) ≤ i := by omega
    have i1 : (i : Int) < n := by omega
    have i6 : (i : Int) < 6 := by omega
    have ni : ¬ (n : Int) ≤ i := by omega
    obtain ⟨⟨s0, s1, s2, s3⟩, -⟩ := hW.2.1 i i0 i1
    have x2 : σ (a + 2) i = dayI (σ0 (a + 1)) V i i := by rw [vw_st (σ := σ) (a := a) i0 i6, hV]
    have e3 : w32 (dayI (σ0 (a + 1)) V i i + 1) = dayI (σ0 (a + 1)) V i i + 1 := w32_id (by omega) (by omega)
    have e4 := w32_succ (k := i) (by omega)
    have m1 : σ (a + 1) = σ0 (a + 1) := hF.2.1
    refine wa (by decide) reg4_ok ts_65 30 (fun N hN => ?_)
    simp [bs_65, hN _, x_iconst, x_ldc2_w, x_aconst_null, x_iload, x_lload, x_aload, x_istore, x_lstore, x_astore, x_iinc, x_iadd, x_isub, x_imul, x_idiv, x_irem, x_iand, x_ior, x_ixor, x_ishl, x_ishr, x_iushr, x_ineg, x_ladd, x_lsub, x_lmul, x_ldiv, x_lrem, x_lcmp, x_i2l, x_i2b, x_i2s, x_i2c, x_dup, x_pop, x_dup_x1, x_dup2, x_getfield, x_putfield, x_iaload, x_baload, x_saload, x_caload, x_daload, x_faload, x_laload, x_aaload, x_iastore, x_bastore, x_sastore, x_castore, x_lastore, x_aastore, x_arraylength, x_getstatic, x_goto, x_goto_w, x_ifCond, x_if_icmp, x_ifnull, x_ifnonnull, x_lookupswitch, x_invokevirtual, x_invokestatic, x_invokedynamic, x_ireturn, x_freturn, x_dreturn, x_lreturn, x_areturn, x_return_, pI_c, pL_c, pR_c, pV_i, pV_r, gI_c, gL_c, gR_c, pN_z, pN_s, lget_c, lins_z, lins_c, ldel_z, ldel_c, ldel2_z, ldel2_c, lset_i, lset_l, lset_r, lkeep_z, lkeep_c, largs_z, largs_c, cat_i, cat_l, cat_r, lkp_c, cnd_eq, cnd_ne, cnd_lt, cnd_ge, cnd_gt, cnd_le, swL_z, swL_c, rE_e, rOr_s, rOr_n, rlk_z, rlk_c, aR_c, aI_c, aII_c, aIII_c, aRI_c, aRII_c, aRIII_c, vJn, vJs, vlc, spHas, spOf, spStrengthens, SeaPre, hsB, o, hs', z0, i0, i1, i6, x2, e3, m1]
    refine ⟨fun z => by omega, fun σ1 F1 zz1 V1 => ?_⟩
    have hW1 : WFV n (σ0 (a + 1)) (vwS σ1 a) := by
      rw [V1, hV]
      exact hW.st i0 i1 (by omega) (by omega)
    have hSh := hW1.sh i0 i1
    simp [sg_65_9_1, hN _, x_iconst, x_ldc2_w, x_aconst_null, x_iload, x_lload, x_aload, x_istore, x_lstore, x_astore, x_iinc, x_iadd, x_isub, x_imul, x_idiv, x_irem, x_iand, x_ior, x_ixor, x_ishl, x_ishr, x_iushr, x_ineg, x_ladd, x_lsub, x_lmul, x_ldiv, x_lrem, x_lcmp, x_i2l, x_i2b, x_i2s, x_i2c, x_dup, x_pop, x_dup_x1, x_dup2, x_getfield, x_putfield, x_iaload, x_baload, x_saload, x_caload, x_daload, x_faload, x_laload, x_aaload, x_iastore, x_bastore, x_sastore, x_castore, x_lastore, x_aastore, x_arraylength, x_getstatic, x_goto, x_goto_w, x_ifCond, x_if_icmp, x_ifnull, x_ifnonnull, x_lookupswitch, x_invokevirtual, x_invokestatic, x_invokedynamic, x_ireturn, x_freturn, x_dreturn, x_lreturn, x_areturn, x_return_, pI_c, pL_c, pR_c, pV_i, pV_r, gI_c, gL_c, gR_c, pN_z, pN_s, lget_c, lins_z, lins_c, ldel_z, ldel_c, ldel2_z, ldel2_c, lset_i, lset_l, lset_r, lkeep_z, lkeep_c, largs_z, largs_c, cat_i, cat_l, cat_r, lkp_c, cnd_eq, cnd_ne, cnd_lt, cnd_ge, cnd_gt, cnd_le, swL_z, swL_c, rE_e, rOr_s, rOr_n, rlk_z, rlk_c, aR_c, aI_c, aII_c, aIII_c, aRI_c, aRII_c, aRIII_c, vJn, vJs, vlc, spMends, SeaPre, hsB, o, hs', zz1, i0, i1, i6, hSh]
    intro σ2 F2 zz2 V2
    simp [sg_65_9_2, hN _, x_iconst, x_ldc2_w, x_aconst_null, x_iload, x_lload, x_aload, x_istore, x_lstore, x_astore, x_iinc, x_iadd, x_isub, x_imul, x_idiv, x_irem, x_iand, x_ior, x_ixor, x_ishl, x_ishr, x_iushr, x_ineg, x_ladd, x_lsub, x_lmul, x_ldiv, x_lrem, x_lcmp, x_i2l, x_i2b, x_i2s, x_i2c, x_dup, x_pop, x_dup_x1, x_dup2, x_getfield, x_putfield, x_iaload, x_baload, x_saload, x_caload, x_daload, x_faload, x_laload, x_aaload, x_iastore, x_bastore, x_sastore, x_castore, x_lastore, x_aastore, x_arraylength, x_getstatic, x_goto, x_goto_w, x_ifCond, x_if_icmp, x_ifnull, x_ifnonnull, x_lookupswitch, x_invokevirtual, x_invokestatic, x_invokedynamic, x_ireturn, x_freturn, x_dreturn, x_lreturn, x_areturn, x_return_, pI_c, pL_c, pR_c, pV_i, pV_r, gI_c, gL_c, gR_c, pN_z, pN_s, lget_c, lins_z, lins_c, ldel_z, ldel_c, ldel2_z, ldel2_c, lset_i, lset_l, lset_r, lkeep_z, lkeep_c, largs_z, largs_c, cat_i, cat_l, cat_r, lkp_c, cnd_eq, cnd_ne, cnd_lt, cnd_ge, cnd_gt, cnd_le, swL_z, swL_c, rE_e, rOr_s, rOr_n, rlk_z, rlk_c, aR_c, aI_c, aII_c, aIII_c, aRI_c, aRII_c, aRIII_c, vJn, vJs, vlc, e4]
    have hFF : SeaFr σ0 σ2 a := hF.tr (F1.tr F2)
    have hVV : vwS σ2 a = dayI (σ0 (a + 1)) V (i + 1) := by
      rw [V2, V1, hV]
      show mendV _ _ = day1 _ _ _
      unfold day1
      rw [show max 0 (min (σ0 (a + 1) i) (dayI (σ0 (a + 1)) V i i + 1)) = min (σ0 (a + 1) i) (dayI (σ0 (a + 1)) V i i + 1) by omega]
    exact ih (i + 1) σ2 (by omega) hFF hVV
theorem daw_out {l : Launch} {g : GE} {d : Nat} {t : Tau} {σ : Mem} {Q : Post} {a : Int} {σ0 : Mem} {n m : Nat} (hs : SeaT t a) (hn : σ0 a 0 = n) (hV0 : WFV n (σ0 (a + 1)) (vwS σ0 a)) (hm : m ≤ 1000) (h : ∀ σ', SeaFr σ0 σ' a → vwS σ' a = daysV n (σ0 (a + 1)) (vwS σ0 a) m → Q none t σ') :
    ∀ (r j : Nat) (σ : Mem), j + r = m → SeaFr σ0 σ a → vwS σ a = daysV n (σ0 (a + 1)) (vwS σ0 a) j → Wp l g 65 (d + 5) 0 0 2 [(0, vR a), (1, vI m), (2, vI j)] [] t σ Q := by
  have hs' := hs
  obtain ⟨o, f1, f2, f3, f4, f5, f6, t1, t2, t3, t4, t5, t6, l1, l2, l3, l4, l5, l6⟩ := hs
  intro r
  induction r with
  | zero =>
    intro j σ hj hF hV
    obtain rfl : j = m := by omega
    refine wa (by decide) reg4_ok ts_65 30 (fun N hN => ?_)
    simp [bs_65, hN _, x_iconst, x_ldc2_w, x_aconst_null, x_iload, x_lload, x_aload, x_istore, x_lstore, x_astore, x_iinc, x_iadd, x_isub, x_imul, x_idiv, x_irem, x_iand, x_ior, x_ixor, x_ishl, x_ishr, x_iushr, x_ineg, x_ladd, x_lsub, x_lmul, x_ldiv, x_lrem, x_lcmp, x_i2l, x_i2b, x_i2s, x_i2c, x_dup, x_pop, x_dup_x1, x_dup2, x_getfield, x_putfield, x_iaload, x_baload, x_saload, x_caload, x_daload, x_faload, x_laload, x_aaload, x_iastore, x_bastore, x_sastore, x_castore, x_lastore, x_aastore, x_arraylength, x_getstatic, x_goto, x_goto_w, x_ifCond, x_if_icmp, x_ifnull, x_ifnonnull, x_lookupswitch, x_invokevirtual, x_invokestatic, x_invokedynamic, x_ireturn, x_freturn, x_dreturn, x_lreturn, x_areturn, x_return_, pI_c, pL_c, pR_c, pV_i, pV_r, gI_c, gL_c, gR_c, pN_z, pN_s, lget_c, lins_z, lins_c, ldel_z, ldel_c, ldel2_z, ldel2_c, lset_i, lset_l, lset_r, lkeep_z, lkeep_c, largs_z, largs_c, cat_i, cat_l, cat_r, lkp_c, cnd_eq, cnd_ne, cnd_lt, cnd_ge, cnd_gt, cnd_le, swL_z, swL_c, rE_e, rOr_s, rOr_n, rlk_z, rlk_c, aR_c, aI_c, aII_c, aIII_c, aRI_c, aRII_c, aRIII_c, vJn, vJs, vlc]
    exact h σ hF hV
  | succ r ih =>
    intro j σ hj hF hV
    have hW := wf_days hV0 j
    have z0 : σ a 0 = n := by rw [hF.2.2, hn]
    have m1 : σ (a + 1) = σ0 (a + 1) := hF.2.1
    have K := daw_in (l := l) (g := g) (d := d) (σ := σ) (σ0 := σ) (n := n) (m := m) (j := j) (V := vwS σ a) (Q := Q) hs' z0 (by rw [m1, hV]; exact hW) (by omega) (fun σ' F' V' => by
      refine ih (j + 1) _ (by omega) (hF.tr (F'.up (by omega))) ?_
      rw [vwU_dy, V', m1, hV]
      rfl) n 0 σ (by omega) SeaFr.rf rfl
    refine wa (by decide) reg4_ok ts_65 30 (fun N hN => ?_)
    simp [bs_65, hN _, x_iconst, x_ldc2_w, x_aconst_null, x_iload, x_lload, x_aload, x_istore, x_lstore, x_astore, x_iinc, x_iadd, x_isub, x_imul, x_idiv, x_irem, x_iand, x_ior, x_ixor, x_ishl, x_ishr, x_iushr, x_ineg, x_ladd, x_lsub, x_lmul, x_ldiv, x_lrem, x_lcmp, x_i2l, x_i2b, x_i2s, x_i2c, x_dup, x_pop, x_dup_x1, x_dup2, x_getfield, x_putfield, x_iaload, x_baload, x_saload, x_caload, x_daload, x_faload, x_laload, x_aaload, x_iastore, x_bastore, x_sastore, x_castore, x_lastore, x_aastore, x_arraylength, x_getstatic, x_goto, x_goto_w, x_ifCond, x_if_icmp, x_ifnull, x_ifnonnull, x_lookupswitch, x_invokevirtual, x_invokestatic, x_invokedynamic, x_ireturn, x_freturn, x_dreturn, x_lreturn, x_areturn, x_return_, pI_c, pL_c, pR_c, pV_i, pV_r, gI_c, gL_c, gR_c, pN_z, pN_s, lget_c, lins_z, lins_c, ldel_z, ldel_c, ldel2_z, ldel2_c, lset_i, lset_l, lset_r, lkeep_z, lkeep_c, largs_z, largs_c, cat_i, cat_l, cat_r, lkp_c, cnd_eq, cnd_ne, cnd_lt, cnd_ge, cnd_gt, cnd_le, swL_z, swL_c, rE_e, rOr_s, rOr_n, rlk_z, rlk_c, aR_c, aI_c, aII_c, aIII_c, aRI_c, aRII_c, aRIII_c, vJn, vJs, vlc]
    exact ⟨fun z => by omega, fun _ => K⟩
theorem c_dawns {l : Launch} {g : GE} {d : Nat} {t : Tau} {σ : Mem} {Q : Post} {as : List TV} (h : spDawns as t σ Q) : WPc l g 65 (d + 5) 0 0 as t σ Q := by
  obtain ⟨a, k, rfl, n, m, rfl, hm, ⟨hs, hn, hW⟩, h⟩ := aRI_e h
  have K := daw_out (l := l) (g := g) (d := d) (σ := σ) (Q := Q) hs hn hW hm (fun σ' F V => h σ' F F.2.2 V) m 0 σ (by omega) SeaFr.rf rfl
  refine wg (by decide) reg4_ok ts_65 py_65 ml_65 30 (by simp [catT]) (fun N hN => ?_)
  simp [bs_65, hN _, x_iconst, x_ldc2_w, x_aconst_null, x_iload, x_lload, x_aload, x_istore, x_lstore, x_astore, x_iinc, x_iadd, x_isub, x_imul, x_idiv, x_irem, x_iand, x_ior, x_ixor, x_ishl, x_ishr, x_iushr, x_ineg, x_ladd, x_lsub, x_lmul, x_ldiv, x_lrem, x_lcmp, x_i2l, x_i2b, x_i2s, x_i2c, x_dup, x_pop, x_dup_x1, x_dup2, x_getfield, x_putfield, x_iaload, x_baload, x_saload, x_caload, x_daload, x_faload, x_laload, x_aaload, x_iastore, x_bastore, x_sastore, x_castore, x_lastore, x_aastore, x_arraylength, x_getstatic, x_goto, x_goto_w, x_ifCond, x_if_icmp, x_ifnull, x_ifnonnull, x_lookupswitch, x_invokevirtual, x_invokestatic, x_invokedynamic, x_ireturn, x_freturn, x_dreturn, x_lreturn, x_areturn, x_return_, pI_c, pL_c, pR_c, pV_i, pV_r, gI_c, gL_c, gR_c, pN_z, pN_s, lget_c, lins_z, lins_c, ldel_z, ldel_c, ldel2_z, ldel2_c, lset_i, lset_l, lset_r, lkeep_z, lkeep_c, largs_z, largs_c, cat_i, cat_l, cat_r, lkp_c, cnd_eq, cnd_ne, cnd_lt, cnd_ge, cnd_gt, cnd_le, swL_z, swL_c, rE_e, rOr_s, rOr_n, rlk_z, rlk_c, aR_c, aI_c, aII_c, aIII_c, aRI_c, aRII_c, aRIII_c, vJn, vJs, vlc]
  exact K
end
section
/-! StruckColours$Sea: becomes, sums -/
theorem cpy_ne {σ : Mem} {x sp b dp n o : Int} (h : o ≠ b) : cpy σ x sp b dp n o = σ o := by
  funext j
  unfold cpy
  rw [if_neg (fun z => h z.1)]
theorem cpy_in {σ : Mem} {x b n j : Int} (h0 : 0 ≤ j) (h1 : j < n) : cpy σ x 0 b 0 n b j = σ x j := by
  unfold cpy
  rw [if_pos ⟨rfl, h0, by omega⟩]
  congr 1
  omega
theorem vw_of {S σ : Mem} {a b : Int} (h1 : S a 1 = σ b 1) (h2 : S a 2 = σ b 2) (g2 : ∀ j, 0 ≤ j → j < 6 → S (a + 2) j = σ (b + 2) j) (g3 : ∀ j, 0 ≤ j → j < 6 → S (a + 3) j = σ (b + 3) j) (g4 : ∀ j, 0 ≤ j → j < 6 → S (a + 4) j = σ (b + 4) j) (g5 : ∀ j, 0 ≤ j → j < 6 → S (a + 5) j = σ (b + 5) j) (g6 : ∀ j, 0 ≤ j → j < 24 → S (a + 6) j = σ (b + 6) j) : vwS S a = vwS σ b := by
  funext j
  unfold vwS
  by_cases c0 : j < 0
  · rw [if_pos c0, if_pos c0]
  rw [if_neg c0, if_neg c0]
  by_cases c1 : j < 6
  · rw [if_pos c1, if_pos c1]; exact g2 j (by omega) c1
  rw [if_neg c1, if_neg c1]
  by_cases c2 : j < 12
  · rw [if_pos c2, if_pos c2]; exact g3 _ (by omega) (by omega)
  rw [if_neg c2, if_neg c2]
  by_cases c3 : j < 36
  · rw [if_pos c3, if_pos c3]; exact g6 _ (by omega) (by omega)
  rw [if_neg c3, if_neg c3]
  by_cases c4 : j < 42
  · rw [if_pos c4, if_pos c4]; exact g4 _ (by omega) (by omega)
  rw [if_neg c4, if_neg c4]
  by_cases c5 : j < 48
  · rw [if_pos c5, if_pos c5]; exact g5 _ (by omega) (by omega)
  rw [if_neg c5, if_neg c5, h1, h2]
def SeaCp (σ σ' : Mem) (a b : Int) : Prop := (∀ o, (o < a ∨ a + 6 < o) → σ' o = σ o) ∧ σ' a 0 = σ b 0 ∧ (∀ i, 0 ≤ i → i < 6 → σ' (a + 1) i = σ (b + 1) i) ∧ vwS σ' a = vwS σ b
def spBecomes : Sp := fun as t σ Q => pR as fun a r => pR r fun b r => r = [] ∧ SeaT t a ∧ SeaT t b ∧ (a + 6 < b ∨ b + 6 < a) ∧ ∀ σ', SeaCp σ σ' a b → Q none t σ'
set_option maxRecDepth 20000 in
theorem c_becomes {l : Launch} {g : GE} {d : Nat} {t : Tau} {σ : Mem} {Q : Post} {as : List TV} (h : spBecomes as t σ Q) : WPc l g 40 (d + 1) 0 0 as t σ Q := by
  obtain ⟨a, r1, rfl, h1⟩ := pR_e h
  obtain ⟨b, r2, rfl, rfl, hs, hb, hd, h⟩ := pR_e h1
  obtain ⟨o, f1, f2, f3, f4, f5, f6, t1, t2, t3, t4, t5, t6, l1, l2, l3, l4, l5, l6⟩ := hs
  obtain ⟨o', f1', f2', f3', f4', f5', f6', t1', t2', t3', t4', t5', t6', l1', l2', l3', l4', l5', l6'⟩ := hb
  refine wg (by decide) rE_nil tk_40 py_40 ml_40 30 (by simp [catT]) (fun N hN => ?_)
  simp [bl_40, hN _, x_iconst, x_ldc2_w, x_aconst_null, x_iload, x_lload, x_aload, x_istore, x_lstore, x_astore, x_iinc, x_iadd, x_isub, x_imul, x_idiv, x_irem, x_iand, x_ior, x_ixor, x_ishl, x_ishr, x_iushr, x_ineg, x_ladd, x_lsub, x_lmul, x_ldiv, x_lrem, x_lcmp, x_i2l, x_i2b, x_i2s, x_i2c, x_dup, x_pop, x_dup_x1, x_dup2, x_getfield, x_putfield, x_iaload, x_baload, x_saload, x_caload, x_daload, x_faload, x_laload, x_aaload, x_iastore, x_bastore, x_sastore, x_castore, x_lastore, x_aastore, x_arraylength, x_getstatic, x_goto, x_goto_w, x_ifCond, x_if_icmp, x_ifnull, x_ifnonnull, x_lookupswitch, x_invokevirtual, x_invokestatic, x_invokedynamic, x_ireturn, x_freturn, x_dreturn, x_lreturn, x_areturn, x_return_, pI_c, pL_c, pR_c, pV_i, pV_r, gI_c, gL_c, gR_c, pN_z, pN_s, lget_c, lins_z, lins_c, ldel_z, ldel_c, ldel2_z, ldel2_c, lset_i, lset_l, lset_r, lkeep_z, lkeep_c, largs_z, largs_c, cat_i, cat_l, cat_r, lkp_c, cnd_eq, cnd_ne, cnd_lt, cnd_ge, cnd_gt, cnd_le, swL_z, swL_c, rE_e, rOr_s, rOr_n, rlk_z, rlk_c, aR_c, aI_c, aII_c, aIII_c, aRI_c, aRII_c, aRIII_c, vJn, vJs, vlc, o, f1, f2, f3, f4, f5, f6, t1, t2, t3, t4, t5, t6, l1, l2, l3, l4, l5, l6, o', f1', f2', f3', f4', f5', f6', t1', t2', t3', t4', t5', t6', l1', l2', l3', l4', l5', l6']
  clear h1 o f1 f2 f3 f4 f5 f6 t1 t2 t3 t4 t5 t6 l1 l2 l3 l4 l5 l6 o' f1' f2' f3' f4' f5' f6' t1' t2' t3' t4' t5' t6' l1' l2' l3' l4' l5' l6'
  refine h _ ⟨fun q hq => ?_, ?_, fun i i0 i1 => ?_, vw_of ?_ ?_ (fun j j0 j1 => ?_) (fun j j0 j1 => ?_) (fun j j0 j1 => ?_) (fun j j0 j1 => ?_) (fun j j0 j1 => ?_)⟩
  · simp (disch := omega) only [cpy_ne, up_ne]
  · simp (disch := omega) only [cpy_ne, up_ne]
    simp only [up_ap]
    grind
  · simp (disch := omega) only [cpy_ne, cpy_in, up_ne]
  · simp (disch := omega) only [cpy_ne, up_ne]
    simp only [up_ap]
    grind
  · simp (disch := omega) only [cpy_ne, up_ne]
    simp only [up_ap]
    grind
  · simp (disch := omega) only [cpy_ne, cpy_in, up_ne]
  · simp (disch := omega) only [cpy_ne, cpy_in, up_ne]
  · simp (disch := omega) only [cpy_ne, cpy_in, up_ne]
  · simp (disch := omega) only [cpy_ne, cpy_in, up_ne]
  · simp (disch := omega) only [cpy_ne, cpy_in, up_ne]
end
