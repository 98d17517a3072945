section
-- ===== PART A: goes FIRST, ahead of the names: the tables' words, and 'selects' of the private methods out of them =====
/-- a private method of a class that the tables say can be made, by its rows of tables_1 -/
def lw_okq (q : MethodName × Nat) : Prop := (q.1.cls ≠ "java/lang/invoke/MethodHandle" ∧ q.1.cls ≠ "java/lang/invoke/VarHandle") ∧ Cond.instantiable q.1.cls q.2 ∈ tables_1 ∧ Cond.privateMethod q.1 ∈ tables_1 ∧ Cond.instanceMethod q.1 ∈ tables_1
theorem lw_p0 : lw_okq (⟨"StruckColours$Rule", "reads", "([CI)I"⟩, 9) := ⟨⟨by decide +kernel, by decide +kernel⟩, List.mem_of_getElem? (i := 181) (by decide +kernel), List.mem_of_getElem? (i := 217) (by decide +kernel), List.mem_of_getElem? (i := 218) (by decide +kernel)⟩
theorem lw_p1 : lw_okq (⟨"StruckColours$Rule", "beginsThing", "(C)Z"⟩, 9) := ⟨⟨by decide +kernel, by decide +kernel⟩, List.mem_of_getElem? (i := 181) (by decide +kernel), List.mem_of_getElem? (i := 224) (by decide +kernel), List.mem_of_getElem? (i := 225) (by decide +kernel)⟩
theorem lw_p2 : lw_okq (⟨"StruckColours$Rule", "emits", "(I)V"⟩, 9) := ⟨⟨by decide +kernel, by decide +kernel⟩, List.mem_of_getElem? (i := 181) (by decide +kernel), List.mem_of_getElem? (i := 231) (by decide +kernel), List.mem_of_getElem? (i := 232) (by decide +kernel)⟩
theorem lw_p3 : lw_okq (⟨"StruckColours$Rule", "puts", "(C)V"⟩, 9) := ⟨⟨by decide +kernel, by decide +kernel⟩, List.mem_of_getElem? (i := 181) (by decide +kernel), List.mem_of_getElem? (i := 238) (by decide +kernel), List.mem_of_getElem? (i := 239) (by decide +kernel)⟩
theorem lw_p4 : lw_okq (⟨"StruckColours$Rule", "comesBehind", "(C)Z"⟩, 9) := ⟨⟨by decide +kernel, by decide +kernel⟩, List.mem_of_getElem? (i := 181) (by decide +kernel), List.mem_of_getElem? (i := 242) (by decide +kernel), List.mem_of_getElem? (i := 243) (by decide +kernel)⟩
theorem lw_p5 : lw_okq (⟨"StruckColours$Rule", "lengthens", "(I)Z"⟩, 9) := ⟨⟨by decide +kernel, by decide +kernel⟩, List.mem_of_getElem? (i := 181) (by decide +kernel), List.mem_of_getElem? (i := 246) (by decide +kernel), List.mem_of_getElem? (i := 247) (by decide +kernel)⟩
theorem lw_p6 : lw_okq (⟨"StruckColours$Rule", "closes", "()Z"⟩, 9) := ⟨⟨by decide +kernel, by decide +kernel⟩, List.mem_of_getElem? (i := 181) (by decide +kernel), List.mem_of_getElem? (i := 250) (by decide +kernel), List.mem_of_getElem? (i := 251) (by decide +kernel)⟩
theorem lw_p7 : lw_okq (⟨"StruckColours$Rule", "joins", "(I)V"⟩, 9) := ⟨⟨by decide +kernel, by decide +kernel⟩, List.mem_of_getElem? (i := 181) (by decide +kernel), List.mem_of_getElem? (i := 254) (by decide +kernel), List.mem_of_getElem? (i := 255) (by decide +kernel)⟩
theorem lw_p8 : lw_okq (⟨"StruckColours$Text", "add", "(C)V"⟩, 2) := ⟨⟨by decide +kernel, by decide +kernel⟩, List.mem_of_getElem? (i := 27) (by decide +kernel), List.mem_of_getElem? (i := 317) (by decide +kernel), List.mem_of_getElem? (i := 318) (by decide +kernel)⟩
theorem lw_p9 : lw_okq (⟨"StruckColours$Text", "empties", "()I"⟩, 2) := ⟨⟨by decide +kernel, by decide +kernel⟩, List.mem_of_getElem? (i := 27) (by decide +kernel), List.mem_of_getElem? (i := 329) (by decide +kernel), List.mem_of_getElem? (i := 330) (by decide +kernel)⟩
theorem lw_p10 : lw_okq (⟨"StruckColours", "faultOfShips", "(I)I"⟩, 17) := ⟨⟨by decide +kernel, by decide +kernel⟩, List.mem_of_getElem? (i := 19) (by decide +kernel), List.mem_of_getElem? (i := 333) (by decide +kernel), List.mem_of_getElem? (i := 334) (by decide +kernel)⟩
theorem lw_p11 : lw_okq (⟨"StruckColours", "standsInShips", "(I)Z"⟩, 17) := ⟨⟨by decide +kernel, by decide +kernel⟩, List.mem_of_getElem? (i := 19) (by decide +kernel), List.mem_of_getElem? (i := 338) (by decide +kernel), List.mem_of_getElem? (i := 339) (by decide +kernel)⟩
theorem lw_p12 : lw_okq (⟨"StruckColours$Text", "at", "(I)C"⟩, 2) := ⟨⟨by decide +kernel, by decide +kernel⟩, List.mem_of_getElem? (i := 27) (by decide +kernel), List.mem_of_getElem? (i := 342) (by decide +kernel), List.mem_of_getElem? (i := 343) (by decide +kernel)⟩
theorem lw_p13 : lw_okq (⟨"StruckColours$Sea", "joins", "(II)V"⟩, 9) := ⟨⟨by decide +kernel, by decide +kernel⟩, List.mem_of_getElem? (i := 58) (by decide +kernel), List.mem_of_getElem? (i := 350) (by decide +kernel), List.mem_of_getElem? (i := 351) (by decide +kernel)⟩
theorem lw_p14 : lw_okq (⟨"StruckColours$Sea", "hoists", "(II)V"⟩, 9) := ⟨⟨by decide +kernel, by decide +kernel⟩, List.mem_of_getElem? (i := 58) (by decide +kernel), List.mem_of_getElem? (i := 357) (by decide +kernel), List.mem_of_getElem? (i := 358) (by decide +kernel)⟩
theorem lw_p15 : lw_okq (⟨"StruckColours$Sea", "has", "(I)Z"⟩, 9) := ⟨⟨by decide +kernel, by decide +kernel⟩, List.mem_of_getElem? (i := 58) (by decide +kernel), List.mem_of_getElem? (i := 361) (by decide +kernel), List.mem_of_getElem? (i := 362) (by decide +kernel)⟩
def lw_privs_1 : List (MethodName × Nat) := [(⟨"StruckColours$Rule", "reads", "([CI)I"⟩, 9), (⟨"StruckColours$Rule", "beginsThing", "(C)Z"⟩, 9), (⟨"StruckColours$Rule", "emits", "(I)V"⟩, 9), (⟨"StruckColours$Rule", "puts", "(C)V"⟩, 9), (⟨"StruckColours$Rule", "comesBehind", "(C)Z"⟩, 9), (⟨"StruckColours$Rule", "lengthens", "(I)Z"⟩, 9), (⟨"StruckColours$Rule", "closes", "()Z"⟩, 9), (⟨"StruckColours$Rule", "joins", "(I)V"⟩, 9), (⟨"StruckColours$Text", "add", "(C)V"⟩, 2), (⟨"StruckColours$Text", "empties", "()I"⟩, 2), (⟨"StruckColours", "faultOfShips", "(I)I"⟩, 17), (⟨"StruckColours", "standsInShips", "(I)Z"⟩, 17), (⟨"StruckColours$Text", "at", "(I)C"⟩, 2), (⟨"StruckColours$Sea", "joins", "(II)V"⟩, 9), (⟨"StruckColours$Sea", "hoists", "(II)V"⟩, 9), (⟨"StruckColours$Sea", "has", "(I)Z"⟩, 9)]
theorem lw_r1 : ∀ q ∈ lw_privs_1, lw_okq q := List.forall_mem_cons.mpr ⟨lw_p0, List.forall_mem_cons.mpr ⟨lw_p1, List.forall_mem_cons.mpr ⟨lw_p2, List.forall_mem_cons.mpr ⟨lw_p3, List.forall_mem_cons.mpr ⟨lw_p4, List.forall_mem_cons.mpr ⟨lw_p5, List.forall_mem_cons.mpr ⟨lw_p6, List.forall_mem_cons.mpr ⟨lw_p7, List.forall_mem_cons.mpr ⟨lw_p8, List.forall_mem_cons.mpr ⟨lw_p9, List.forall_mem_cons.mpr ⟨lw_p10, List.forall_mem_cons.mpr ⟨lw_p11, List.forall_mem_cons.mpr ⟨lw_p12, List.forall_mem_cons.mpr ⟨lw_p13, List.forall_mem_cons.mpr ⟨lw_p14, List.forall_mem_cons.mpr ⟨lw_p15, fun _ h => absurd h List.not_mem_nil⟩⟩⟩⟩⟩⟩⟩⟩⟩⟩⟩⟩⟩⟩⟩⟩
theorem lw_p16 : lw_okq (⟨"StruckColours$Past", "clears", "()V"⟩, 3) := ⟨⟨by decide +kernel, by decide +kernel⟩, List.mem_of_getElem? (i := 98) (by decide +kernel), List.mem_of_getElem? (i := 365) (by decide +kernel), List.mem_of_getElem? (i := 366) (by decide +kernel)⟩
theorem lw_p17 : lw_okq (⟨"StruckColours", "readsOtherRule", "()I"⟩, 17) := ⟨⟨by decide +kernel, by decide +kernel⟩, List.mem_of_getElem? (i := 19) (by decide +kernel), List.mem_of_getElem? (i := 373) (by decide +kernel), List.mem_of_getElem? (i := 374) (by decide +kernel)⟩
theorem lw_p18 : lw_okq (⟨"StruckColours$Sea", "isPair", "(II)Z"⟩, 9) := ⟨⟨by decide +kernel, by decide +kernel⟩, List.mem_of_getElem? (i := 58) (by decide +kernel), List.mem_of_getElem? (i := 381) (by decide +kernel), List.mem_of_getElem? (i := 382) (by decide +kernel)⟩
theorem lw_p19 : lw_okq (⟨"StruckColours$Rule", "measures", "(LStruckColours$Sea;II)I"⟩, 9) := ⟨⟨by decide +kernel, by decide +kernel⟩, List.mem_of_getElem? (i := 181) (by decide +kernel), List.mem_of_getElem? (i := 385) (by decide +kernel), List.mem_of_getElem? (i := 386) (by decide +kernel)⟩
theorem lw_p20 : lw_okq (⟨"StruckColours$Rule", "stacks", "(II)I"⟩, 9) := ⟨⟨by decide +kernel, by decide +kernel⟩, List.mem_of_getElem? (i := 181) (by decide +kernel), List.mem_of_getElem? (i := 389) (by decide +kernel), List.mem_of_getElem? (i := 390) (by decide +kernel)⟩
theorem lw_p21 : lw_okq (⟨"StruckColours$Sea", "strengthOf", "(I)I"⟩, 9) := ⟨⟨by decide +kernel, by decide +kernel⟩, List.mem_of_getElem? (i := 58) (by decide +kernel), List.mem_of_getElem? (i := 396) (by decide +kernel), List.mem_of_getElem? (i := 397) (by decide +kernel)⟩
theorem lw_p22 : lw_okq (⟨"StruckColours$Sea", "sideOf", "(I)I"⟩, 9) := ⟨⟨by decide +kernel, by decide +kernel⟩, List.mem_of_getElem? (i := 58) (by decide +kernel), List.mem_of_getElem? (i := 400) (by decide +kernel), List.mem_of_getElem? (i := 401) (by decide +kernel)⟩
theorem lw_p23 : lw_okq (⟨"StruckColours$Sea", "parts", "(II)I"⟩, 9) := ⟨⟨by decide +kernel, by decide +kernel⟩, List.mem_of_getElem? (i := 58) (by decide +kernel), List.mem_of_getElem? (i := 404) (by decide +kernel), List.mem_of_getElem? (i := 405) (by decide +kernel)⟩
theorem lw_p24 : lw_okq (⟨"StruckColours$Sea", "wonOf", "(I)I"⟩, 9) := ⟨⟨by decide +kernel, by decide +kernel⟩, List.mem_of_getElem? (i := 58) (by decide +kernel), List.mem_of_getElem? (i := 408) (by decide +kernel), List.mem_of_getElem? (i := 409) (by decide +kernel)⟩
theorem lw_p25 : lw_okq (⟨"StruckColours$Sea", "lostOf", "(I)I"⟩, 9) := ⟨⟨by decide +kernel, by decide +kernel⟩, List.mem_of_getElem? (i := 58) (by decide +kernel), List.mem_of_getElem? (i := 412) (by decide +kernel), List.mem_of_getElem? (i := 413) (by decide +kernel)⟩
theorem lw_p26 : lw_okq (⟨"StruckColours$Rule", "reduces", "(II)I"⟩, 9) := ⟨⟨by decide +kernel, by decide +kernel⟩, List.mem_of_getElem? (i := 181) (by decide +kernel), List.mem_of_getElem? (i := 416) (by decide +kernel), List.mem_of_getElem? (i := 417) (by decide +kernel)⟩
theorem lw_p27 : lw_okq (⟨"StruckColours$Sea", "strengthens", "(II)V"⟩, 9) := ⟨⟨by decide +kernel, by decide +kernel⟩, List.mem_of_getElem? (i := 58) (by decide +kernel), List.mem_of_getElem? (i := 437) (by decide +kernel), List.mem_of_getElem? (i := 438) (by decide +kernel)⟩
theorem lw_p28 : lw_okq (⟨"StruckColours$Sea", "strengthOfAll", "()I"⟩, 9) := ⟨⟨by decide +kernel, by decide +kernel⟩, List.mem_of_getElem? (i := 58) (by decide +kernel), List.mem_of_getElem? (i := 443) (by decide +kernel), List.mem_of_getElem? (i := 444) (by decide +kernel)⟩
theorem lw_p29 : lw_okq (⟨"StruckColours$Sea", "strengthOfSome", "(I)I"⟩, 9) := ⟨⟨by decide +kernel, by decide +kernel⟩, List.mem_of_getElem? (i := 58) (by decide +kernel), List.mem_of_getElem? (i := 447) (by decide +kernel), List.mem_of_getElem? (i := 448) (by decide +kernel)⟩
theorem lw_p30 : lw_okq (⟨"StruckColours$Sea", "becomes", "(LStruckColours$Sea;)V"⟩, 9) := ⟨⟨by decide +kernel, by decide +kernel⟩, List.mem_of_getElem? (i := 58) (by decide +kernel), List.mem_of_getElem? (i := 456) (by decide +kernel), List.mem_of_getElem? (i := 457) (by decide +kernel)⟩
theorem lw_p31 : lw_okq (⟨"StruckColours$Sea", "battle", "(LStruckColours$Rule;III)I"⟩, 9) := ⟨⟨by decide +kernel, by decide +kernel⟩, List.mem_of_getElem? (i := 58) (by decide +kernel), List.mem_of_getElem? (i := 463) (by decide +kernel), List.mem_of_getElem? (i := 464) (by decide +kernel)⟩
def lw_privs_2 : List (MethodName × Nat) := [(⟨"StruckColours$Past", "clears", "()V"⟩, 3), (⟨"StruckColours", "readsOtherRule", "()I"⟩, 17), (⟨"StruckColours$Sea", "isPair", "(II)Z"⟩, 9), (⟨"StruckColours$Rule", "measures", "(LStruckColours$Sea;II)I"⟩, 9), (⟨"StruckColours$Rule", "stacks", "(II)I"⟩, 9), (⟨"StruckColours$Sea", "strengthOf", "(I)I"⟩, 9), (⟨"StruckColours$Sea", "sideOf", "(I)I"⟩, 9), (⟨"StruckColours$Sea", "parts", "(II)I"⟩, 9), (⟨"StruckColours$Sea", "wonOf", "(I)I"⟩, 9), (⟨"StruckColours$Sea", "lostOf", "(I)I"⟩, 9), (⟨"StruckColours$Rule", "reduces", "(II)I"⟩, 9), (⟨"StruckColours$Sea", "strengthens", "(II)V"⟩, 9), (⟨"StruckColours$Sea", "strengthOfAll", "()I"⟩, 9), (⟨"StruckColours$Sea", "strengthOfSome", "(I)I"⟩, 9), (⟨"StruckColours$Sea", "becomes", "(LStruckColours$Sea;)V"⟩, 9), (⟨"StruckColours$Sea", "battle", "(LStruckColours$Rule;III)I"⟩, 9)]
theorem lw_r2 : ∀ q ∈ lw_privs_2, lw_okq q := List.forall_mem_cons.mpr ⟨lw_p16, List.forall_mem_cons.mpr ⟨lw_p17, List.forall_mem_cons.mpr ⟨lw_p18, List.forall_mem_cons.mpr ⟨lw_p19, List.forall_mem_cons.mpr ⟨lw_p20, List.forall_mem_cons.mpr ⟨lw_p21, List.forall_mem_cons.mpr ⟨lw_p22, List.forall_mem_cons.mpr ⟨lw_p23, List.forall_mem_cons.mpr ⟨lw_p24, List.forall_mem_cons.mpr ⟨lw_p25, List.forall_mem_cons.mpr ⟨lw_p26, List.forall_mem_cons.mpr ⟨lw_p27, List.forall_mem_cons.mpr ⟨lw_p28, List.forall_mem_cons.mpr ⟨lw_p29, List.forall_mem_cons.mpr ⟨lw_p30, List.forall_mem_cons.mpr ⟨lw_p31, fun _ h => absurd h List.not_mem_nil⟩⟩⟩⟩⟩⟩⟩⟩⟩⟩⟩⟩⟩⟩⟩⟩
theorem lw_p32 : lw_okq (⟨"StruckColours$Sea", "winner", "(LStruckColours$Rule;II)I"⟩, 9) := ⟨⟨by decide +kernel, by decide +kernel⟩, List.mem_of_getElem? (i := 58) (by decide +kernel), List.mem_of_getElem? (i := 467) (by decide +kernel), List.mem_of_getElem? (i := 468) (by decide +kernel)⟩
theorem lw_p33 : lw_okq (⟨"StruckColours$Sea", "strikesTo", "(III)V"⟩, 9) := ⟨⟨by decide +kernel, by decide +kernel⟩, List.mem_of_getElem? (i := 58) (by decide +kernel), List.mem_of_getElem? (i := 474) (by decide +kernel), List.mem_of_getElem? (i := 475) (by decide +kernel)⟩
theorem lw_p34 : lw_okq (⟨"StruckColours$Sea", "resews", "(IIII)V"⟩, 9) := ⟨⟨by decide +kernel, by decide +kernel⟩, List.mem_of_getElem? (i := 58) (by decide +kernel), List.mem_of_getElem? (i := 479) (by decide +kernel), List.mem_of_getElem? (i := 480) (by decide +kernel)⟩
theorem lw_p35 : lw_okq (⟨"StruckColours$Sea", "mayGoOver", "(I)V"⟩, 9) := ⟨⟨by decide +kernel, by decide +kernel⟩, List.mem_of_getElem? (i := 58) (by decide +kernel), List.mem_of_getElem? (i := 483) (by decide +kernel), List.mem_of_getElem? (i := 484) (by decide +kernel)⟩
theorem lw_p36 : lw_okq (⟨"StruckColours$Past", "adds", "(LStruckColours$Sea;)V"⟩, 3) := ⟨⟨by decide +kernel, by decide +kernel⟩, List.mem_of_getElem? (i := 98) (by decide +kernel), List.mem_of_getElem? (i := 487) (by decide +kernel), List.mem_of_getElem? (i := 488) (by decide +kernel)⟩
theorem lw_p37 : lw_okq (⟨"StruckColours$Past", "at", "(I)LStruckColours$Sea;"⟩, 3) := ⟨⟨by decide +kernel, by decide +kernel⟩, List.mem_of_getElem? (i := 98) (by decide +kernel), List.mem_of_getElem? (i := 491) (by decide +kernel), List.mem_of_getElem? (i := 492) (by decide +kernel)⟩
theorem lw_p38 : lw_okq (⟨"StruckColours$Sea", "dawns", "(I)V"⟩, 9) := ⟨⟨by decide +kernel, by decide +kernel⟩, List.mem_of_getElem? (i := 58) (by decide +kernel), List.mem_of_getElem? (i := 503) (by decide +kernel), List.mem_of_getElem? (i := 504) (by decide +kernel)⟩
theorem lw_p39 : lw_okq (⟨"StruckColours$Sea", "mendsFlag", "(I)V"⟩, 9) := ⟨⟨by decide +kernel, by decide +kernel⟩, List.mem_of_getElem? (i := 58) (by decide +kernel), List.mem_of_getElem? (i := 508) (by decide +kernel), List.mem_of_getElem? (i := 509) (by decide +kernel)⟩
theorem lw_p40 : lw_okq (⟨"StruckColours$Row", "clears", "()V"⟩, 2) := ⟨⟨by decide +kernel, by decide +kernel⟩, List.mem_of_getElem? (i := 43) (by decide +kernel), List.mem_of_getElem? (i := 512) (by decide +kernel), List.mem_of_getElem? (i := 513) (by decide +kernel)⟩
theorem lw_p41 : lw_okq (⟨"StruckColours$Sea", "partsOfAll", "(I)I"⟩, 9) := ⟨⟨by decide +kernel, by decide +kernel⟩, List.mem_of_getElem? (i := 58) (by decide +kernel), List.mem_of_getElem? (i := 516) (by decide +kernel), List.mem_of_getElem? (i := 517) (by decide +kernel)⟩
theorem lw_p42 : lw_okq (⟨"StruckColours$Sea", "partsOfSome", "(II)I"⟩, 9) := ⟨⟨by decide +kernel, by decide +kernel⟩, List.mem_of_getElem? (i := 58) (by decide +kernel), List.mem_of_getElem? (i := 520) (by decide +kernel), List.mem_of_getElem? (i := 521) (by decide +kernel)⟩
theorem lw_p43 : lw_okq (⟨"StruckColours$Row", "adds", "(J)V"⟩, 2) := ⟨⟨by decide +kernel, by decide +kernel⟩, List.mem_of_getElem? (i := 43) (by decide +kernel), List.mem_of_getElem? (i := 524) (by decide +kernel), List.mem_of_getElem? (i := 525) (by decide +kernel)⟩
theorem lw_p44 : lw_okq (⟨"StruckColours$Sea", "sewsIn", "(III)I"⟩, 9) := ⟨⟨by decide +kernel, by decide +kernel⟩, List.mem_of_getElem? (i := 58) (by decide +kernel), List.mem_of_getElem? (i := 532) (by decide +kernel), List.mem_of_getElem? (i := 533) (by decide +kernel)⟩
theorem lw_p45 : lw_okq (⟨"StruckColours$Sea", "strikesAll", "(II)I"⟩, 9) := ⟨⟨by decide +kernel, by decide +kernel⟩, List.mem_of_getElem? (i := 58) (by decide +kernel), List.mem_of_getElem? (i := 540) (by decide +kernel), List.mem_of_getElem? (i := 541) (by decide +kernel)⟩
theorem lw_p46 : lw_okq (⟨"StruckColours", "faultOfWar", "(I)I"⟩, 17) := ⟨⟨by decide +kernel, by decide +kernel⟩, List.mem_of_getElem? (i := 19) (by decide +kernel), List.mem_of_getElem? (i := 548) (by decide +kernel), List.mem_of_getElem? (i := 549) (by decide +kernel)⟩
theorem lw_p47 : lw_okq (⟨"StruckColours", "acts", "(I)Z"⟩, 17) := ⟨⟨by decide +kernel, by decide +kernel⟩, List.mem_of_getElem? (i := 19) (by decide +kernel), List.mem_of_getElem? (i := 558) (by decide +kernel), List.mem_of_getElem? (i := 559) (by decide +kernel)⟩
def lw_privs_3 : List (MethodName × Nat) := [(⟨"StruckColours$Sea", "winner", "(LStruckColours$Rule;II)I"⟩, 9), (⟨"StruckColours$Sea", "strikesTo", "(III)V"⟩, 9), (⟨"StruckColours$Sea", "resews", "(IIII)V"⟩, 9), (⟨"StruckColours$Sea", "mayGoOver", "(I)V"⟩, 9), (⟨"StruckColours$Past", "adds", "(LStruckColours$Sea;)V"⟩, 3), (⟨"StruckColours$Past", "at", "(I)LStruckColours$Sea;"⟩, 3), (⟨"StruckColours$Sea", "dawns", "(I)V"⟩, 9), (⟨"StruckColours$Sea", "mendsFlag", "(I)V"⟩, 9), (⟨"StruckColours$Row", "clears", "()V"⟩, 2), (⟨"StruckColours$Sea", "partsOfAll", "(I)I"⟩, 9), (⟨"StruckColours$Sea", "partsOfSome", "(II)I"⟩, 9), (⟨"StruckColours$Row", "adds", "(J)V"⟩, 2), (⟨"StruckColours$Sea", "sewsIn", "(III)I"⟩, 9), (⟨"StruckColours$Sea", "strikesAll", "(II)I"⟩, 9), (⟨"StruckColours", "faultOfWar", "(I)I"⟩, 17), (⟨"StruckColours", "acts", "(I)Z"⟩, 17)]
theorem lw_r3 : ∀ q ∈ lw_privs_3, lw_okq q := List.forall_mem_cons.mpr ⟨lw_p32, List.forall_mem_cons.mpr ⟨lw_p33, List.forall_mem_cons.mpr ⟨lw_p34, List.forall_mem_cons.mpr ⟨lw_p35, List.forall_mem_cons.mpr ⟨lw_p36, List.forall_mem_cons.mpr ⟨lw_p37, List.forall_mem_cons.mpr ⟨lw_p38, List.forall_mem_cons.mpr ⟨lw_p39, List.forall_mem_cons.mpr ⟨lw_p40, List.forall_mem_cons.mpr ⟨lw_p41, List.forall_mem_cons.mpr ⟨lw_p42, List.forall_mem_cons.mpr ⟨lw_p43, List.forall_mem_cons.mpr ⟨lw_p44, List.forall_mem_cons.mpr ⟨lw_p45, List.forall_mem_cons.mpr ⟨lw_p46, List.forall_mem_cons.mpr ⟨lw_p47, fun _ h => absurd h List.not_mem_nil⟩⟩⟩⟩⟩⟩⟩⟩⟩⟩⟩⟩⟩⟩⟩⟩
theorem lw_p48 : lw_okq (⟨"StruckColours$Past", "returns", "(LStruckColours$Sea;)Z"⟩, 3) := ⟨⟨by decide +kernel, by decide +kernel⟩, List.mem_of_getElem? (i := 98) (by decide +kernel), List.mem_of_getElem? (i := 566) (by decide +kernel), List.mem_of_getElem? (i := 567) (by decide +kernel)⟩
theorem lw_p49 : lw_okq (⟨"StruckColours$Row", "addsFraction", "(JJ)V"⟩, 2) := ⟨⟨by decide +kernel, by decide +kernel⟩, List.mem_of_getElem? (i := 43) (by decide +kernel), List.mem_of_getElem? (i := 581) (by decide +kernel), List.mem_of_getElem? (i := 582) (by decide +kernel)⟩
theorem lw_p50 : lw_okq (⟨"StruckColours$Sea", "strangeParts", "(I)I"⟩, 9) := ⟨⟨by decide +kernel, by decide +kernel⟩, List.mem_of_getElem? (i := 58) (by decide +kernel), List.mem_of_getElem? (i := 599) (by decide +kernel), List.mem_of_getElem? (i := 600) (by decide +kernel)⟩
theorem lw_p51 : lw_okq (⟨"StruckColours$Sea", "difference", "(II)I"⟩, 9) := ⟨⟨by decide +kernel, by decide +kernel⟩, List.mem_of_getElem? (i := 58) (by decide +kernel), List.mem_of_getElem? (i := 607) (by decide +kernel), List.mem_of_getElem? (i := 608) (by decide +kernel)⟩
theorem lw_p52 : lw_okq (⟨"StruckColours", "isTempted", "(III)Z"⟩, 17) := ⟨⟨by decide +kernel, by decide +kernel⟩, List.mem_of_getElem? (i := 19) (by decide +kernel), List.mem_of_getElem? (i := 635) (by decide +kernel), List.mem_of_getElem? (i := 636) (by decide +kernel)⟩
theorem lw_p53 : lw_okq (⟨"StruckColours$Search", "aims", "(LStruckColours$Rule;III)V"⟩, 6) := ⟨⟨by decide +kernel, by decide +kernel⟩, List.mem_of_getElem? (i := 118) (by decide +kernel), List.mem_of_getElem? (i := 651) (by decide +kernel), List.mem_of_getElem? (i := 652) (by decide +kernel)⟩
theorem lw_p54 : lw_okq (⟨"StruckColours$Search", "fewest", "(LStruckColours$Sea;)I"⟩, 6) := ⟨⟨by decide +kernel, by decide +kernel⟩, List.mem_of_getElem? (i := 118) (by decide +kernel), List.mem_of_getElem? (i := 655) (by decide +kernel), List.mem_of_getElem? (i := 656) (by decide +kernel)⟩
theorem lw_p55 : lw_okq (⟨"StruckColours$Search", "level", "(I)LStruckColours$Sea;"⟩, 6) := ⟨⟨by decide +kernel, by decide +kernel⟩, List.mem_of_getElem? (i := 118) (by decide +kernel), List.mem_of_getElem? (i := 659) (by decide +kernel), List.mem_of_getElem? (i := 660) (by decide +kernel)⟩
theorem lw_p56 : lw_okq (⟨"StruckColours$Search", "reaches", "(II)Z"⟩, 6) := ⟨⟨by decide +kernel, by decide +kernel⟩, List.mem_of_getElem? (i := 118) (by decide +kernel), List.mem_of_getElem? (i := 664) (by decide +kernel), List.mem_of_getElem? (i := 665) (by decide +kernel)⟩
theorem lw_p57 : lw_okq (⟨"StruckColours$Search", "isReached", "(LStruckColours$Sea;)Z"⟩, 6) := ⟨⟨by decide +kernel, by decide +kernel⟩, List.mem_of_getElem? (i := 118) (by decide +kernel), List.mem_of_getElem? (i := 668) (by decide +kernel), List.mem_of_getElem? (i := 669) (by decide +kernel)⟩
theorem lw_p58 : lw_okq (⟨"StruckColours$Search", "isTooFar", "(LStruckColours$Sea;I)Z"⟩, 6) := ⟨⟨by decide +kernel, by decide +kernel⟩, List.mem_of_getElem? (i := 118) (by decide +kernel), List.mem_of_getElem? (i := 677) (by decide +kernel), List.mem_of_getElem? (i := 678) (by decide +kernel)⟩
theorem lw_p59 : lw_okq (⟨"StruckColours$Search", "isOfUse", "(III)Z"⟩, 6) := ⟨⟨by decide +kernel, by decide +kernel⟩, List.mem_of_getElem? (i := 118) (by decide +kernel), List.mem_of_getElem? (i := 682) (by decide +kernel), List.mem_of_getElem? (i := 683) (by decide +kernel)⟩
theorem lw_p60 : lw_okq (⟨"StruckColours$Search", "goes", "(III)Z"⟩, 6) := ⟨⟨by decide +kernel, by decide +kernel⟩, List.mem_of_getElem? (i := 118) (by decide +kernel), List.mem_of_getElem? (i := 687) (by decide +kernel), List.mem_of_getElem? (i := 688) (by decide +kernel)⟩
theorem lw_p61 : lw_okq (⟨"StruckColours", "tellsFights", "(I)I"⟩, 17) := ⟨⟨by decide +kernel, by decide +kernel⟩, List.mem_of_getElem? (i := 19) (by decide +kernel), List.mem_of_getElem? (i := 693) (by decide +kernel), List.mem_of_getElem? (i := 694) (by decide +kernel)⟩
theorem lw_p62 : lw_okq (⟨"StruckColours$Search", "step", "(I)I"⟩, 6) := ⟨⟨by decide +kernel, by decide +kernel⟩, List.mem_of_getElem? (i := 118) (by decide +kernel), List.mem_of_getElem? (i := 697) (by decide +kernel), List.mem_of_getElem? (i := 698) (by decide +kernel)⟩
theorem lw_p63 : lw_okq (⟨"StruckColours", "firstPairFights", "()V"⟩, 17) := ⟨⟨by decide +kernel, by decide +kernel⟩, List.mem_of_getElem? (i := 19) (by decide +kernel), List.mem_of_getElem? (i := 709) (by decide +kernel), List.mem_of_getElem? (i := 710) (by decide +kernel)⟩
def lw_privs_4 : List (MethodName × Nat) := [(⟨"StruckColours$Past", "returns", "(LStruckColours$Sea;)Z"⟩, 3), (⟨"StruckColours$Row", "addsFraction", "(JJ)V"⟩, 2), (⟨"StruckColours$Sea", "strangeParts", "(I)I"⟩, 9), (⟨"StruckColours$Sea", "difference", "(II)I"⟩, 9), (⟨"StruckColours", "isTempted", "(III)Z"⟩, 17), (⟨"StruckColours$Search", "aims", "(LStruckColours$Rule;III)V"⟩, 6), (⟨"StruckColours$Search", "fewest", "(LStruckColours$Sea;)I"⟩, 6), (⟨"StruckColours$Search", "level", "(I)LStruckColours$Sea;"⟩, 6), (⟨"StruckColours$Search", "reaches", "(II)Z"⟩, 6), (⟨"StruckColours$Search", "isReached", "(LStruckColours$Sea;)Z"⟩, 6), (⟨"StruckColours$Search", "isTooFar", "(LStruckColours$Sea;I)Z"⟩, 6), (⟨"StruckColours$Search", "isOfUse", "(III)Z"⟩, 6), (⟨"StruckColours$Search", "goes", "(III)Z"⟩, 6), (⟨"StruckColours", "tellsFights", "(I)I"⟩, 17), (⟨"StruckColours$Search", "step", "(I)I"⟩, 6), (⟨"StruckColours", "firstPairFights", "()V"⟩, 17)]
theorem lw_r4 : ∀ q ∈ lw_privs_4, lw_okq q := List.forall_mem_cons.mpr ⟨lw_p48, List.forall_mem_cons.mpr ⟨lw_p49, List.forall_mem_cons.mpr ⟨lw_p50, List.forall_mem_cons.mpr ⟨lw_p51, List.forall_mem_cons.mpr ⟨lw_p52, List.forall_mem_cons.mpr ⟨lw_p53, List.forall_mem_cons.mpr ⟨lw_p54, List.forall_mem_cons.mpr ⟨lw_p55, List.forall_mem_cons.mpr ⟨lw_p56, List.forall_mem_cons.mpr ⟨lw_p57, List.forall_mem_cons.mpr ⟨lw_p58, List.forall_mem_cons.mpr ⟨lw_p59, List.forall_mem_cons.mpr ⟨lw_p60, List.forall_mem_cons.mpr ⟨lw_p61, List.forall_mem_cons.mpr ⟨lw_p62, List.forall_mem_cons.mpr ⟨lw_p63, fun _ h => absurd h List.not_mem_nil⟩⟩⟩⟩⟩⟩⟩⟩⟩⟩⟩⟩⟩⟩⟩⟩
theorem lw_p64 : lw_okq (⟨"StruckColours$Notes", "adds", "(III)Z"⟩, 4) := ⟨⟨by decide +kernel, by decide +kernel⟩, List.mem_of_getElem? (i := 145) (by decide +kernel), List.mem_of_getElem? (i := 750) (by decide +kernel), List.mem_of_getElem? (i := 751) (by decide +kernel)⟩
theorem lw_p65 : lw_okq (⟨"StruckColours$Notes", "empties", "()I"⟩, 4) := ⟨⟨by decide +kernel, by decide +kernel⟩, List.mem_of_getElem? (i := 145) (by decide +kernel), List.mem_of_getElem? (i := 758) (by decide +kernel), List.mem_of_getElem? (i := 759) (by decide +kernel)⟩
theorem lw_p66 : lw_okq (⟨"StruckColours", "fittingShips", "()I"⟩, 17) := ⟨⟨by decide +kernel, by decide +kernel⟩, List.mem_of_getElem? (i := 19) (by decide +kernel), List.mem_of_getElem? (i := 766) (by decide +kernel), List.mem_of_getElem? (i := 767) (by decide +kernel)⟩
theorem lw_p67 : lw_okq (⟨"StruckColours", "fitsAll", "(I)Z"⟩, 17) := ⟨⟨by decide +kernel, by decide +kernel⟩, List.mem_of_getElem? (i := 19) (by decide +kernel), List.mem_of_getElem? (i := 770) (by decide +kernel), List.mem_of_getElem? (i := 771) (by decide +kernel)⟩
theorem lw_p68 : lw_okq (⟨"StruckColours$Notes", "firstOf", "(I)I"⟩, 4) := ⟨⟨by decide +kernel, by decide +kernel⟩, List.mem_of_getElem? (i := 145) (by decide +kernel), List.mem_of_getElem? (i := 774) (by decide +kernel), List.mem_of_getElem? (i := 775) (by decide +kernel)⟩
theorem lw_p69 : lw_okq (⟨"StruckColours$Notes", "secondOf", "(I)I"⟩, 4) := ⟨⟨by decide +kernel, by decide +kernel⟩, List.mem_of_getElem? (i := 145) (by decide +kernel), List.mem_of_getElem? (i := 778) (by decide +kernel), List.mem_of_getElem? (i := 779) (by decide +kernel)⟩
theorem lw_p70 : lw_okq (⟨"StruckColours", "fitsSight", "(III)Z"⟩, 17) := ⟨⟨by decide +kernel, by decide +kernel⟩, List.mem_of_getElem? (i := 19) (by decide +kernel), List.mem_of_getElem? (i := 782) (by decide +kernel), List.mem_of_getElem? (i := 783) (by decide +kernel)⟩
theorem lw_p71 : lw_okq (⟨"StruckColours", "shipsWith", "(I)I"⟩, 17) := ⟨⟨by decide +kernel, by decide +kernel⟩, List.mem_of_getElem? (i := 19) (by decide +kernel), List.mem_of_getElem? (i := 792) (by decide +kernel), List.mem_of_getElem? (i := 793) (by decide +kernel)⟩
theorem lw_p72 : lw_okq (⟨"StruckColours$Laws", "weighs", "(LStruckColours$Notes;)I"⟩, 2) := ⟨⟨by decide +kernel, by decide +kernel⟩, List.mem_of_getElem? (i := 166) (by decide +kernel), List.mem_of_getElem? (i := 808) (by decide +kernel), List.mem_of_getElem? (i := 809) (by decide +kernel)⟩
theorem lw_p73 : lw_okq (⟨"StruckColours$Notes", "thirdOf", "(I)I"⟩, 4) := ⟨⟨by decide +kernel, by decide +kernel⟩, List.mem_of_getElem? (i := 145) (by decide +kernel), List.mem_of_getElem? (i := 820) (by decide +kernel), List.mem_of_getElem? (i := 821) (by decide +kernel)⟩
theorem lw_p74 : lw_okq (⟨"StruckColours$Laws", "numberOver", "(II)I"⟩, 2) := ⟨⟨by decide +kernel, by decide +kernel⟩, List.mem_of_getElem? (i := 166) (by decide +kernel), List.mem_of_getElem? (i := 828) (by decide +kernel), List.mem_of_getElem? (i := 829) (by decide +kernel)⟩
theorem lw_p75 : lw_okq (⟨"StruckColours", "lesserWins", "(LStruckColours$Rule;)I"⟩, 17) := ⟨⟨by decide +kernel, by decide +kernel⟩, List.mem_of_getElem? (i := 19) (by decide +kernel), List.mem_of_getElem? (i := 862) (by decide +kernel), List.mem_of_getElem? (i := 863) (by decide +kernel)⟩
theorem lw_p76 : lw_okq (⟨"StruckColours", "yearGoesBy", "()V"⟩, 17) := ⟨⟨by decide +kernel, by decide +kernel⟩, List.mem_of_getElem? (i := 19) (by decide +kernel), List.mem_of_getElem? (i := 870) (by decide +kernel), List.mem_of_getElem? (i := 871) (by decide +kernel)⟩
theorem lw_p77 : lw_okq (⟨"StruckColours", "draws", "(I)I"⟩, 17) := ⟨⟨by decide +kernel, by decide +kernel⟩, List.mem_of_getElem? (i := 19) (by decide +kernel), List.mem_of_getElem? (i := 874) (by decide +kernel), List.mem_of_getElem? (i := 875) (by decide +kernel)⟩
theorem lw_p78 : lw_okq (⟨"StruckColours$Sea", "wonOfAll", "()I"⟩, 9) := ⟨⟨by decide +kernel, by decide +kernel⟩, List.mem_of_getElem? (i := 58) (by decide +kernel), List.mem_of_getElem? (i := 879) (by decide +kernel), List.mem_of_getElem? (i := 880) (by decide +kernel)⟩
theorem lw_p79 : lw_okq (⟨"StruckColours", "keptUnder", "(I)LStruckColours$Sea;"⟩, 17) := ⟨⟨by decide +kernel, by decide +kernel⟩, List.mem_of_getElem? (i := 19) (by decide +kernel), List.mem_of_getElem? (i := 888) (by decide +kernel), List.mem_of_getElem? (i := 889) (by decide +kernel)⟩
def lw_privs_5 : List (MethodName × Nat) := [(⟨"StruckColours$Notes", "adds", "(III)Z"⟩, 4), (⟨"StruckColours$Notes", "empties", "()I"⟩, 4), (⟨"StruckColours", "fittingShips", "()I"⟩, 17), (⟨"StruckColours", "fitsAll", "(I)Z"⟩, 17), (⟨"StruckColours$Notes", "firstOf", "(I)I"⟩, 4), (⟨"StruckColours$Notes", "secondOf", "(I)I"⟩, 4), (⟨"StruckColours", "fitsSight", "(III)Z"⟩, 17), (⟨"StruckColours", "shipsWith", "(I)I"⟩, 17), (⟨"StruckColours$Laws", "weighs", "(LStruckColours$Notes;)I"⟩, 2), (⟨"StruckColours$Notes", "thirdOf", "(I)I"⟩, 4), (⟨"StruckColours$Laws", "numberOver", "(II)I"⟩, 2), (⟨"StruckColours", "lesserWins", "(LStruckColours$Rule;)I"⟩, 17), (⟨"StruckColours", "yearGoesBy", "()V"⟩, 17), (⟨"StruckColours", "draws", "(I)I"⟩, 17), (⟨"StruckColours$Sea", "wonOfAll", "()I"⟩, 9), (⟨"StruckColours", "keptUnder", "(I)LStruckColours$Sea;"⟩, 17)]
theorem lw_r5 : ∀ q ∈ lw_privs_5, lw_okq q := List.forall_mem_cons.mpr ⟨lw_p64, List.forall_mem_cons.mpr ⟨lw_p65, List.forall_mem_cons.mpr ⟨lw_p66, List.forall_mem_cons.mpr ⟨lw_p67, List.forall_mem_cons.mpr ⟨lw_p68, List.forall_mem_cons.mpr ⟨lw_p69, List.forall_mem_cons.mpr ⟨lw_p70, List.forall_mem_cons.mpr ⟨lw_p71, List.forall_mem_cons.mpr ⟨lw_p72, List.forall_mem_cons.mpr ⟨lw_p73, List.forall_mem_cons.mpr ⟨lw_p74, List.forall_mem_cons.mpr ⟨lw_p75, List.forall_mem_cons.mpr ⟨lw_p76, List.forall_mem_cons.mpr ⟨lw_p77, List.forall_mem_cons.mpr ⟨lw_p78, List.forall_mem_cons.mpr ⟨lw_p79, fun _ h => absurd h List.not_mem_nil⟩⟩⟩⟩⟩⟩⟩⟩⟩⟩⟩⟩⟩⟩⟩⟩
theorem lw_p80 : lw_okq (⟨"StruckColours$Sea", "lostOfAll", "()I"⟩, 9) := ⟨⟨by decide +kernel, by decide +kernel⟩, List.mem_of_getElem? (i := 58) (by decide +kernel), List.mem_of_getElem? (i := 900) (by decide +kernel), List.mem_of_getElem? (i := 901) (by decide +kernel)⟩
theorem lw_p81 : lw_okq (⟨"StruckColours", "strangePartsOfAll", "()I"⟩, 17) := ⟨⟨by decide +kernel, by decide +kernel⟩, List.mem_of_getElem? (i := 19) (by decide +kernel), List.mem_of_getElem? (i := 905) (by decide +kernel), List.mem_of_getElem? (i := 906) (by decide +kernel)⟩
theorem lw_p82 : lw_okq (⟨"StruckColours", "wholeShips", "()I"⟩, 17) := ⟨⟨by decide +kernel, by decide +kernel⟩, List.mem_of_getElem? (i := 19) (by decide +kernel), List.mem_of_getElem? (i := 909) (by decide +kernel), List.mem_of_getElem? (i := 910) (by decide +kernel)⟩
theorem lw_p83 : lw_okq (⟨"java/lang/Throwable", "fillInStackTrace", "(I)Ljava/lang/Throwable;"⟩, 6) := ⟨⟨by decide +kernel, by decide +kernel⟩, List.mem_of_getElem? (i := 957) (by decide +kernel), List.mem_of_getElem? (i := 955) (by decide +kernel), List.mem_of_getElem? (i := 956) (by decide +kernel)⟩
theorem lw_p84 : lw_okq (⟨"StruckColours$Sea", "mightOf", "(I)I"⟩, 9) := ⟨⟨by decide +kernel, by decide +kernel⟩, List.mem_of_getElem? (i := 58) (by decide +kernel), List.mem_of_getElem? (i := 987) (by decide +kernel), List.mem_of_getElem? (i := 988) (by decide +kernel)⟩
theorem lw_p85 : lw_okq (⟨"StruckColours$Row", "has", "(I)Z"⟩, 2) := ⟨⟨by decide +kernel, by decide +kernel⟩, List.mem_of_getElem? (i := 43) (by decide +kernel), List.mem_of_getElem? (i := 998) (by decide +kernel), List.mem_of_getElem? (i := 999) (by decide +kernel)⟩
theorem lw_p86 : lw_okq (⟨"StruckColours$Row", "at", "(I)J"⟩, 2) := ⟨⟨by decide +kernel, by decide +kernel⟩, List.mem_of_getElem? (i := 43) (by decide +kernel), List.mem_of_getElem? (i := 1003) (by decide +kernel), List.mem_of_getElem? (i := 1004) (by decide +kernel)⟩
theorem lw_p87 : lw_okq (⟨"StruckColoursModel", "beginText", "(I)V"⟩, 41) := ⟨⟨by decide +kernel, by decide +kernel⟩, List.mem_of_getElem? (i := 1008) (by decide +kernel), List.mem_of_getElem? (i := 1157) (by decide +kernel), List.mem_of_getElem? (i := 1158) (by decide +kernel)⟩
theorem lw_p88 : lw_okq (⟨"StruckColoursModel", "begin", "([BII)V"⟩, 41) := ⟨⟨by decide +kernel, by decide +kernel⟩, List.mem_of_getElem? (i := 1008) (by decide +kernel), List.mem_of_getElem? (i := 1161) (by decide +kernel), List.mem_of_getElem? (i := 1162) (by decide +kernel)⟩
theorem lw_p89 : lw_okq (⟨"StruckColoursModel", "fine", "()Z"⟩, 41) := ⟨⟨by decide +kernel, by decide +kernel⟩, List.mem_of_getElem? (i := 1008) (by decide +kernel), List.mem_of_getElem? (i := 1165) (by decide +kernel), List.mem_of_getElem? (i := 1166) (by decide +kernel)⟩
theorem lw_p90 : lw_okq (⟨"StruckColoursModel", "fault", "(I)V"⟩, 41) := ⟨⟨by decide +kernel, by decide +kernel⟩, List.mem_of_getElem? (i := 1008) (by decide +kernel), List.mem_of_getElem? (i := 1169) (by decide +kernel), List.mem_of_getElem? (i := 1170) (by decide +kernel)⟩
theorem lw_p91 : lw_okq (⟨"StruckColoursModel", "oneOf", "(CI)I"⟩, 41) := ⟨⟨by decide +kernel, by decide +kernel⟩, List.mem_of_getElem? (i := 1008) (by decide +kernel), List.mem_of_getElem? (i := 1173) (by decide +kernel), List.mem_of_getElem? (i := 1174) (by decide +kernel)⟩
theorem lw_p92 : lw_okq (⟨"StruckColoursModel", "here", "()I"⟩, 41) := ⟨⟨by decide +kernel, by decide +kernel⟩, List.mem_of_getElem? (i := 1008) (by decide +kernel), List.mem_of_getElem? (i := 1177) (by decide +kernel), List.mem_of_getElem? (i := 1178) (by decide +kernel)⟩
theorem lw_p93 : lw_okq (⟨"StruckColoursModel", "passes", "(C)Z"⟩, 41) := ⟨⟨by decide +kernel, by decide +kernel⟩, List.mem_of_getElem? (i := 1008) (by decide +kernel), List.mem_of_getElem? (i := 1181) (by decide +kernel), List.mem_of_getElem? (i := 1182) (by decide +kernel)⟩
theorem lw_p94 : lw_okq (⟨"StruckColoursModel", "wasRight", "()Z"⟩, 41) := ⟨⟨by decide +kernel, by decide +kernel⟩, List.mem_of_getElem? (i := 1008) (by decide +kernel), List.mem_of_getElem? (i := 1185) (by decide +kernel), List.mem_of_getElem? (i := 1186) (by decide +kernel)⟩
theorem lw_p95 : lw_okq (⟨"StruckColoursModel", "readRule", "()Z"⟩, 41) := ⟨⟨by decide +kernel, by decide +kernel⟩, List.mem_of_getElem? (i := 1008) (by decide +kernel), List.mem_of_getElem? (i := 1193) (by decide +kernel), List.mem_of_getElem? (i := 1194) (by decide +kernel)⟩
def lw_privs_6 : List (MethodName × Nat) := [(⟨"StruckColours$Sea", "lostOfAll", "()I"⟩, 9), (⟨"StruckColours", "strangePartsOfAll", "()I"⟩, 17), (⟨"StruckColours", "wholeShips", "()I"⟩, 17), (⟨"java/lang/Throwable", "fillInStackTrace", "(I)Ljava/lang/Throwable;"⟩, 6), (⟨"StruckColours$Sea", "mightOf", "(I)I"⟩, 9), (⟨"StruckColours$Row", "has", "(I)Z"⟩, 2), (⟨"StruckColours$Row", "at", "(I)J"⟩, 2), (⟨"StruckColoursModel", "beginText", "(I)V"⟩, 41), (⟨"StruckColoursModel", "begin", "([BII)V"⟩, 41), (⟨"StruckColoursModel", "fine", "()Z"⟩, 41), (⟨"StruckColoursModel", "fault", "(I)V"⟩, 41), (⟨"StruckColoursModel", "oneOf", "(CI)I"⟩, 41), (⟨"StruckColoursModel", "here", "()I"⟩, 41), (⟨"StruckColoursModel", "passes", "(C)Z"⟩, 41), (⟨"StruckColoursModel", "wasRight", "()Z"⟩, 41), (⟨"StruckColoursModel", "readRule", "()Z"⟩, 41)]
theorem lw_r6 : ∀ q ∈ lw_privs_6, lw_okq q := List.forall_mem_cons.mpr ⟨lw_p80, List.forall_mem_cons.mpr ⟨lw_p81, List.forall_mem_cons.mpr ⟨lw_p82, List.forall_mem_cons.mpr ⟨lw_p83, List.forall_mem_cons.mpr ⟨lw_p84, List.forall_mem_cons.mpr ⟨lw_p85, List.forall_mem_cons.mpr ⟨lw_p86, List.forall_mem_cons.mpr ⟨lw_p87, List.forall_mem_cons.mpr ⟨lw_p88, List.forall_mem_cons.mpr ⟨lw_p89, List.forall_mem_cons.mpr ⟨lw_p90, List.forall_mem_cons.mpr ⟨lw_p91, List.forall_mem_cons.mpr ⟨lw_p92, List.forall_mem_cons.mpr ⟨lw_p93, List.forall_mem_cons.mpr ⟨lw_p94, List.forall_mem_cons.mpr ⟨lw_p95, fun _ h => absurd h List.not_mem_nil⟩⟩⟩⟩⟩⟩⟩⟩⟩⟩⟩⟩⟩⟩⟩⟩
theorem lw_p96 : lw_okq (⟨"StruckColoursModel", "held", "(I)I"⟩, 41) := ⟨⟨by decide +kernel, by decide +kernel⟩, List.mem_of_getElem? (i := 1008) (by decide +kernel), List.mem_of_getElem? (i := 1197) (by decide +kernel), List.mem_of_getElem? (i := 1198) (by decide +kernel)⟩
theorem lw_p97 : lw_okq (⟨"StruckColoursModel", "sum", "(I)I"⟩, 41) := ⟨⟨by decide +kernel, by decide +kernel⟩, List.mem_of_getElem? (i := 1008) (by decide +kernel), List.mem_of_getElem? (i := 1201) (by decide +kernel), List.mem_of_getElem? (i := 1202) (by decide +kernel)⟩
theorem lw_p98 : lw_okq (⟨"StruckColoursModel", "product", "(I)I"⟩, 41) := ⟨⟨by decide +kernel, by decide +kernel⟩, List.mem_of_getElem? (i := 1008) (by decide +kernel), List.mem_of_getElem? (i := 1205) (by decide +kernel), List.mem_of_getElem? (i := 1206) (by decide +kernel)⟩
theorem lw_p99 : lw_okq (⟨"StruckColoursModel", "thing", "(I)I"⟩, 41) := ⟨⟨by decide +kernel, by decide +kernel⟩, List.mem_of_getElem? (i := 1008) (by decide +kernel), List.mem_of_getElem? (i := 1209) (by decide +kernel), List.mem_of_getElem? (i := 1210) (by decide +kernel)⟩
theorem lw_p100 : lw_okq (⟨"StruckColoursModel", "need", "(C)V"⟩, 41) := ⟨⟨by decide +kernel, by decide +kernel⟩, List.mem_of_getElem? (i := 1008) (by decide +kernel), List.mem_of_getElem? (i := 1213) (by decide +kernel), List.mem_of_getElem? (i := 1214) (by decide +kernel)⟩
theorem lw_p101 : lw_okq (⟨"StruckColoursModel", "number", "(I)I"⟩, 41) := ⟨⟨by decide +kernel, by decide +kernel⟩, List.mem_of_getElem? (i := 1008) (by decide +kernel), List.mem_of_getElem? (i := 1217) (by decide +kernel), List.mem_of_getElem? (i := 1218) (by decide +kernel)⟩
theorem lw_p102 : lw_okq (⟨"StruckColoursModel", "isShip", "(I)Z"⟩, 41) := ⟨⟨by decide +kernel, by decide +kernel⟩, List.mem_of_getElem? (i := 1008) (by decide +kernel), List.mem_of_getElem? (i := 1228) (by decide +kernel), List.mem_of_getElem? (i := 1229) (by decide +kernel)⟩
theorem lw_p103 : lw_okq (⟨"StruckColoursModel", "lost", "()I"⟩, 41) := ⟨⟨by decide +kernel, by decide +kernel⟩, List.mem_of_getElem? (i := 1008) (by decide +kernel), List.mem_of_getElem? (i := 1232) (by decide +kernel), List.mem_of_getElem? (i := 1233) (by decide +kernel)⟩
theorem lw_p104 : lw_okq (⟨"StruckColoursModel", "areTwo", "(II)Z"⟩, 41) := ⟨⟨by decide +kernel, by decide +kernel⟩, List.mem_of_getElem? (i := 1008) (by decide +kernel), List.mem_of_getElem? (i := 1243) (by decide +kernel), List.mem_of_getElem? (i := 1244) (by decide +kernel)⟩
theorem lw_p105 : lw_okq (⟨"StruckColoursModel", "forceOf", "([III)I"⟩, 41) := ⟨⟨by decide +kernel, by decide +kernel⟩, List.mem_of_getElem? (i := 1008) (by decide +kernel), List.mem_of_getElem? (i := 1247) (by decide +kernel), List.mem_of_getElem? (i := 1248) (by decide +kernel)⟩
theorem lw_p106 : lw_okq (⟨"StruckColoursModel", "sumOf", "([II)I"⟩, 41) := ⟨⟨by decide +kernel, by decide +kernel⟩, List.mem_of_getElem? (i := 1008) (by decide +kernel), List.mem_of_getElem? (i := 1264) (by decide +kernel), List.mem_of_getElem? (i := 1265) (by decide +kernel)⟩
theorem lw_p107 : lw_okq (⟨"StruckColoursModel", "winnerOf", "([III)I"⟩, 41) := ⟨⟨by decide +kernel, by decide +kernel⟩, List.mem_of_getElem? (i := 1008) (by decide +kernel), List.mem_of_getElem? (i := 1272) (by decide +kernel), List.mem_of_getElem? (i := 1273) (by decide +kernel)⟩
theorem lw_p108 : lw_okq (⟨"StruckColoursModel", "remember", "([I)V"⟩, 41) := ⟨⟨by decide +kernel, by decide +kernel⟩, List.mem_of_getElem? (i := 1008) (by decide +kernel), List.mem_of_getElem? (i := 1279) (by decide +kernel), List.mem_of_getElem? (i := 1280) (by decide +kernel)⟩
theorem lw_p109 : lw_okq (⟨"StruckColoursModel", "goFight", "([III)I"⟩, 41) := ⟨⟨by decide +kernel, by decide +kernel⟩, List.mem_of_getElem? (i := 1008) (by decide +kernel), List.mem_of_getElem? (i := 1286) (by decide +kernel), List.mem_of_getElem? (i := 1287) (by decide +kernel)⟩
theorem lw_p110 : lw_okq (⟨"StruckColoursModel", "goDays", "([II)V"⟩, 41) := ⟨⟨by decide +kernel, by decide +kernel⟩, List.mem_of_getElem? (i := 1008) (by decide +kernel), List.mem_of_getElem? (i := 1297) (by decide +kernel), List.mem_of_getElem? (i := 1298) (by decide +kernel)⟩
theorem lw_p111 : lw_okq (⟨"StruckColoursModel", "goDay", "([I)V"⟩, 41) := ⟨⟨by decide +kernel, by decide +kernel⟩, List.mem_of_getElem? (i := 1008) (by decide +kernel), List.mem_of_getElem? (i := 1301) (by decide +kernel), List.mem_of_getElem? (i := 1302) (by decide +kernel)⟩
def lw_privs_7 : List (MethodName × Nat) := [(⟨"StruckColoursModel", "held", "(I)I"⟩, 41), (⟨"StruckColoursModel", "sum", "(I)I"⟩, 41), (⟨"StruckColoursModel", "product", "(I)I"⟩, 41), (⟨"StruckColoursModel", "thing", "(I)I"⟩, 41), (⟨"StruckColoursModel", "need", "(C)V"⟩, 41), (⟨"StruckColoursModel", "number", "(I)I"⟩, 41), (⟨"StruckColoursModel", "isShip", "(I)Z"⟩, 41), (⟨"StruckColoursModel", "lost", "()I"⟩, 41), (⟨"StruckColoursModel", "areTwo", "(II)Z"⟩, 41), (⟨"StruckColoursModel", "forceOf", "([III)I"⟩, 41), (⟨"StruckColoursModel", "sumOf", "([II)I"⟩, 41), (⟨"StruckColoursModel", "winnerOf", "([III)I"⟩, 41), (⟨"StruckColoursModel", "remember", "([I)V"⟩, 41), (⟨"StruckColoursModel", "goFight", "([III)I"⟩, 41), (⟨"StruckColoursModel", "goDays", "([II)V"⟩, 41), (⟨"StruckColoursModel", "goDay", "([I)V"⟩, 41)]
theorem lw_r7 : ∀ q ∈ lw_privs_7, lw_okq q := List.forall_mem_cons.mpr ⟨lw_p96, List.forall_mem_cons.mpr ⟨lw_p97, List.forall_mem_cons.mpr ⟨lw_p98, List.forall_mem_cons.mpr ⟨lw_p99, List.forall_mem_cons.mpr ⟨lw_p100, List.forall_mem_cons.mpr ⟨lw_p101, List.forall_mem_cons.mpr ⟨lw_p102, List.forall_mem_cons.mpr ⟨lw_p103, List.forall_mem_cons.mpr ⟨lw_p104, List.forall_mem_cons.mpr ⟨lw_p105, List.forall_mem_cons.mpr ⟨lw_p106, List.forall_mem_cons.mpr ⟨lw_p107, List.forall_mem_cons.mpr ⟨lw_p108, List.forall_mem_cons.mpr ⟨lw_p109, List.forall_mem_cons.mpr ⟨lw_p110, List.forall_mem_cons.mpr ⟨lw_p111, fun _ h => absurd h List.not_mem_nil⟩⟩⟩⟩⟩⟩⟩⟩⟩⟩⟩⟩⟩⟩⟩⟩
theorem lw_p112 : lw_okq (⟨"StruckColoursModel", "mend", "([II)V"⟩, 41) := ⟨⟨by decide +kernel, by decide +kernel⟩, List.mem_of_getElem? (i := 1008) (by decide +kernel), List.mem_of_getElem? (i := 1305) (by decide +kernel), List.mem_of_getElem? (i := 1306) (by decide +kernel)⟩
theorem lw_p113 : lw_okq (⟨"StruckColoursModel", "partsOfAll", "([II)I"⟩, 41) := ⟨⟨by decide +kernel, by decide +kernel⟩, List.mem_of_getElem? (i := 1008) (by decide +kernel), List.mem_of_getElem? (i := 1309) (by decide +kernel), List.mem_of_getElem? (i := 1310) (by decide +kernel)⟩
theorem lw_p114 : lw_okq (⟨"StruckColoursModel", "tell", "(J)V"⟩, 41) := ⟨⟨by decide +kernel, by decide +kernel⟩, List.mem_of_getElem? (i := 1008) (by decide +kernel), List.mem_of_getElem? (i := 1313) (by decide +kernel), List.mem_of_getElem? (i := 1314) (by decide +kernel)⟩
theorem lw_p115 : lw_okq (⟨"StruckColoursModel", "refusesSewing", "([IIII)I"⟩, 41) := ⟨⟨by decide +kernel, by decide +kernel⟩, List.mem_of_getElem? (i := 1008) (by decide +kernel), List.mem_of_getElem? (i := 1321) (by decide +kernel), List.mem_of_getElem? (i := 1322) (by decide +kernel)⟩
theorem lw_p116 : lw_okq (⟨"StruckColoursModel", "refusesYielding", "(II)I"⟩, 41) := ⟨⟨by decide +kernel, by decide +kernel⟩, List.mem_of_getElem? (i := 1008) (by decide +kernel), List.mem_of_getElem? (i := 1335) (by decide +kernel), List.mem_of_getElem? (i := 1336) (by decide +kernel)⟩
theorem lw_p117 : lw_okq (⟨"StruckColoursModel", "goYielding", "(II)V"⟩, 41) := ⟨⟨by decide +kernel, by decide +kernel⟩, List.mem_of_getElem? (i := 1008) (by decide +kernel), List.mem_of_getElem? (i := 1339) (by decide +kernel), List.mem_of_getElem? (i := 1340) (by decide +kernel)⟩
theorem lw_p118 : lw_okq (⟨"StruckColoursModel", "readAct", "(I)V"⟩, 41) := ⟨⟨by decide +kernel, by decide +kernel⟩, List.mem_of_getElem? (i := 1008) (by decide +kernel), List.mem_of_getElem? (i := 1347) (by decide +kernel), List.mem_of_getElem? (i := 1348) (by decide +kernel)⟩
theorem lw_p119 : lw_okq (⟨"StruckColoursModel", "act", "(I)Z"⟩, 41) := ⟨⟨by decide +kernel, by decide +kernel⟩, List.mem_of_getElem? (i := 1008) (by decide +kernel), List.mem_of_getElem? (i := 1351) (by decide +kernel), List.mem_of_getElem? (i := 1352) (by decide +kernel)⟩
theorem lw_p120 : lw_okq (⟨"StruckColoursModel", "tellPart", "(JJ)V"⟩, 41) := ⟨⟨by decide +kernel, by decide +kernel⟩, List.mem_of_getElem? (i := 1008) (by decide +kernel), List.mem_of_getElem? (i := 1367) (by decide +kernel), List.mem_of_getElem? (i := 1368) (by decide +kernel)⟩
theorem lw_p121 : lw_okq (⟨"StruckColoursModel", "fewest", "(II)I"⟩, 41) := ⟨⟨by decide +kernel, by decide +kernel⟩, List.mem_of_getElem? (i := 1008) (by decide +kernel), List.mem_of_getElem? (i := 1423) (by decide +kernel), List.mem_of_getElem? (i := 1424) (by decide +kernel)⟩
theorem lw_p122 : lw_okq (⟨"StruckColoursModel", "canBe", "(IIII)Z"⟩, 41) := ⟨⟨by decide +kernel, by decide +kernel⟩, List.mem_of_getElem? (i := 1008) (by decide +kernel), List.mem_of_getElem? (i := 1427) (by decide +kernel), List.mem_of_getElem? (i := 1428) (by decide +kernel)⟩
theorem lw_p123 : lw_okq (⟨"StruckColoursModel", "layDeep", "(I)V"⟩, 41) := ⟨⟨by decide +kernel, by decide +kernel⟩, List.mem_of_getElem? (i := 1008) (by decide +kernel), List.mem_of_getElem? (i := 1431) (by decide +kernel), List.mem_of_getElem? (i := 1432) (by decide +kernel)⟩
theorem lw_p124 : lw_okq (⟨"StruckColoursModel", "isSo", "(II)Z"⟩, 41) := ⟨⟨by decide +kernel, by decide +kernel⟩, List.mem_of_getElem? (i := 1008) (by decide +kernel), List.mem_of_getElem? (i := 1435) (by decide +kernel), List.mem_of_getElem? (i := 1436) (by decide +kernel)⟩
theorem lw_p125 : lw_okq (⟨"StruckColoursModel", "goRound", "([I)V"⟩, 41) := ⟨⟨by decide +kernel, by decide +kernel⟩, List.mem_of_getElem? (i := 1008) (by decide +kernel), List.mem_of_getElem? (i := 1447) (by decide +kernel), List.mem_of_getElem? (i := 1448) (by decide +kernel)⟩
theorem lw_p126 : lw_okq (⟨"StruckColoursModel", "all", "()I"⟩, 41) := ⟨⟨by decide +kernel, by decide +kernel⟩, List.mem_of_getElem? (i := 1008) (by decide +kernel), List.mem_of_getElem? (i := 1455) (by decide +kernel), List.mem_of_getElem? (i := 1456) (by decide +kernel)⟩
theorem lw_p127 : lw_okq (⟨"StruckColoursModel", "strengthOf", "(I)I"⟩, 41) := ⟨⟨by decide +kernel, by decide +kernel⟩, List.mem_of_getElem? (i := 1008) (by decide +kernel), List.mem_of_getElem? (i := 1467) (by decide +kernel), List.mem_of_getElem? (i := 1468) (by decide +kernel)⟩
def lw_privs_8 : List (MethodName × Nat) := [(⟨"StruckColoursModel", "mend", "([II)V"⟩, 41), (⟨"StruckColoursModel", "partsOfAll", "([II)I"⟩, 41), (⟨"StruckColoursModel", "tell", "(J)V"⟩, 41), (⟨"StruckColoursModel", "refusesSewing", "([IIII)I"⟩, 41), (⟨"StruckColoursModel", "refusesYielding", "(II)I"⟩, 41), (⟨"StruckColoursModel", "goYielding", "(II)V"⟩, 41), (⟨"StruckColoursModel", "readAct", "(I)V"⟩, 41), (⟨"StruckColoursModel", "act", "(I)Z"⟩, 41), (⟨"StruckColoursModel", "tellPart", "(JJ)V"⟩, 41), (⟨"StruckColoursModel", "fewest", "(II)I"⟩, 41), (⟨"StruckColoursModel", "canBe", "(IIII)Z"⟩, 41), (⟨"StruckColoursModel", "layDeep", "(I)V"⟩, 41), (⟨"StruckColoursModel", "isSo", "(II)Z"⟩, 41), (⟨"StruckColoursModel", "goRound", "([I)V"⟩, 41), (⟨"StruckColoursModel", "all", "()I"⟩, 41), (⟨"StruckColoursModel", "strengthOf", "(I)I"⟩, 41)]
theorem lw_r8 : ∀ q ∈ lw_privs_8, lw_okq q := List.forall_mem_cons.mpr ⟨lw_p112, List.forall_mem_cons.mpr ⟨lw_p113, List.forall_mem_cons.mpr ⟨lw_p114, List.forall_mem_cons.mpr ⟨lw_p115, List.forall_mem_cons.mpr ⟨lw_p116, List.forall_mem_cons.mpr ⟨lw_p117, List.forall_mem_cons.mpr ⟨lw_p118, List.forall_mem_cons.mpr ⟨lw_p119, List.forall_mem_cons.mpr ⟨lw_p120, List.forall_mem_cons.mpr ⟨lw_p121, List.forall_mem_cons.mpr ⟨lw_p122, List.forall_mem_cons.mpr ⟨lw_p123, List.forall_mem_cons.mpr ⟨lw_p124, List.forall_mem_cons.mpr ⟨lw_p125, List.forall_mem_cons.mpr ⟨lw_p126, List.forall_mem_cons.mpr ⟨lw_p127, fun _ h => absurd h List.not_mem_nil⟩⟩⟩⟩⟩⟩⟩⟩⟩⟩⟩⟩⟩⟩⟩⟩
theorem lw_p128 : lw_okq (⟨"StruckColoursModel", "fitting", "()I"⟩, 41) := ⟨⟨by decide +kernel, by decide +kernel⟩, List.mem_of_getElem? (i := 1008) (by decide +kernel), List.mem_of_getElem? (i := 1494) (by decide +kernel), List.mem_of_getElem? (i := 1495) (by decide +kernel)⟩
theorem lw_p129 : lw_okq (⟨"StruckColoursModel", "fits", "(III)Z"⟩, 41) := ⟨⟨by decide +kernel, by decide +kernel⟩, List.mem_of_getElem? (i := 1008) (by decide +kernel), List.mem_of_getElem? (i := 1498) (by decide +kernel), List.mem_of_getElem? (i := 1499) (by decide +kernel)⟩
theorem lw_p130 : lw_okq (⟨"StruckColoursModel", "isLaw", "(II)Z"⟩, 41) := ⟨⟨by decide +kernel, by decide +kernel⟩, List.mem_of_getElem? (i := 1008) (by decide +kernel), List.mem_of_getElem? (i := 1518) (by decide +kernel), List.mem_of_getElem? (i := 1519) (by decide +kernel)⟩
theorem lw_p131 : lw_okq (⟨"StruckColoursModel", "leftBy", "(II)I"⟩, 41) := ⟨⟨by decide +kernel, by decide +kernel⟩, List.mem_of_getElem? (i := 1008) (by decide +kernel), List.mem_of_getElem? (i := 1529) (by decide +kernel), List.mem_of_getElem? (i := 1530) (by decide +kernel)⟩
theorem lw_p132 : lw_okq (⟨"StruckColoursModel", "bestMove", "(II)I"⟩, 41) := ⟨⟨by decide +kernel, by decide +kernel⟩, List.mem_of_getElem? (i := 1008) (by decide +kernel), List.mem_of_getElem? (i := 1537) (by decide +kernel), List.mem_of_getElem? (i := 1538) (by decide +kernel)⟩
theorem lw_p133 : lw_okq (⟨"StruckColoursModel", "isLost", "(II)Z"⟩, 41) := ⟨⟨by decide +kernel, by decide +kernel⟩, List.mem_of_getElem? (i := 1008) (by decide +kernel), List.mem_of_getElem? (i := 1541) (by decide +kernel), List.mem_of_getElem? (i := 1542) (by decide +kernel)⟩
theorem lw_p134 : lw_okq (⟨"StruckColoursModel", "lesserWins", "()I"⟩, 41) := ⟨⟨by decide +kernel, by decide +kernel⟩, List.mem_of_getElem? (i := 1008) (by decide +kernel), List.mem_of_getElem? (i := 1567) (by decide +kernel), List.mem_of_getElem? (i := 1568) (by decide +kernel)⟩
theorem lw_p135 : lw_okq (⟨"StruckColoursModel", "draw", "(I)I"⟩, 41) := ⟨⟨by decide +kernel, by decide +kernel⟩, List.mem_of_getElem? (i := 1008) (by decide +kernel), List.mem_of_getElem? (i := 1575) (by decide +kernel), List.mem_of_getElem? (i := 1576) (by decide +kernel)⟩
theorem lw_p136 : lw_okq (⟨"StruckColoursModel", "foreign", "()I"⟩, 41) := ⟨⟨by decide +kernel, by decide +kernel⟩, List.mem_of_getElem? (i := 1008) (by decide +kernel), List.mem_of_getElem? (i := 1592) (by decide +kernel), List.mem_of_getElem? (i := 1593) (by decide +kernel)⟩
theorem lw_p137 : lw_okq (⟨"StruckColoursModel", "wholes", "()I"⟩, 41) := ⟨⟨by decide +kernel, by decide +kernel⟩, List.mem_of_getElem? (i := 1008) (by decide +kernel), List.mem_of_getElem? (i := 1596) (by decide +kernel), List.mem_of_getElem? (i := 1597) (by decide +kernel)⟩
def lw_privs_9 : List (MethodName × Nat) := [(⟨"StruckColoursModel", "fitting", "()I"⟩, 41), (⟨"StruckColoursModel", "fits", "(III)Z"⟩, 41), (⟨"StruckColoursModel", "isLaw", "(II)Z"⟩, 41), (⟨"StruckColoursModel", "leftBy", "(II)I"⟩, 41), (⟨"StruckColoursModel", "bestMove", "(II)I"⟩, 41), (⟨"StruckColoursModel", "isLost", "(II)Z"⟩, 41), (⟨"StruckColoursModel", "lesserWins", "()I"⟩, 41), (⟨"StruckColoursModel", "draw", "(I)I"⟩, 41), (⟨"StruckColoursModel", "foreign", "()I"⟩, 41), (⟨"StruckColoursModel", "wholes", "()I"⟩, 41)]
theorem lw_r9 : ∀ q ∈ lw_privs_9, lw_okq q := List.forall_mem_cons.mpr ⟨lw_p128, List.forall_mem_cons.mpr ⟨lw_p129, List.forall_mem_cons.mpr ⟨lw_p130, List.forall_mem_cons.mpr ⟨lw_p131, List.forall_mem_cons.mpr ⟨lw_p132, List.forall_mem_cons.mpr ⟨lw_p133, List.forall_mem_cons.mpr ⟨lw_p134, List.forall_mem_cons.mpr ⟨lw_p135, List.forall_mem_cons.mpr ⟨lw_p136, List.forall_mem_cons.mpr ⟨lw_p137, fun _ h => absurd h List.not_mem_nil⟩⟩⟩⟩⟩⟩⟩⟩⟩⟩
def lw_privs : List (MethodName × Nat) := lw_privs_1 ++ (lw_privs_2 ++ (lw_privs_3 ++ (lw_privs_4 ++ (lw_privs_5 ++ (lw_privs_6 ++ (lw_privs_7 ++ (lw_privs_8 ++ (lw_privs_9))))))))
def lw_tbl : List Cond := k2_sels lw_privs ++ tables_1
theorem lw_privs_ok : ∀ q ∈ lw_privs, lw_okq q := by
  show ∀ q ∈ lw_privs_1 ++ (lw_privs_2 ++ (lw_privs_3 ++ (lw_privs_4 ++ (lw_privs_5 ++ (lw_privs_6 ++ (lw_privs_7 ++ (lw_privs_8 ++ (lw_privs_9)))))))), lw_okq q
  exact List.forall_mem_append.mpr ⟨lw_r1, List.forall_mem_append.mpr ⟨lw_r2, List.forall_mem_append.mpr ⟨lw_r3, List.forall_mem_append.mpr ⟨lw_r4, List.forall_mem_append.mpr ⟨lw_r5, List.forall_mem_append.mpr ⟨lw_r6, List.forall_mem_append.mpr ⟨lw_r7, List.forall_mem_append.mpr ⟨lw_r8, lw_r9⟩⟩⟩⟩⟩⟩⟩⟩
theorem goodIn_r {big : List Cond} (ws : List Cond) (ps : List Nat) (hp : ws = ps.filterMap (fun i => big[i]?)) (h : ws.all goodWord = true) : GoodIn big ws := by
  intro w hw
  have h1 := List.all_eq_true.mp h w hw
  rw [hp] at hw
  obtain ⟨i, -, hi⟩ := List.mem_filterMap.mp hw
  have hm : w ∈ big := by first | exact List.mem_of_getElem? hi | exact List.getElem?_mem hi
  exact ⟨hm, good_of_word h1⟩
theorem goodIn_app {big a b : List Cond} (ha : GoodIn big a) (hb : GoodIn big b) : GoodIn big (a ++ b) := fun w h => (List.mem_append.mp h).elim (ha w) (hb w)
theorem goodIn_ca {big a b : List Cond} {c : Cond} (ha : GoodIn big (c :: a)) (hb : GoodIn big b) : GoodIn big (c :: (a ++ b)) := fun w h => (List.mem_cons.mp h).elim (fun e => ha w (List.mem_cons.mpr (Or.inl e))) (fun h => (List.mem_append.mp h).elim (fun h => ha w (List.mem_cons.mpr (Or.inr h))) (hb w))
theorem goodIn_sub {big ws : List Cond} (hm : ∀ w ∈ ws, w ∈ big) (h : ws.all goodWord = true) : GoodIn big ws := fun w hw => ⟨hm w hw, good_of_word (List.all_eq_true.mp h w hw)⟩
def RX0 : String := "StruckColours$Laws"
def TX0 : u_T := fun k => match k with
  | 0 => ("StruckColours$Laws", "fitting", "[Z", true)
  | _ => ("StruckColours$Laws", "least", "I", false)
def tyX0 : Nat → FieldType := fun k => match k with
  | 0 => .array .boolean
  | _ => .int
theorem nmX0 : ∀ a, a < 2 → ∀ b, b < 2 → a ≠ b → (TX0 a).2.1 ≠ (TX0 b).2.1 := by decide +kernel
theorem tyX0_ok : ∀ k, k < 2 → parseFieldDescriptor (TX0 k).2.2.1 = some (tyX0 k) := by decide +kernel
def RX1 : String := "StruckColours$Notes"
def TX1 : u_T := fun k => match k with
  | 0 => ("StruckColours$Notes", "first", "[I", true)
  | 1 => ("StruckColours$Notes", "second", "[I", true)
  | 2 => ("StruckColours$Notes", "third", "[I", true)
  | _ => ("StruckColours$Notes", "size", "I", false)
def tyX1 : Nat → FieldType := fun k => match k with
  | 0 => .array .int
  | 1 => .array .int
  | 2 => .array .int
  | _ => .int
theorem nmX1 : ∀ a, a < 4 → ∀ b, b < 4 → a ≠ b → (TX1 a).2.1 ≠ (TX1 b).2.1 := by decide +kernel
theorem tyX1_ok : ∀ k, k < 4 → parseFieldDescriptor (TX1 k).2.2.1 = some (tyX1 k) := by decide +kernel
def RX2 : String := "StruckColours$Past"
def TX2 : u_T := fun k => match k with
  | 0 => ("StruckColours$Past", "seas", "[LStruckColours$Sea;", true)
  | 1 => ("StruckColours$Past", "first", "I", false)
  | _ => ("StruckColours$Past", "size", "I", false)
def tyX2 : Nat → FieldType := fun k => match k with
  | 0 => .array (.object "StruckColours$Sea")
  | 1 => .int
  | _ => .int
theorem nmX2 : ∀ a, a < 3 → ∀ b, b < 3 → a ≠ b → (TX2 a).2.1 ≠ (TX2 b).2.1 := by decide +kernel
theorem tyX2_ok : ∀ k, k < 3 → parseFieldDescriptor (TX2 k).2.2.1 = some (tyX2 k) := by decide +kernel
def RX3 : String := "StruckColours$Row"
def TX3 : u_T := fun k => match k with
  | 0 => ("StruckColours$Row", "told", "[J", true)
  | _ => ("StruckColours$Row", "size", "I", false)
def tyX3 : Nat → FieldType := fun k => match k with
  | 0 => .array .long
  | _ => .int
theorem nmX3 : ∀ a, a < 2 → ∀ b, b < 2 → a ≠ b → (TX3 a).2.1 ≠ (TX3 b).2.1 := by decide +kernel
theorem tyX3_ok : ∀ k, k < 2 → parseFieldDescriptor (TX3 k).2.2.1 = some (tyX3 k) := by decide +kernel
def RX4 : String := "StruckColours$Rule"
def TX4 : u_T := fun k => match k with
  | 0 => ("StruckColours$Rule", "code", "[I", true)
  | 1 => ("StruckColours$Rule", "waiting", "[C", true)
  | 2 => ("StruckColours$Rule", "values", "[I", true)
  | 3 => ("StruckColours$Rule", "size", "I", false)
  | 4 => ("StruckColours$Rule", "waits", "I", false)
  | 5 => ("StruckColours$Rule", "depth", "I", false)
  | 6 => ("StruckColours$Rule", "compared", "I", false)
  | 7 => ("StruckColours$Rule", "digits", "I", false)
  | _ => ("StruckColours$Rule", "open", "Z", false)
def tyX4 : Nat → FieldType := fun k => match k with
  | 0 => .array .int
  | 1 => .array .char
  | 2 => .array .int
  | 3 => .int
  | 4 => .int
  | 5 => .int
  | 6 => .int
  | 7 => .int
  | _ => .boolean
theorem nmX4 : ∀ a, a < 9 → ∀ b, b < 9 → a ≠ b → (TX4 a).2.1 ≠ (TX4 b).2.1 := by decide +kernel
theorem tyX4_ok : ∀ k, k < 9 → parseFieldDescriptor (TX4 k).2.2.1 = some (tyX4 k) := by decide +kernel
def RX5 : String := "StruckColours$Sea"
def TX5 : u_T := fun k => match k with
  | 0 => ("StruckColours$Sea", "size", "I", false)
  | 1 => ("StruckColours$Sea", "day", "I", false)
  | 2 => ("StruckColours$Sea", "overs", "I", false)
  | 3 => ("StruckColours$Sea", "might", "[I", true)
  | 4 => ("StruckColours$Sea", "strength", "[I", true)
  | 5 => ("StruckColours$Sea", "side", "[I", true)
  | 6 => ("StruckColours$Sea", "won", "[I", true)
  | 7 => ("StruckColours$Sea", "lost", "[I", true)
  | _ => ("StruckColours$Sea", "flags", "[I", true)
def tyX5 : Nat → FieldType := fun k => match k with
  | 0 => .int
  | 1 => .int
  | 2 => .int
  | 3 => .array .int
  | 4 => .array .int
  | 5 => .array .int
  | 6 => .array .int
  | 7 => .array .int
  | _ => .array .int
theorem nmX5 : ∀ a, a < 9 → ∀ b, b < 9 → a ≠ b → (TX5 a).2.1 ≠ (TX5 b).2.1 := by decide +kernel
theorem tyX5_ok : ∀ k, k < 9 → parseFieldDescriptor (TX5 k).2.2.1 = some (tyX5 k) := by decide +kernel
def RX6 : String := "StruckColours$Search"
def TX6 : u_T := fun k => match k with
  | 0 => ("StruckColours$Search", "levels", "[LStruckColours$Sea;", true)
  | 1 => ("StruckColours$Search", "steps", "[I", true)
  | 2 => ("StruckColours$Search", "rule", "LStruckColours$Rule;", false)
  | 3 => ("StruckColours$Search", "take", "I", false)
  | 4 => ("StruckColours$Search", "ship", "I", false)
  | _ => ("StruckColours$Search", "side", "I", false)
def tyX6 : Nat → FieldType := fun k => match k with
  | 0 => .array (.object "StruckColours$Sea")
  | 1 => .array .int
  | 2 => .object "StruckColours$Rule"
  | 3 => .int
  | 4 => .int
  | _ => .int
theorem nmX6 : ∀ a, a < 6 → ∀ b, b < 6 → a ≠ b → (TX6 a).2.1 ≠ (TX6 b).2.1 := by decide +kernel
theorem tyX6_ok : ∀ k, k < 6 → parseFieldDescriptor (TX6 k).2.2.1 = some (tyX6 k) := by decide +kernel
def RX7 : String := "StruckColours$Text"
def TX7 : u_T := fun k => match k with
  | 0 => ("StruckColours$Text", "signs", "[C", true)
  | _ => ("StruckColours$Text", "length", "I", false)
def tyX7 : Nat → FieldType := fun k => match k with
  | 0 => .array .char
  | _ => .int
theorem nmX7 : ∀ a, a < 2 → ∀ b, b < 2 → a ≠ b → (TX7 a).2.1 ≠ (TX7 b).2.1 := by decide +kernel
theorem tyX7_ok : ∀ k, k < 2 → parseFieldDescriptor (TX7 k).2.2.1 = some (tyX7 k) := by decide +kernel
def RX8 : String := "StruckColours"
def TX8 : u_T := fun k => match k with
  | 0 => ("StruckColours", "text", "LStruckColours$Text;", true)
  | 1 => ("StruckColours", "numbers", "LStruckColours$Row;", true)
  | 2 => ("StruckColours", "sea", "LStruckColours$Sea;", true)
  | 3 => ("StruckColours", "ahead", "LStruckColours$Sea;", true)
  | 4 => ("StruckColours", "trial", "LStruckColours$Sea;", true)
  | 5 => ("StruckColours", "past", "LStruckColours$Past;", true)
  | 6 => ("StruckColours", "keptFirst", "LStruckColours$Sea;", true)
  | 7 => ("StruckColours", "keptSecond", "LStruckColours$Sea;", true)
  | 8 => ("StruckColours", "search", "LStruckColours$Search;", true)
  | 9 => ("StruckColours", "sights", "LStruckColours$Notes;", true)
  | 10 => ("StruckColours", "tales", "LStruckColours$Notes;", true)
  | 11 => ("StruckColours", "lawful", "LStruckColours$Laws;", true)
  | 12 => ("StruckColours", "rule", "LStruckColours$Rule;", false)
  | 13 => ("StruckColours", "otherRule", "LStruckColours$Rule;", false)
  | 14 => ("StruckColours", "taken", "I", false)
  | 15 => ("StruckColours", "keptBits", "I", false)
  | _ => ("StruckColours", "drawn", "I", false)
def tyX8 : Nat → FieldType := fun k => match k with
  | 0 => .object "StruckColours$Text"
  | 1 => .object "StruckColours$Row"
  | 2 => .object "StruckColours$Sea"
  | 3 => .object "StruckColours$Sea"
  | 4 => .object "StruckColours$Sea"
  | 5 => .object "StruckColours$Past"
  | 6 => .object "StruckColours$Sea"
  | 7 => .object "StruckColours$Sea"
  | 8 => .object "StruckColours$Search"
  | 9 => .object "StruckColours$Notes"
  | 10 => .object "StruckColours$Notes"
  | 11 => .object "StruckColours$Laws"
  | 12 => .object "StruckColours$Rule"
  | 13 => .object "StruckColours$Rule"
  | 14 => .int
  | 15 => .int
  | _ => .int
theorem nmX8 : ∀ a, a < 17 → ∀ b, b < 17 → a ≠ b → (TX8 a).2.1 ≠ (TX8 b).2.1 := by decide +kernel
theorem tyX8_ok : ∀ k, k < 17 → parseFieldDescriptor (TX8 k).2.2.1 = some (tyX8 k) := by decide +kernel
def RX9 : String := "StruckColoursModel"
def TX9 : u_T := fun k => match k with
  | 0 => ("StruckColoursModel", "now", "[I", true)
  | 1 => ("StruckColoursModel", "ships", "I", false)
  | 2 => ("StruckColoursModel", "take", "I", false)
  | 3 => ("StruckColoursModel", "might", "[I", true)
  | 4 => ("StruckColoursModel", "text", "[B", true)
  | 5 => ("StruckColoursModel", "typed", "I", false)
  | 6 => ("StruckColoursModel", "row", "[J", true)
  | 7 => ("StruckColoursModel", "rowMany", "I", false)
  | 8 => ("StruckColoursModel", "thrown", "I", false)
  | 9 => ("StruckColoursModel", "read", "[B", false)
  | 10 => ("StruckColoursModel", "length", "I", false)
  | 11 => ("StruckColoursModel", "top", "I", false)
  | 12 => ("StruckColoursModel", "at", "I", false)
  | 13 => ("StruckColoursModel", "wrong", "I", false)
  | 14 => ("StruckColoursModel", "comes", "[I", true)
  | 15 => ("StruckColoursModel", "rule", "[B", false)
  | 16 => ("StruckColoursModel", "otherRule", "[B", false)
  | 17 => ("StruckColoursModel", "ruleSize", "I", false)
  | 18 => ("StruckColoursModel", "isAsked", "Z", false)
  | 19 => ("StruckColoursModel", "asked", "[I", true)
  | 20 => ("StruckColoursModel", "undos", "[I", true)
  | 21 => ("StruckColoursModel", "undoMany", "I", false)
  | 22 => ("StruckColoursModel", "aside", "[I", true)
  | 23 => ("StruckColoursModel", "then", "[I", true)
  | 24 => ("StruckColoursModel", "acts", "[I", true)
  | 25 => ("StruckColoursModel", "deep", "[I", true)
  | 26 => ("StruckColoursModel", "line", "[I", true)
  | 27 => ("StruckColoursModel", "spot", "[I", true)
  | 28 => ("StruckColoursModel", "seenOf", "[I", true)
  | 29 => ("StruckColoursModel", "seenBy", "[I", true)
  | 30 => ("StruckColoursModel", "seenMany", "I", false)
  | 31 => ("StruckColoursModel", "toldOwn", "[I", true)
  | 32 => ("StruckColoursModel", "toldOther", "[I", true)
  | 33 => ("StruckColoursModel", "toldBits", "I", false)
  | 34 => ("StruckColoursModel", "toldMany", "I", false)
  | 35 => ("StruckColoursModel", "loses", "[Z", true)
  | 36 => ("StruckColoursModel", "drawn", "I", false)
  | 37 => ("StruckColoursModel", "came", "I", false)
  | 38 => ("StruckColoursModel", "kept", "[I", true)
  | 39 => ("StruckColoursModel", "isKept", "[Z", true)
  | _ => ("StruckColoursModel", "keptCame", "[I", true)
def tyX9 : Nat → FieldType := fun k => match k with
  | 0 => .array .int
  | 1 => .int
  | 2 => .int
  | 3 => .array .int
  | 4 => .array .byte
  | 5 => .int
  | 6 => .array .long
  | 7 => .int
  | 8 => .int
  | 9 => .array .byte
  | 10 => .int
  | 11 => .int
  | 12 => .int
  | 13 => .int
  | 14 => .array .int
  | 15 => .array .byte
  | 16 => .array .byte
  | 17 => .int
  | 18 => .boolean
  | 19 => .array .int
  | 20 => .array .int
  | 21 => .int
  | 22 => .array .int
  | 23 => .array .int
  | 24 => .array .int
  | 25 => .array .int
  | 26 => .array .int
  | 27 => .array .int
  | 28 => .array .int
  | 29 => .array .int
  | 30 => .int
  | 31 => .array .int
  | 32 => .array .int
  | 33 => .int
  | 34 => .int
  | 35 => .array .boolean
  | 36 => .int
  | 37 => .int
  | 38 => .array .int
  | 39 => .array .boolean
  | _ => .array .int
theorem nmX9 : ∀ a, a < 41 → ∀ b, b < 41 → a ≠ b → (TX9 a).2.1 ≠ (TX9 b).2.1 := by decide +kernel
theorem tyX9_ok : ∀ k, k < 41 → parseFieldDescriptor (TX9 k).2.2.1 = some (tyX9 k) := by decide +kernel
abbrev vwCl : List vw_C := [(RX0, TX0, 2), (RX1, TX1, 4), (RX2, TX2, 3), (RX3, TX3, 2), (RX4, TX4, 9), (RX5, TX5, 9), (RX6, TX6, 6), (RX7, TX7, 2), (RX8, TX8, 17), (RX9, TX9, 41)]
end
section
/-! numbers: a Java int is an Int within its bounds -/
theorem w32_ex : ∃ f : Int → Int, ∀ x, f x = (x + 2147483648) % 4294967296 - 2147483648 := ⟨_, fun _ => rfl⟩
/-- kept opaque: the kernel is never to unfold it over a number that it doesn't know -/
noncomputable def w32 : Int → Int := Classical.choose w32_ex
theorem w32_eq (x : Int) : w32 x = (x + 2147483648) % 4294967296 - 2147483648 := Classical.choose_spec w32_ex x
theorem w64_ex : ∃ f : Int → Int, ∀ x, f x = (x + 9223372036854775808) % 18446744073709551616 - 9223372036854775808 := ⟨_, fun _ => rfl⟩
noncomputable def w64 : Int → Int := Classical.choose w64_ex
theorem w64_eq (x : Int) : w64 x = (x + 9223372036854775808) % 18446744073709551616 - 9223372036854775808 := Classical.choose_spec w64_ex x
def b32 (x : Int) : Prop := -2147483648 ≤ x ∧ x < 2147483648
def b64 (x : Int) : Prop := -9223372036854775808 ≤ x ∧ x < 9223372036854775808
theorem w32_b (x : Int) : b32 (w32 x) := by unfold b32; rw [w32_eq]; omega
theorem w64_b (x : Int) : b64 (w64 x) := by unfold b64; rw [w64_eq]; omega
theorem w32_id {x : Int} (h1 : -2147483648 ≤ x) (h2 : x < 2147483648) : w32 x = x := by rw [w32_eq]; omega
theorem w64_id {x : Int} (h1 : -9223372036854775808 ≤ x) (h2 : x < 9223372036854775808) : w64 x = x := by rw [w64_eq]; omega
theorem w32_bmod (x : Int) : w32 x = x.bmod 4294967296 := by
  rw [w32_eq, Int.bmod_def]
  split <;> omega
theorem w64_bmod (x : Int) : w64 x = x.bmod 18446744073709551616 := by
  rw [w64_eq, Int.bmod_def]
  split <;> omega
theorem to_of {x : Int} (h : b32 x) : (Int32.ofInt x).toInt = x := Int32.toInt_ofInt_of_le h.1 h.2
theorem to_of64 {x : Int} (h : b64 x) : (Int64.ofInt x).toInt = x := Int64.toInt_ofInt_of_le h.1 h.2
theorem toI_b (x : Int32) : b32 x.toInt := ⟨x.le_toInt, x.toInt_lt⟩
theorem toI_b64 (x : Int64) : b64 x.toInt := ⟨x.le_toInt, x.toInt_lt⟩
theorem of_w32 (x : Int) : Int32.ofInt (w32 x) = Int32.ofInt x := by
  apply Int32.toInt_inj.mp
  rw [to_of (w32_b x), Int32.toInt_ofInt, w32_bmod]
theorem of_w64 (x : Int) : Int64.ofInt (w64 x) = Int64.ofInt x := by
  apply Int64.toInt_inj.mp
  rw [to_of64 (w64_b x), Int64.toInt_ofInt, w64_bmod]
theorem of_eq {x : Int} {v : Int32} (h : v.toInt = x) : v = Int32.ofInt x := by rw [← h, Int32.ofInt_toInt]
theorem of_eq64 {x : Int} {v : Int64} (h : v.toInt = x) : v = Int64.ofInt x := by rw [← h, Int64.ofInt_toInt]
theorem eq_of {x y : Int} (hx : b32 x) (hy : b32 y) : Int32.ofInt x = Int32.ofInt y ↔ x = y := by rw [← Int32.toInt_inj, to_of hx, to_of hy]
theorem lt_of {x y : Int} (hx : b32 x) (hy : b32 y) : Int32.ofInt x < Int32.ofInt y ↔ x < y := by rw [Int32.lt_iff_toInt_lt, to_of hx, to_of hy]
theorem le_of {x y : Int} (hx : b32 x) (hy : b32 y) : Int32.ofInt x ≤ Int32.ofInt y ↔ x ≤ y := by rw [Int32.le_iff_toInt_le, to_of hx, to_of hy]
theorem b32_0 : b32 0 := by unfold b32; omega
theorem of_0 : Int32.ofInt 0 = 0 := rfl
theorem of_add (x y : Int) : Int32.ofInt x + Int32.ofInt y = Int32.ofInt (w32 (x + y)) := by rw [of_w32, Int32.ofInt_add]
theorem of_sub (x y : Int) : Int32.ofInt x - Int32.ofInt y = Int32.ofInt (w32 (x - y)) := by rw [of_w32, Int32.ofInt_sub]
theorem of_mul (x y : Int) : Int32.ofInt x * Int32.ofInt y = Int32.ofInt (w32 (x * y)) := by rw [of_w32, Int32.ofInt_mul]
theorem of_neg (x : Int) : -Int32.ofInt x = Int32.ofInt (w32 (-x)) := by rw [of_w32, Int32.ofInt_neg]
theorem of_add64 (x y : Int) : Int64.ofInt x + Int64.ofInt y = Int64.ofInt (w64 (x + y)) := by rw [of_w64, Int64.ofInt_add]
theorem of_sub64 (x y : Int) : Int64.ofInt x - Int64.ofInt y = Int64.ofInt (w64 (x - y)) := by rw [of_w64, Int64.ofInt_sub]
theorem of_mul64 (x y : Int) : Int64.ofInt x * Int64.ofInt y = Int64.ofInt (w64 (x * y)) := by rw [of_w64, Int64.ofInt_mul]
theorem of_div {x y : Int} (hx : b32 x) (hy : b32 y) : Int32.ofInt x / Int32.ofInt y = Int32.ofInt (w32 (x.tdiv y)) := by
  rw [of_w32]
  apply Int32.toInt_inj.mp
  rw [Int32.toInt_div, to_of hx, to_of hy, Int32.toInt_ofInt]
theorem of_div64 {x y : Int} (hx : b64 x) (hy : b64 y) : Int64.ofInt x / Int64.ofInt y = Int64.ofInt (w64 (x.tdiv y)) := by
  rw [of_w64]
  apply Int64.toInt_inj.mp
  rw [Int64.toInt_div, to_of64 hx, to_of64 hy, Int64.toInt_ofInt]
theorem tmod_lt (x y : Int) : x.tmod y = x - x.tdiv y * y := by
  rw [Int.tmod_def, Int.mul_comm]
theorem of_rem {x y : Int} (hx : b32 x) (hy : b32 y) : Int32.ofInt x - Int32.ofInt x / Int32.ofInt y * Int32.ofInt y = Int32.ofInt (w32 (x.tmod y)) := by
  rw [of_div hx hy, of_w32, of_w32, tmod_lt, Int32.ofInt_sub, Int32.ofInt_mul]
theorem of_rem64 {x y : Int} (hx : b64 x) (hy : b64 y) : Int64.ofInt x - Int64.ofInt x / Int64.ofInt y * Int64.ofInt y = Int64.ofInt (w64 (x.tmod y)) := by
  rw [of_div64 hx hy, of_w64, of_w64, tmod_lt, Int64.ofInt_sub, Int64.ofInt_mul]
/-! bits -/
theorem iand_ex : ∃ f : Int → Int → Int, ∀ x y, f x y = (Int32.ofInt x &&& Int32.ofInt y).toInt := ⟨_, fun _ _ => rfl⟩
noncomputable def iand : Int → Int → Int := Classical.choose iand_ex
theorem iand_eq (x y : Int) : iand x y = (Int32.ofInt x &&& Int32.ofInt y).toInt := Classical.choose_spec iand_ex x y
theorem iand_b (x y : Int) : b32 (iand x y) := by rw [iand_eq]; exact toI_b _
theorem of_iand (x y : Int) : (Int32.ofInt x &&& Int32.ofInt y) = Int32.ofInt (iand x y) := of_eq (iand_eq x y).symm
theorem ior_ex : ∃ f : Int → Int → Int, ∀ x y, f x y = (Int32.ofInt x ||| Int32.ofInt y).toInt := ⟨_, fun _ _ => rfl⟩
noncomputable def ior : Int → Int → Int := Classical.choose ior_ex
theorem ior_eq (x y : Int) : ior x y = (Int32.ofInt x ||| Int32.ofInt y).toInt := Classical.choose_spec ior_ex x y
theorem ior_b (x y : Int) : b32 (ior x y) := by rw [ior_eq]; exact toI_b _
theorem of_ior (x y : Int) : (Int32.ofInt x ||| Int32.ofInt y) = Int32.ofInt (ior x y) := of_eq (ior_eq x y).symm
theorem ixor_ex : ∃ f : Int → Int → Int, ∀ x y, f x y = (Int32.ofInt x ^^^ Int32.ofInt y).toInt := ⟨_, fun _ _ => rfl⟩
noncomputable def ixor : Int → Int → Int := Classical.choose ixor_ex
theorem ixor_eq (x y : Int) : ixor x y = (Int32.ofInt x ^^^ Int32.ofInt y).toInt := Classical.choose_spec ixor_ex x y
theorem ixor_b (x y : Int) : b32 (ixor x y) := by rw [ixor_eq]; exact toI_b _
theorem of_ixor (x y : Int) : (Int32.ofInt x ^^^ Int32.ofInt y) = Int32.ofInt (ixor x y) := of_eq (ixor_eq x y).symm
theorem ishl_ex : ∃ f : Int → Int → Int, ∀ x y, f x y = (Int32.ofInt x <<< (Int32.ofInt y &&& 31)).toInt := ⟨_, fun _ _ => rfl⟩
noncomputable def ishl : Int → Int → Int := Classical.choose ishl_ex
theorem ishl_eq (x y : Int) : ishl x y = (Int32.ofInt x <<< (Int32.ofInt y &&& 31)).toInt := Classical.choose_spec ishl_ex x y
theorem ishl_b (x y : Int) : b32 (ishl x y) := by rw [ishl_eq]; exact toI_b _
theorem of_ishl (x y : Int) : (Int32.ofInt x <<< (Int32.ofInt y &&& 31)) = Int32.ofInt (ishl x y) := of_eq (ishl_eq x y).symm
theorem ishr_ex : ∃ f : Int → Int → Int, ∀ x y, f x y = (Int32.ofInt x >>> (Int32.ofInt y &&& 31)).toInt := ⟨_, fun _ _ => rfl⟩
noncomputable def ishr : Int → Int → Int := Classical.choose ishr_ex
theorem ishr_eq (x y : Int) : ishr x y = (Int32.ofInt x >>> (Int32.ofInt y &&& 31)).toInt := Classical.choose_spec ishr_ex x y
theorem ishr_b (x y : Int) : b32 (ishr x y) := by rw [ishr_eq]; exact toI_b _
theorem of_ishr (x y : Int) : (Int32.ofInt x >>> (Int32.ofInt y &&& 31)) = Int32.ofInt (ishr x y) := of_eq (ishr_eq x y).symm
theorem iushr_ex : ∃ f : Int → Int → Int, ∀ x y, f x y = ((Int32.ofInt x).toUInt32 >>> ((Int32.ofInt y).toUInt32 &&& Int32.toUInt32 31)).toInt32.toInt := ⟨_, fun _ _ => rfl⟩
noncomputable def iushr : Int → Int → Int := Classical.choose iushr_ex
theorem iushr_eq (x y : Int) : iushr x y = ((Int32.ofInt x).toUInt32 >>> ((Int32.ofInt y).toUInt32 &&& Int32.toUInt32 31)).toInt32.toInt := Classical.choose_spec iushr_ex x y
theorem iushr_b (x y : Int) : b32 (iushr x y) := by rw [iushr_eq]; exact toI_b _
theorem of_iushr (x y : Int) : ((Int32.ofInt x).toUInt32 >>> ((Int32.ofInt y).toUInt32 &&& Int32.toUInt32 31)).toInt32 = Int32.ofInt (iushr x y) := of_eq (iushr_eq x y).symm
theorem i8_ex : ∃ f : Int → Int, ∀ x, f x = (Int32.ofInt x).toInt8.toInt32.toInt := ⟨_, fun _ => rfl⟩
noncomputable def i8 : Int → Int := Classical.choose i8_ex
theorem i8_eq (x : Int) : i8 x = (Int32.ofInt x).toInt8.toInt32.toInt := Classical.choose_spec i8_ex x
theorem i8_b (x : Int) : b32 (i8 x) := by rw [i8_eq]; exact toI_b _
theorem of_i8 (x : Int) : (Int32.ofInt x).toInt8.toInt32 = Int32.ofInt (i8 x) := of_eq (i8_eq x).symm
theorem i16_ex : ∃ f : Int → Int, ∀ x, f x = (Int32.ofInt x).toInt16.toInt32.toInt := ⟨_, fun _ => rfl⟩
noncomputable def i16 : Int → Int := Classical.choose i16_ex
theorem i16_eq (x : Int) : i16 x = (Int32.ofInt x).toInt16.toInt32.toInt := Classical.choose_spec i16_ex x
theorem i16_b (x : Int) : b32 (i16 x) := by rw [i16_eq]; exact toI_b _
theorem of_i16 (x : Int) : (Int32.ofInt x).toInt16.toInt32 = Int32.ofInt (i16 x) := of_eq (i16_eq x).symm
theorem iu16_ex : ∃ f : Int → Int, ∀ x, f x = ((Int32.ofInt x).toUInt32 % 65536).toInt32.toInt := ⟨_, fun _ => rfl⟩
noncomputable def iu16 : Int → Int := Classical.choose iu16_ex
theorem iu16_eq (x : Int) : iu16 x = ((Int32.ofInt x).toUInt32 % 65536).toInt32.toInt := Classical.choose_spec iu16_ex x
theorem iu16_b (x : Int) : b32 (iu16 x) := by rw [iu16_eq]; exact toI_b _
theorem of_iu16 (x : Int) : ((Int32.ofInt x).toUInt32 % 65536).toInt32 = Int32.ofInt (iu16 x) := of_eq (iu16_eq x).symm
theorem ich_ex : ∃ f : Int → Int, ∀ x, f x = (Int32.ofInt x).toUInt32.toUInt16.toUInt32.toInt32.toInt := ⟨_, fun _ => rfl⟩
noncomputable def ich : Int → Int := Classical.choose ich_ex
theorem ich_eq (x : Int) : ich x = (Int32.ofInt x).toUInt32.toUInt16.toUInt32.toInt32.toInt := Classical.choose_spec ich_ex x
theorem ich_b (x : Int) : b32 (ich x) := by rw [ich_eq]; exact toI_b _
theorem of_ich (x : Int) : (Int32.ofInt x).toUInt32.toUInt16.toUInt32.toInt32 = Int32.ofInt (ich x) := of_eq (ich_eq x).symm
theorem i1_ex : ∃ f : Int → Int, ∀ x, f x = (Int32.ofInt x &&& 1).toInt := ⟨_, fun _ => rfl⟩
noncomputable def i1 : Int → Int := Classical.choose i1_ex
theorem i1_eq (x : Int) : i1 x = (Int32.ofInt x &&& 1).toInt := Classical.choose_spec i1_ex x
theorem i1_b (x : Int) : b32 (i1 x) := by rw [i1_eq]; exact toI_b _
theorem of_i1 (x : Int) : (Int32.ofInt x &&& 1) = Int32.ofInt (i1 x) := of_eq (i1_eq x).symm
def icmp (x y : Int) : Int := if y < x then 1 else if x = y then 0 else -1
theorem of_cmp {x y : Int} (hx : b64 x) (hy : b64 y) : lg_cmp (Int64.ofInt x) (Int64.ofInt y) = Int32.ofInt (icmp x y) := by
  have h1 : (Int64.ofInt x > Int64.ofInt y) ↔ y < x := by
    show Int64.ofInt y < Int64.ofInt x ↔ _
    rw [Int64.lt_iff_toInt_lt, to_of64 hx, to_of64 hy]
  have h2 : (Int64.ofInt x = Int64.ofInt y) ↔ x = y := by rw [← Int64.toInt_inj, to_of64 hx, to_of64 hy]
  unfold lg_cmp icmp
  by_cases q1 : y < x
  · rw [if_pos (h1.mpr q1), if_pos q1]; rfl
  · rw [if_neg (fun z => q1 (h1.mp z)), if_neg q1]
    by_cases q2 : x = y
    · rw [if_pos (h2.mpr q2), if_pos q2]; rfl
    · rw [if_neg (fun z => q2 (h2.mp z)), if_neg q2]; rfl
theorem icmp_b (x y : Int) : b32 (icmp x y) := by
  unfold icmp b32
  split
  · omega
  · split <;> omega
theorem of_i2l {x : Int} (hx : b32 x) : (Int32.ofInt x).toInt64 = Int64.ofInt x := of_eq64 (by rw [Int32.toInt_toInt64, to_of hx])
theorem b64_of {x : Int} (hx : b32 x) : b64 x := by unfold b32 at hx; unfold b64; omega
/-! an index within an array -/
theorem in_of {i : Int} {n : Nat} (h0 : 0 ≤ i) (h1 : i < n) (hb : b32 i) : vp_in (Int32.ofInt i) n := vp_in_iff.mpr (by rw [to_of hb]; exact ⟨h0, h1⟩)
theorem clamp_of' {i : Int} (hb : b32 i) : (Int32.ofInt i).toNatClampNeg = i.toNat := Int32.toNatClampNeg_ofInt_of_le hb.1 hb.2
end
section
/-! the world: numbered objects (their shapes: tau), what they hold (a number for an object and a place) -/
abbrev TV : Type := Int ⊕ Int ⊕ Int
abbrev vI (x : Int) : TV := .inl x
abbrev vL (x : Int) : TV := .inr (.inl x)
abbrev vR (x : Int) : TV := .inr (.inr x)
abbrev Mem : Type := Int → Int → Int
abbrev Shp : Type := (Nat × (Nat → Int)) ⊕ (Nat × Nat)
abbrev Tau : Type := List Shp
/-- exactly full; the first address; the classes; the array classes; the static arrays' addresses; the script -/
abbrev GE : Type := Bool × Nat × va_G × (Nat → ClassId) × (Nat → Nat) × Nat × (Nat → Int)
abbrev gB (g : GE) : Bool := g.1
abbrev gO (g : GE) : Nat := g.2.1
abbrev gD (g : GE) : va_G := g.2.2.1
abbrev gC (g : GE) : Nat → ClassId := g.2.2.2.1
abbrev gS (g : GE) : Nat → Nat := g.2.2.2.2.1
abbrev gL (g : GE) : Nat := g.2.2.2.2.2.1
abbrev gX (g : GE) : Nat → Int := g.2.2.2.2.2.2
def rf (g : GE) (x : Int) : Value := if 0 ≤ x then .ref (gO g + x.toNat) else if x = -1 then .null else .ref (gS g (-x).toNat)
def rfo (g : GE) (x : Int) : Option Nat := if 0 ≤ x then some (gO g + x.toNat) else none
def cv (g : GE) (v : TV) : Value := match v with
  | .inl x => .int (Int32.ofInt x)
  | .inr (.inl x) => .long (Int64.ofInt x)
  | .inr (.inr x) => rf g x
def okT (v : TV) : Prop := match v with
  | .inl x => b32 x
  | .inr (.inl x) => b64 x
  | .inr (.inr _) => True
def catT (v : TV) : Nat := match v with
  | .inr (.inl _) => 2
  | _ => 1
/-- kinds of fields: 0 int, 1 boolean, 2 a reference, 3 a final reference -/
def fkL : List (List Nat) := [[3, 0], [3, 3, 3, 0], [3, 0, 0], [3, 0], [3, 3, 3, 0, 0, 0, 0, 0, 1], [0, 0, 0, 3, 3, 3, 3, 3, 3], [3, 3, 2, 0, 0, 0], [3, 0], [3, 3, 3, 3, 3, 3, 3, 3, 3, 3, 3, 3, 2, 2, 0, 0, 0], [3, 0, 0, 3, 3, 0, 3, 0, 0, 2, 0, 0, 0, 0, 3, 2, 2, 0, 1, 3, 3, 0, 3, 3, 3, 3, 3, 3, 3, 3, 0, 3, 3, 0, 0, 3, 0, 0, 3, 3, 3]]
def fldE (g : GE) (ci : Nat) (fin : Nat → Int) (s : Int → Int) : List Value := (fkL.getD ci []).mapIdx fun j kd => if kd ≤ 1 then .int (Int32.ofInt (s j)) else if kd = 2 then rf g (s j) else rf g (fin j)
def arrE (g : GE) (ty : Nat) (s : Int → Int) : (Nat → Int32) ⊕ (Nat → Int64) ⊕ (Nat → UInt32) ⊕ (Nat → UInt64) ⊕ (Nat → Option Nat) :=
  if ty = 1 then .inr (.inl fun j => Int64.ofInt (s j)) else if ty = 5 then .inr (.inr (.inr (.inr fun j => rfo g (s j)))) else .inl fun j => Int32.ofInt (s j)
def cellE (g : GE) (sh : Shp) (s : Int → Int) : va_E := match sh with
  | .inl (ci, fin) => .inr (ci, fldE g ci fin s)
  | .inr (ty, n) => .inl (gC g ty, n, arrE g ty s)
def world (g : GE) (t : Tau) (s : Mem) : va_W := t.mapIdx fun k sh => (gO g + k, cellE g sh (s k))
def okS (sh : Shp) (j : Nat) (x : Int) : Prop := match sh with
  | .inl (ci, _) => (∀ kd, (fkL.getD ci [])[j]? = some kd → kd ≤ 1 → b32 x)
  | .inr (ty, _) => if ty = 1 then b64 x else if ty = 5 then -1 ≤ x else b32 x
def MemOk (t : Tau) (s : Mem) : Prop := ∀ (k : Nat) (sh : Shp), t[k]? = some sh → ∀ j : Nat, okS sh j (s k j)
def tyF (ty : Nat) : FieldType := match ty with
  | 0 => .int
  | 1 => .long
  | 2 => .byte
  | 3 => .boolean
  | 4 => .char
  | _ => .object "StruckColours$Sea"
def tyL (g : GE) : List (ClassId × FieldType) := [(gC g 0, .int), (gC g 1, .long), (gC g 2, .byte), (gC g 3, .boolean), (gC g 4, .char), (gC g 5, .object "StruckColours$Sea")]
theorem tyL_at (g : GE) {ty : Nat} (h : ty ≤ 5) : (tyL g)[ty]? = some (gC g ty, tyF ty) := by
  match ty, h with
  | 0, _ => rfl
  | 1, _ => rfl
  | 2, _ => rfl
  | 3, _ => rfl
  | 4, _ => rfl
  | 5, _ => rfl
abbrev Ag (g : GE) : Nat → Prop := fun q => gO g ≤ q
def Hld (g : GE) (t : Tau) (s : Mem) (H : Heap) : Prop := va_P (gD g) vwCl (world g t s) H ∧ MemOk t s ∧ gO g + t.length ≤ H.size
theorem world_at {g : GE} {t : Tau} {s : Mem} {k : Nat} {sh : Shp} (h : t[k]? = some sh) : (world g t s)[k]? = some (gO g + k, cellE g sh (s k)) := by
  unfold world
  rw [List.getElem?_mapIdx, h]
  rfl
theorem world_atI {g : GE} {t : Tau} {s : Mem} {x : Int} {sh : Shp} (hx : 0 ≤ x) (h : t[x.toNat]? = some sh) : (world g t s)[x.toNat]? = some (gO g + x.toNat, cellE g sh (s x)) := by
  rw [world_at h, Int.toNat_of_nonneg hx]
theorem world_D (g : GE) (t : Tau) (s : Mem) : va_D (Ag g) (world g t s) := by
  unfold world
  refine ⟨fun i j p q hp hq he => ?_, fun k q hk => ?_⟩
  · rw [List.getElem?_mapIdx] at hp hq
    obtain ⟨a, -, rfl⟩ := Option.map_eq_some_iff.mp hp
    obtain ⟨b, -, rfl⟩ := Option.map_eq_some_iff.mp hq
    exact Nat.add_left_cancel he
  · rw [List.getElem?_mapIdx] at hk
    obtain ⟨a, -, rfl⟩ := Option.map_eq_some_iff.mp hk
    exact Nat.le_add_right _ _
def up (s : Mem) (x j v : Int) : Mem := fun o i => if o = x ∧ i = j then v else s o i
theorem up_ne {s : Mem} {x j v : Int} {o : Int} (h : o ≠ x) : up s x j v o = s o := by
  funext i
  simp [up, h]
theorem world_set {g : GE} {t : Tau} {s s' : Mem} {x : Int} {sh : Shp} (hx : 0 ≤ x) (h : t[x.toNat]? = some sh) (hs : ∀ o, o ≠ x → s' o = s o) {e' : va_E} (he : cellE g sh (s' x) = e') : (world g t s).set x.toNat (gO g + x.toNat, e') = world g t s' := by
  apply List.ext_getElem?
  intro i
  rw [List.getElem?_set]
  by_cases hi : x.toNat = i
  · subst hi
    have hl : x.toNat < (world g t s).length := by
      have := world_at (g := g) (s := s) h
      exact (List.getElem?_eq_some_iff.mp this).1
    rw [if_pos rfl, if_pos hl, world_atI hx h, he]
  · rw [if_neg hi]
    unfold world
    rw [List.getElem?_mapIdx, List.getElem?_mapIdx, hs i (fun z => hi (by rw [← z]; exact Int.toNat_natCast i))]
theorem MemOk_up {t : Tau} {s : Mem} {x j v : Int} (h : MemOk t s) (hx : 0 ≤ x) (hj : 0 ≤ j) {sh : Shp} (hs : t[x.toNat]? = some sh) (hv : okS sh j.toNat v) : MemOk t (up s x j v) := by
  intro k sh' hk i
  by_cases hkx : (k : Int) = x ∧ (i : Int) = j
  · obtain ⟨h1, h2⟩ := hkx
    subst h1; subst h2
    simp only [Int.toNat_natCast] at hs hv
    cases hs.symm.trans hk
    simp only [up, and_self, if_true]
    exact hv
  · simp only [up, hkx, if_false]
    exact h k sh' hk i
/-- x is an object of class ci -/
def isO (t : Tau) (x : Int) (ci : Nat) : Prop := 0 ≤ x ∧ ∃ fin, t[x.toNat]? = some (.inl (ci, fin))
def finOf (t : Tau) (x : Int) (k : Nat) : Int := match t[x.toNat]? with
  | some (.inl (_, f)) => f k
  | _ => 0
def lenOf (t : Tau) (x : Int) : Nat := match t[x.toNat]? with
  | some (.inr (_, n)) => n
  | _ => 0
/-- x is an array of type ty -/
def isT (t : Tau) (x : Int) (ty : Nat) : Prop := 0 ≤ x ∧ t[x.toNat]? = some (.inr (ty, lenOf t x))
theorem rf_ref {g : GE} {x : Int} (h : 0 ≤ x) : rf g x = .ref (gO g + x.toNat) := by simp [rf, h]
theorem rf_null (g : GE) : rf g (-1) = .null := by simp [rf]
theorem rf_rfo {g : GE} {x : Int} (h : -1 ≤ x) : va_rf (rfo g x) = rf g x := by
  unfold rf rfo
  by_cases hx : 0 ≤ x
  · simp [hx, va_rf]
  · have : x = -1 := by omega
    simp [hx, this, va_rf]
theorem cv_cat (g : GE) (v : TV) : (cv g v).category = catT v := by
  match v with
  | .inl x => rfl
  | .inr (.inl x) => rfl
  | .inr (.inr x) =>
    show (rf g x).category = 1
    unfold rf
    split
    · rfl
    · split <;> rfl
theorem cat_map (g : GE) (st : List TV) : ((st.map (cv g)).map fun v => v.category) = st.map catT := by
  rw [List.map_map]
  exact List.map_congr_left fun v _ => cv_cat g v
end
section
/-! the methods, by their numbers -/
def MTL : List (MethodName × ByteArray × Nat × Option FieldType) := [
  (⟨"StruckColours$Laws", "<init>", "()V"⟩, prog_2_method_1_code, 1, none),
  (⟨"StruckColours$Laws", "weighs", "(LStruckColours$Notes;)I"⟩, prog_2_method_2_code, 4, (some .int)),
  (⟨"StruckColours$Laws", "fitsTales", "(ILStruckColours$Notes;)Z"⟩, prog_2_method_3_code, 3, (some .boolean)),
  (⟨"StruckColours$Laws", "numberOver", "(II)I"⟩, prog_2_method_4_code, 5, (some .int)),
  (⟨"StruckColours$Laws", "isOver", "(III)Z"⟩, prog_2_method_5_code, 3, (some .boolean)),
  (⟨"StruckColours$Notes", "<init>", "()V"⟩, prog_3_method_1_code, 1, none),
  (⟨"StruckColours$Notes", "adds", "(III)Z"⟩, prog_3_method_2_code, 4, (some .boolean)),
  (⟨"StruckColours$Notes", "empties", "()I"⟩, prog_3_method_3_code, 2, (some .int)),
  (⟨"StruckColours$Notes", "firstOf", "(I)I"⟩, prog_3_method_4_code, 2, (some .int)),
  (⟨"StruckColours$Notes", "secondOf", "(I)I"⟩, prog_3_method_5_code, 2, (some .int)),
  (⟨"StruckColours$Notes", "thirdOf", "(I)I"⟩, prog_3_method_6_code, 2, (some .int)),
  (⟨"StruckColours$Past", "<init>", "()V"⟩, prog_4_method_1_code, 2, none),
  (⟨"StruckColours$Past", "clears", "()V"⟩, prog_4_method_2_code, 1, none),
  (⟨"StruckColours$Past", "at", "(I)LStruckColours$Sea;"⟩, prog_4_method_3_code, 3, (some (.object "StruckColours$Sea"))),
  (⟨"StruckColours$Past", "adds", "(LStruckColours$Sea;)V"⟩, prog_4_method_4_code, 3, none),
  (⟨"StruckColours$Past", "returns", "(LStruckColours$Sea;)Z"⟩, prog_4_method_5_code, 3, (some .boolean)),
  (⟨"StruckColours$Row", "<init>", "()V"⟩, prog_5_method_1_code, 1, none),
  (⟨"StruckColours$Row", "clears", "()V"⟩, prog_5_method_2_code, 1, none),
  (⟨"StruckColours$Row", "adds", "(J)V"⟩, prog_5_method_3_code, 3, none),
  (⟨"StruckColours$Row", "addsFraction", "(JJ)V"⟩, prog_5_method_4_code, 7, none),
  (⟨"StruckColours$Row", "commonDivisor", "(JJ)J"⟩, prog_5_method_5_code, 11, (some .long)),
  (⟨"StruckColours$Row", "has", "(I)Z"⟩, prog_5_method_6_code, 2, (some .boolean)),
  (⟨"StruckColours$Row", "at", "(I)J"⟩, prog_5_method_7_code, 2, (some .long)),
  (⟨"StruckColours$Rule", "<init>", "()V"⟩, prog_6_method_1_code, 1, none),
  (⟨"StruckColours$Rule", "reads", "([CI)I"⟩, prog_6_method_2_code, 5, (some .int)),
  (⟨"StruckColours$Rule", "beginsThing", "(C)Z"⟩, prog_6_method_3_code, 2, (some .boolean)),
  (⟨"StruckColours$Rule", "comesBehind", "(C)Z"⟩, prog_6_method_4_code, 3, (some .boolean)),
  (⟨"StruckColours$Rule", "lengthens", "(I)Z"⟩, prog_6_method_5_code, 2, (some .boolean)),
  (⟨"StruckColours$Rule", "closes", "()Z"⟩, prog_6_method_6_code, 1, (some .boolean)),
  (⟨"StruckColours$Rule", "isLetter", "(C)Z"⟩, prog_6_method_7_code, 1, (some .boolean)),
  (⟨"StruckColours$Rule", "binding", "(C)I"⟩, prog_6_method_8_code, 1, (some .int)),
  (⟨"StruckColours$Rule", "emits", "(I)V"⟩, prog_6_method_9_code, 2, none),
  (⟨"StruckColours$Rule", "puts", "(C)V"⟩, prog_6_method_10_code, 2, none),
  (⟨"StruckColours$Rule", "joins", "(I)V"⟩, prog_6_method_11_code, 3, none),
  (⟨"StruckColours$Rule", "measures", "(LStruckColours$Sea;II)I"⟩, prog_6_method_12_code, 7, (some .int)),
  (⟨"StruckColours$Rule", "stacks", "(II)I"⟩, prog_6_method_13_code, 3, (some .int)),
  (⟨"StruckColours$Rule", "reduces", "(II)I"⟩, prog_6_method_14_code, 3, (some .int)),
  (⟨"StruckColours$Rule", "joined", "(III)I"⟩, prog_6_method_15_code, 3, (some .int)),
  (⟨"StruckColours$Rule", "thing", "(ILStruckColours$Sea;II)I"⟩, prog_6_method_16_code, 4, (some .int)),
  (⟨"StruckColours$Sea", "<init>", "()V"⟩, prog_7_method_1_code, 1, none),
  (⟨"StruckColours$Sea", "becomes", "(LStruckColours$Sea;)V"⟩, prog_7_method_2_code, 2, none),
  (⟨"StruckColours$Sea", "has", "(I)Z"⟩, prog_7_method_3_code, 2, (some .boolean)),
  (⟨"StruckColours$Sea", "isPair", "(II)Z"⟩, prog_7_method_4_code, 3, (some .boolean)),
  (⟨"StruckColours$Sea", "mightOf", "(I)I"⟩, prog_7_method_5_code, 2, (some .int)),
  (⟨"StruckColours$Sea", "strengthOf", "(I)I"⟩, prog_7_method_6_code, 2, (some .int)),
  (⟨"StruckColours$Sea", "sideOf", "(I)I"⟩, prog_7_method_7_code, 2, (some .int)),
  (⟨"StruckColours$Sea", "wonOf", "(I)I"⟩, prog_7_method_8_code, 2, (some .int)),
  (⟨"StruckColours$Sea", "lostOf", "(I)I"⟩, prog_7_method_9_code, 2, (some .int)),
  (⟨"StruckColours$Sea", "parts", "(II)I"⟩, prog_7_method_10_code, 3, (some .int)),
  (⟨"StruckColours$Sea", "strangeParts", "(I)I"⟩, prog_7_method_11_code, 2, (some .int)),
  (⟨"StruckColours$Sea", "strengthOfAll", "()I"⟩, prog_7_method_12_code, 1, (some .int)),
  (⟨"StruckColours$Sea", "strengthOfSome", "(I)I"⟩, prog_7_method_13_code, 4, (some .int)),
  (⟨"StruckColours$Sea", "partsOfAll", "(I)I"⟩, prog_7_method_14_code, 2, (some .int)),
  (⟨"StruckColours$Sea", "partsOfSome", "(II)I"⟩, prog_7_method_15_code, 5, (some .int)),
  (⟨"StruckColours$Sea", "wonOfAll", "()I"⟩, prog_7_method_16_code, 3, (some .int)),
  (⟨"StruckColours$Sea", "lostOfAll", "()I"⟩, prog_7_method_17_code, 3, (some .int)),
  (⟨"StruckColours$Sea", "difference", "(II)I"⟩, prog_7_method_18_code, 5, (some .int)),
  (⟨"StruckColours$Sea", "joins", "(II)V"⟩, prog_7_method_19_code, 4, none),
  (⟨"StruckColours$Sea", "hoists", "(II)V"⟩, prog_7_method_20_code, 4, none),
  (⟨"StruckColours$Sea", "strengthens", "(II)V"⟩, prog_7_method_21_code, 3, none),
  (⟨"StruckColours$Sea", "resews", "(IIII)V"⟩, prog_7_method_22_code, 5, none),
  (⟨"StruckColours$Sea", "mayGoOver", "(I)V"⟩, prog_7_method_23_code, 4, none),
  (⟨"StruckColours$Sea", "winner", "(LStruckColours$Rule;II)I"⟩, prog_7_method_24_code, 6, (some .int)),
  (⟨"StruckColours$Sea", "battle", "(LStruckColours$Rule;III)I"⟩, prog_7_method_25_code, 6, (some .int)),
  (⟨"StruckColours$Sea", "strikesTo", "(III)V"⟩, prog_7_method_26_code, 5, none),
  (⟨"StruckColours$Sea", "dawns", "(I)V"⟩, prog_7_method_27_code, 4, none),
  (⟨"StruckColours$Sea", "mendsFlag", "(I)V"⟩, prog_7_method_28_code, 5, none),
  (⟨"StruckColours$Sea", "sewsIn", "(III)I"⟩, prog_7_method_29_code, 4, (some .int)),
  (⟨"StruckColours$Sea", "strikesAll", "(II)I"⟩, prog_7_method_30_code, 4, (some .int)),
  (⟨"StruckColours$Search", "<init>", "()V"⟩, prog_8_method_1_code, 2, none),
  (⟨"StruckColours$Search", "aims", "(LStruckColours$Rule;III)V"⟩, prog_8_method_2_code, 5, none),
  (⟨"StruckColours$Search", "step", "(I)I"⟩, prog_8_method_3_code, 2, (some .int)),
  (⟨"StruckColours$Search", "level", "(I)LStruckColours$Sea;"⟩, prog_8_method_4_code, 2, (some (.object "StruckColours$Sea"))),
  (⟨"StruckColours$Search", "fewest", "(LStruckColours$Sea;)I"⟩, prog_8_method_5_code, 4, (some .int)),
  (⟨"StruckColours$Search", "reaches", "(II)Z"⟩, prog_8_method_6_code, 7, (some .boolean)),
  (⟨"StruckColours$Search", "isReached", "(LStruckColours$Sea;)Z"⟩, prog_8_method_7_code, 2, (some .boolean)),
  (⟨"StruckColours$Search", "isTooFar", "(LStruckColours$Sea;I)Z"⟩, prog_8_method_8_code, 3, (some .boolean)),
  (⟨"StruckColours$Search", "isOfUse", "(III)Z"⟩, prog_8_method_9_code, 4, (some .boolean)),
  (⟨"StruckColours$Search", "goes", "(III)Z"⟩, prog_8_method_10_code, 6, (some .boolean)),
  (⟨"StruckColours$Search", "mostOfOneSide", "(LStruckColours$Sea;)I"⟩, prog_8_method_11_code, 5, (some .int)),
  (⟨"StruckColours$Text", "<init>", "()V"⟩, prog_9_method_1_code, 1, none),
  (⟨"StruckColours$Text", "add", "(C)V"⟩, prog_9_method_2_code, 2, none),
  (⟨"StruckColours$Text", "at", "(I)C"⟩, prog_9_method_3_code, 2, (some .char)),
  (⟨"StruckColours$Text", "empties", "()I"⟩, prog_9_method_4_code, 2, (some .int)),
  (⟨"StruckColours", "<init>", "()V"⟩, prog_1_method_1_code, 1, none),
  (⟨"StruckColours", "sign", "(I)I"⟩, prog_1_method_2_code, 3, (some .int)),
  (⟨"StruckColours", "end", "(I)Z"⟩, prog_1_method_3_code, 2, (some .boolean)),
  (⟨"StruckColours", "ships", "()I"⟩, prog_1_method_4_code, 5, (some .int)),
  (⟨"StruckColours", "rule", "()I"⟩, prog_1_method_5_code, 3, (some .int)),
  (⟨"StruckColours", "ship", "(II)I"⟩, prog_1_method_6_code, 3, (some .int)),
  (⟨"StruckColours", "force", "(II)I"⟩, prog_1_method_7_code, 3, (some .int)),
  (⟨"StruckColours", "take", "(I)I"⟩, prog_1_method_8_code, 3, (some .int)),
  (⟨"StruckColours", "sheet", "(IIII)I"⟩, prog_1_method_9_code, 7, (some .int)),
  (⟨"StruckColours", "fight", "(II)I"⟩, prog_1_method_10_code, 4, (some .int)),
  (⟨"StruckColours", "days", "(I)I"⟩, prog_1_method_11_code, 3, (some .int)),
  (⟨"StruckColours", "sews", "(III)I"⟩, prog_1_method_12_code, 5, (some .int)),
  (⟨"StruckColours", "yields", "(II)I"⟩, prog_1_method_13_code, 4, (some .int)),
  (⟨"StruckColours", "war", "()I"⟩, prog_1_method_14_code, 6, (some .int)),
  (⟨"StruckColours", "undo", "()I"⟩, prog_1_method_15_code, 1, (some .int)),
  (⟨"StruckColours", "fleet", "(I)I"⟩, prog_1_method_16_code, 5, (some .int)),
  (⟨"StruckColours", "share", "(I)I"⟩, prog_1_method_17_code, 2, (some .int)),
  (⟨"StruckColours", "later", "(II)I"⟩, prog_1_method_18_code, 4, (some .int)),
  (⟨"StruckColours", "whole", "(I)I"⟩, prog_1_method_19_code, 2, (some .int)),
  (⟨"StruckColours", "sisters", "()I"⟩, prog_1_method_20_code, 5, (some .int)),
  (⟨"StruckColours", "motley", "()I"⟩, prog_1_method_21_code, 4, (some .int)),
  (⟨"StruckColours", "order", "(I)I"⟩, prog_1_method_22_code, 5, (some .int)),
  (⟨"StruckColours", "rivals", "(I)I"⟩, prog_1_method_23_code, 7, (some .int)),
  (⟨"StruckColours", "duel", "(III)I"⟩, prog_1_method_24_code, 8, (some .int)),
  (⟨"StruckColours", "tempts", "(I)I"⟩, prog_1_method_25_code, 4, (some .int)),
  (⟨"StruckColours", "wins", "(II)I"⟩, prog_1_method_26_code, 4, (some .int)),
  (⟨"StruckColours", "suits", "(II)I"⟩, prog_1_method_27_code, 6, (some .int)),
  (⟨"StruckColours", "goesOver", "(II)I"⟩, prog_1_method_28_code, 3, (some .int)),
  (⟨"StruckColours", "peace", "()I"⟩, prog_1_method_29_code, 1, (some .int)),
  (⟨"StruckColours", "campaign", "(I)I"⟩, prog_1_method_30_code, 3, (some .int)),
  (⟨"StruckColours", "halves", "(I)I"⟩, prog_1_method_31_code, 6, (some .int)),
  (⟨"StruckColours", "evens", "()I"⟩, prog_1_method_32_code, 6, (some .int)),
  (⟨"StruckColours", "worth", "(I)I"⟩, prog_1_method_33_code, 7, (some .int)),
  (⟨"StruckColours", "patched", "(II)I"⟩, prog_1_method_34_code, 7, (some .int)),
  (⟨"StruckColours", "seen", "(II)I"⟩, prog_1_method_35_code, 3, (some .int)),
  (⟨"StruckColours", "forget", "()I"⟩, prog_1_method_36_code, 1, (some .int)),
  (⟨"StruckColours", "fits", "()I"⟩, prog_1_method_37_code, 2, (some .int)),
  (⟨"StruckColours", "looks", "()I"⟩, prog_1_method_38_code, 8, (some .int)),
  (⟨"StruckColours", "told", "(III)I"⟩, prog_1_method_39_code, 4, (some .int)),
  (⟨"StruckColours", "deny", "()I"⟩, prog_1_method_40_code, 1, (some .int)),
  (⟨"StruckColours", "laws", "()I"⟩, prog_1_method_41_code, 2, (some .int)),
  (⟨"StruckColours", "asks", "()I"⟩, prog_1_method_42_code, 8, (some .int)),
  (⟨"StruckColours", "treaty", "(II)I"⟩, prog_1_method_43_code, 6, (some .int)),
  (⟨"StruckColours", "series", "(III)I"⟩, prog_1_method_44_code, 9, (some .int)),
  (⟨"StruckColours", "rests", "(I)I"⟩, prog_1_method_45_code, 5, (some .int)),
  (⟨"StruckColours", "law", "()I"⟩, prog_1_method_46_code, 4, (some .int)),
  (⟨"StruckColours", "years", "(II)I"⟩, prog_1_method_47_code, 4, (some .int)),
  (⟨"StruckColours", "keep", "(I)Z"⟩, prog_1_method_48_code, 2, (some .boolean)),
  (⟨"StruckColours", "again", "(I)Z"⟩, prog_1_method_49_code, 2, (some .boolean)),
  (⟨"StruckColours", "count", "(I)I"⟩, prog_1_method_50_code, 2, (some .int)),
  (⟨"StruckColours", "row", "(I)J"⟩, prog_1_method_51_code, 2, (some .long)),
  (⟨"StruckColours", "faultOfShips", "(I)I"⟩, prog_1_method_52_code, 4, (some .int)),
  (⟨"StruckColours", "standsInShips", "(I)Z"⟩, prog_1_method_53_code, 3, (some .boolean)),
  (⟨"StruckColours", "readsOtherRule", "()I"⟩, prog_1_method_54_code, 2, (some .int)),
  (⟨"StruckColours", "faultOfWar", "(I)I"⟩, prog_1_method_55_code, 5, (some .int)),
  (⟨"StruckColours", "standsInAct", "(CIC)Z"⟩, prog_1_method_56_code, 3, (some .boolean)),
  (⟨"StruckColours", "lengthOfAct", "(C)I"⟩, prog_1_method_57_code, 1, (some .int)),
  (⟨"StruckColours", "acts", "(I)Z"⟩, prog_1_method_58_code, 4, (some .boolean)),
  (⟨"StruckColours", "isDigit", "(C)Z"⟩, prog_1_method_59_code, 1, (some .boolean)),
  (⟨"StruckColours", "isSideSign", "(C)Z"⟩, prog_1_method_60_code, 1, (some .boolean)),
  (⟨"StruckColours", "isSide", "(I)Z"⟩, prog_1_method_61_code, 1, (some .boolean)),
  (⟨"StruckColours", "entry", "(II)I"⟩, prog_1_method_62_code, 2, (some .int)),
  (⟨"StruckColours", "keptUnder", "(I)LStruckColours$Sea;"⟩, prog_1_method_63_code, 2, (some (.object "StruckColours$Sea"))),
  (⟨"StruckColours", "isTempted", "(III)Z"⟩, prog_1_method_64_code, 4, (some .boolean)),
  (⟨"StruckColours", "tellsFights", "(I)I"⟩, prog_1_method_65_code, 3, (some .int)),
  (⟨"StruckColours", "firstPairFights", "()V"⟩, prog_1_method_66_code, 3, none),
  (⟨"StruckColours", "lesserWins", "(LStruckColours$Rule;)I"⟩, prog_1_method_67_code, 5, (some .int)),
  (⟨"StruckColours", "yearGoesBy", "()V"⟩, prog_1_method_68_code, 3, none),
  (⟨"StruckColours", "draws", "(I)I"⟩, prog_1_method_69_code, 2, (some .int)),
  (⟨"StruckColours", "strangePartsOfAll", "()I"⟩, prog_1_method_70_code, 3, (some .int)),
  (⟨"StruckColours", "wholeShips", "()I"⟩, prog_1_method_71_code, 3, (some .int)),
  (⟨"StruckColours", "shipsWith", "(I)I"⟩, prog_1_method_72_code, 4, (some .int)),
  (⟨"StruckColours", "mostSeen", "(I)I"⟩, prog_1_method_73_code, 1, (some .int)),
  (⟨"StruckColours", "fittingShips", "()I"⟩, prog_1_method_74_code, 3, (some .int)),
  (⟨"StruckColours", "fitsAll", "(I)Z"⟩, prog_1_method_75_code, 3, (some .boolean)),
  (⟨"StruckColours", "fitsSight", "(III)Z"⟩, prog_1_method_76_code, 4, (some .boolean)),
  (⟨"StruckColours", "isCold", "(II)Z"⟩, prog_1_method_77_code, 2, (some .boolean)),
  (⟨"StruckColours", "isContent", "(III)Z"⟩, prog_1_method_78_code, 5, (some .boolean)),
  (⟨"StruckColours", "gain", "(III)I"⟩, prog_1_method_79_code, 4, (some .int)),
  (⟨"StruckColours", "factorial", "(I)I"⟩, prog_1_method_80_code, 1, (some .int)),
  (⟨"StruckColours", "power", "(II)J"⟩, prog_1_method_81_code, 5, (some .long)),
  (⟨"StruckColoursModel", "<init>", "()V"⟩, prog_11_method_1_code, 1, none),
  (⟨"StruckColoursModel", "thrown", "()I"⟩, prog_11_method_2_code, 1, (some .int)),
  (⟨"StruckColoursModel", "in", "(III)Z"⟩, prog_11_method_3_code, 3, (some .boolean)),
  (⟨"StruckColoursModel", "has", "(II)Z"⟩, prog_11_method_4_code, 2, (some .boolean)),
  (⟨"StruckColoursModel", "lost", "()I"⟩, prog_11_method_5_code, 1, (some .int)),
  (⟨"StruckColoursModel", "tell", "(J)V"⟩, prog_11_method_6_code, 3, none),
  (⟨"StruckColoursModel", "isShip", "(I)Z"⟩, prog_11_method_7_code, 2, (some .boolean)),
  (⟨"StruckColoursModel", "areTwo", "(II)Z"⟩, prog_11_method_8_code, 3, (some .boolean)),
  (⟨"StruckColoursModel", "isSide", "(I)Z"⟩, prog_11_method_9_code, 1, (some .boolean)),
  (⟨"StruckColoursModel", "all", "()I"⟩, prog_11_method_10_code, 1, (some .int)),
  (⟨"StruckColoursModel", "part", "([III)I"⟩, prog_11_method_11_code, 3, (some .int)),
  (⟨"StruckColoursModel", "own", "([II)I"⟩, prog_11_method_12_code, 2, (some .int)),
  (⟨"StruckColoursModel", "sign", "(I)I"⟩, prog_11_method_13_code, 3, (some .int)),
  (⟨"StruckColoursModel", "end", "(I)Z"⟩, prog_11_method_14_code, 2, (some .boolean)),
  (⟨"StruckColoursModel", "begin", "([BII)V"⟩, prog_11_method_15_code, 4, none),
  (⟨"StruckColoursModel", "beginText", "(I)V"⟩, prog_11_method_16_code, 2, none),
  (⟨"StruckColoursModel", "here", "()I"⟩, prog_11_method_17_code, 1, (some .int)),
  (⟨"StruckColoursModel", "fine", "()Z"⟩, prog_11_method_18_code, 1, (some .boolean)),
  (⟨"StruckColoursModel", "fault", "(I)V"⟩, prog_11_method_19_code, 2, none),
  (⟨"StruckColoursModel", "passes", "(C)Z"⟩, prog_11_method_20_code, 2, (some .boolean)),
  (⟨"StruckColoursModel", "need", "(C)V"⟩, prog_11_method_21_code, 2, none),
  (⟨"StruckColoursModel", "oneOf", "(CI)I"⟩, prog_11_method_22_code, 3, (some .int)),
  (⟨"StruckColoursModel", "number", "(I)I"⟩, prog_11_method_23_code, 4, (some .int)),
  (⟨"StruckColoursModel", "wasRight", "()Z"⟩, prog_11_method_24_code, 1, (some .boolean)),
  (⟨"StruckColoursModel", "ships", "()I"⟩, prog_11_method_25_code, 5, (some .int)),
  (⟨"StruckColoursModel", "held", "(I)I"⟩, prog_11_method_26_code, 3, (some .int)),
  (⟨"StruckColoursModel", "sum", "(I)I"⟩, prog_11_method_27_code, 5, (some .int)),
  (⟨"StruckColoursModel", "product", "(I)I"⟩, prog_11_method_28_code, 5, (some .int)),
  (⟨"StruckColoursModel", "letterOf", "(I)I"⟩, prog_11_method_29_code, 1, (some .int)),
  (⟨"StruckColoursModel", "thing", "(I)I"⟩, prog_11_method_30_code, 4, (some .int)),
  (⟨"StruckColoursModel", "readRule", "()Z"⟩, prog_11_method_31_code, 1, (some .boolean)),
  (⟨"StruckColoursModel", "rule", "()I"⟩, prog_11_method_32_code, 3, (some .int)),
  (⟨"StruckColoursModel", "forceOf", "([III)I"⟩, prog_11_method_33_code, 6, (some .int)),
  (⟨"StruckColoursModel", "ship", "(II)I"⟩, prog_11_method_34_code, 3, (some .int)),
  (⟨"StruckColoursModel", "force", "(II)I"⟩, prog_11_method_35_code, 3, (some .int)),
  (⟨"StruckColoursModel", "take", "(I)I"⟩, prog_11_method_36_code, 3, (some .int)),
  (⟨"StruckColoursModel", "sumOf", "([II)I"⟩, prog_11_method_37_code, 5, (some .int)),
  (⟨"StruckColoursModel", "sheet", "(IIII)I"⟩, prog_11_method_38_code, 8, (some .int)),
  (⟨"StruckColoursModel", "lay", "([I[II)V"⟩, prog_11_method_39_code, 4, none),
  (⟨"StruckColoursModel", "remember", "([I)V"⟩, prog_11_method_40_code, 3, none),
  (⟨"StruckColoursModel", "goOver", "([II)V"⟩, prog_11_method_41_code, 4, none),
  (⟨"StruckColoursModel", "winnerOf", "([III)I"⟩, prog_11_method_42_code, 5, (some .int)),
  (⟨"StruckColoursModel", "goFight", "([III)I"⟩, prog_11_method_43_code, 8, (some .int)),
  (⟨"StruckColoursModel", "fight", "(II)I"⟩, prog_11_method_44_code, 4, (some .int)),
  (⟨"StruckColoursModel", "mend", "([II)V"⟩, prog_11_method_45_code, 5, none),
  (⟨"StruckColoursModel", "goDay", "([I)V"⟩, prog_11_method_46_code, 3, none),
  (⟨"StruckColoursModel", "goDays", "([II)V"⟩, prog_11_method_47_code, 4, none),
  (⟨"StruckColoursModel", "partsOfAll", "([II)I"⟩, prog_11_method_48_code, 5, (some .int)),
  (⟨"StruckColoursModel", "days", "(I)I"⟩, prog_11_method_49_code, 3, (some .int)),
  (⟨"StruckColoursModel", "refusesSewing", "([IIII)I"⟩, prog_11_method_50_code, 5, (some .int)),
  (⟨"StruckColoursModel", "goSewing", "([IIII)V"⟩, prog_11_method_51_code, 4, none),
  (⟨"StruckColoursModel", "sews", "(III)I"⟩, prog_11_method_52_code, 5, (some .int)),
  (⟨"StruckColoursModel", "refusesYielding", "(II)I"⟩, prog_11_method_53_code, 3, (some .int)),
  (⟨"StruckColoursModel", "goYielding", "(II)V"⟩, prog_11_method_54_code, 4, none),
  (⟨"StruckColoursModel", "yields", "(II)I"⟩, prog_11_method_55_code, 5, (some .int)),
  (⟨"StruckColoursModel", "war", "()I"⟩, prog_11_method_56_code, 3, (some .int)),
  (⟨"StruckColoursModel", "readAct", "(I)V"⟩, prog_11_method_57_code, 3, none),
  (⟨"StruckColoursModel", "act", "(I)Z"⟩, prog_11_method_58_code, 4, (some .boolean)),
  (⟨"StruckColoursModel", "undo", "()I"⟩, prog_11_method_59_code, 2, (some .int)),
  (⟨"StruckColoursModel", "fleet", "(I)I"⟩, prog_11_method_60_code, 5, (some .int)),
  (⟨"StruckColoursModel", "common", "(JJ)J"⟩, prog_11_method_61_code, 4, (some .long)),
  (⟨"StruckColoursModel", "tellPart", "(JJ)V"⟩, prog_11_method_62_code, 7, none),
  (⟨"StruckColoursModel", "share", "(I)I"⟩, prog_11_method_63_code, 2, (some .int)),
  (⟨"StruckColoursModel", "later", "(II)I"⟩, prog_11_method_64_code, 4, (some .int)),
  (⟨"StruckColoursModel", "wholeOf", "([II)I"⟩, prog_11_method_65_code, 3, (some .int)),
  (⟨"StruckColoursModel", "whole", "(I)I"⟩, prog_11_method_66_code, 3, (some .int)),
  (⟨"StruckColoursModel", "sisters", "()I"⟩, prog_11_method_67_code, 8, (some .int)),
  (⟨"StruckColoursModel", "motley", "()I"⟩, prog_11_method_68_code, 4, (some .int)),
  (⟨"StruckColoursModel", "order", "(I)I"⟩, prog_11_method_69_code, 5, (some .int)),
  (⟨"StruckColoursModel", "rivals", "(I)I"⟩, prog_11_method_70_code, 7, (some .int)),
  (⟨"StruckColoursModel", "duel", "(III)I"⟩, prog_11_method_71_code, 8, (some .int)),
  (⟨"StruckColoursModel", "tempts", "(I)I"⟩, prog_11_method_72_code, 6, (some .int)),
  (⟨"StruckColoursModel", "wins", "(II)I"⟩, prog_11_method_73_code, 4, (some .int)),
  (⟨"StruckColoursModel", "suits", "(II)I"⟩, prog_11_method_74_code, 6, (some .int)),
  (⟨"StruckColoursModel", "layDeep", "(I)V"⟩, prog_11_method_75_code, 3, none),
  (⟨"StruckColoursModel", "isSo", "(II)Z"⟩, prog_11_method_76_code, 4, (some .boolean)),
  (⟨"StruckColoursModel", "canBe", "(IIII)Z"⟩, prog_11_method_77_code, 7, (some .boolean)),
  (⟨"StruckColoursModel", "fewest", "(II)I"⟩, prog_11_method_78_code, 5, (some .int)),
  (⟨"StruckColoursModel", "goesOver", "(II)I"⟩, prog_11_method_79_code, 3, (some .int)),
  (⟨"StruckColoursModel", "peace", "()I"⟩, prog_11_method_80_code, 1, (some .int)),
  (⟨"StruckColoursModel", "goRound", "([I)V"⟩, prog_11_method_81_code, 4, none),
  (⟨"StruckColoursModel", "campaign", "(I)I"⟩, prog_11_method_82_code, 3, (some .int)),
  (⟨"StruckColoursModel", "halves", "(I)I"⟩, prog_11_method_83_code, 6, (some .int)),
  (⟨"StruckColoursModel", "strengthOf", "(I)I"⟩, prog_11_method_84_code, 4, (some .int)),
  (⟨"StruckColoursModel", "evens", "()I"⟩, prog_11_method_85_code, 4, (some .int)),
  (⟨"StruckColoursModel", "orders", "(I)J"⟩, prog_11_method_86_code, 1, (some .long)),
  (⟨"StruckColoursModel", "worth", "(I)I"⟩, prog_11_method_87_code, 6, (some .int)),
  (⟨"StruckColoursModel", "patched", "(II)I"⟩, prog_11_method_88_code, 6, (some .int)),
  (⟨"StruckColoursModel", "seen", "(II)I"⟩, prog_11_method_89_code, 4, (some .int)),
  (⟨"StruckColoursModel", "forget", "()I"⟩, prog_11_method_90_code, 2, (some .int)),
  (⟨"StruckColoursModel", "fits", "(III)Z"⟩, prog_11_method_91_code, 4, (some .boolean)),
  (⟨"StruckColoursModel", "fitting", "()I"⟩, prog_11_method_92_code, 5, (some .int)),
  (⟨"StruckColoursModel", "fits", "()I"⟩, prog_11_method_93_code, 2, (some .int)),
  (⟨"StruckColoursModel", "looks", "()I"⟩, prog_11_method_94_code, 7, (some .int)),
  (⟨"StruckColoursModel", "told", "(III)I"⟩, prog_11_method_95_code, 4, (some .int)),
  (⟨"StruckColoursModel", "deny", "()I"⟩, prog_11_method_96_code, 2, (some .int)),
  (⟨"StruckColoursModel", "goesBy", "(IIII)Z"⟩, prog_11_method_97_code, 4, (some .boolean)),
  (⟨"StruckColoursModel", "isLaw", "(II)Z"⟩, prog_11_method_98_code, 4, (some .boolean)),
  (⟨"StruckColoursModel", "laws", "()I"⟩, prog_11_method_99_code, 4, (some .int)),
  (⟨"StruckColoursModel", "leftBy", "(II)I"⟩, prog_11_method_100_code, 7, (some .int)),
  (⟨"StruckColoursModel", "asks", "()I"⟩, prog_11_method_101_code, 6, (some .int)),
  (⟨"StruckColoursModel", "isLost", "(II)Z"⟩, prog_11_method_102_code, 3, (some .boolean)),
  (⟨"StruckColoursModel", "bestMove", "(II)I"⟩, prog_11_method_103_code, 5, (some .int)),
  (⟨"StruckColoursModel", "treaty", "(II)I"⟩, prog_11_method_104_code, 5, (some .int)),
  (⟨"StruckColoursModel", "power", "(JI)J"⟩, prog_11_method_105_code, 6, (some .long)),
  (⟨"StruckColoursModel", "series", "(III)I"⟩, prog_11_method_106_code, 10, (some .int)),
  (⟨"StruckColoursModel", "gets", "(III)I"⟩, prog_11_method_107_code, 3, (some .int)),
  (⟨"StruckColoursModel", "isBest", "(III)Z"⟩, prog_11_method_108_code, 4, (some .boolean)),
  (⟨"StruckColoursModel", "rests", "(I)I"⟩, prog_11_method_109_code, 5, (some .int)),
  (⟨"StruckColoursModel", "lesserWins", "()I"⟩, prog_11_method_110_code, 4, (some .int)),
  (⟨"StruckColoursModel", "law", "()I"⟩, prog_11_method_111_code, 6, (some .int)),
  (⟨"StruckColoursModel", "draw", "(I)I"⟩, prog_11_method_112_code, 2, (some .int)),
  (⟨"StruckColoursModel", "years", "(II)I"⟩, prog_11_method_113_code, 7, (some .int)),
  (⟨"StruckColoursModel", "keep", "(I)Z"⟩, prog_11_method_114_code, 2, (some .boolean)),
  (⟨"StruckColoursModel", "again", "(I)Z"⟩, prog_11_method_115_code, 3, (some .boolean)),
  (⟨"StruckColoursModel", "foreign", "()I"⟩, prog_11_method_116_code, 3, (some .int)),
  (⟨"StruckColoursModel", "wholes", "()I"⟩, prog_11_method_117_code, 3, (some .int)),
  (⟨"StruckColoursModel", "count", "(I)I"⟩, prog_11_method_118_code, 2, (some .int)),
  (⟨"StruckColoursModel", "row", "(I)J"⟩, prog_11_method_119_code, 2, (some .long)),
  (⟨"java/lang/Integer", "compare", "(II)I"⟩, prog_14_method_40_code, 2, (some .int)),
  (⟨"java/lang/Integer", "bitCount", "(I)I"⟩, prog_14_method_49_code, 1, (some .int)),
  (⟨"java/lang/Math", "floorMod", "(II)I"⟩, prog_15_method_50_code, 3, (some .int)),
  (⟨"java/lang/Math", "abs", "(I)I"⟩, prog_15_method_59_code, 1, (some .int)),
  (⟨"java/lang/Math", "max", "(II)I"⟩, prog_15_method_65_code, 2, (some .int)),
  (⟨"java/lang/Math", "min", "(II)I"⟩, prog_15_method_69_code, 2, (some .int)),
  (⟨"StruckColoursLaw", "ship", "(LStruckColours;II[J)I"⟩, method_3_code, 5, (some .int)),
  (⟨"StruckColoursLaw", "row", "(LStruckColours;I[J)I"⟩, method_4_code, 4, (some .int)),
  (⟨"StruckColoursLaw", "law", "([I)Z"⟩, code, 8, (some .boolean))]
def mDef : MethodName × ByteArray × Nat × Option FieldType := (⟨"", "", ""⟩, ⟨#[]⟩, 0, none)
def mN (e : Nat) : MethodName := (MTL.getD e mDef).1
def mC (e : Nat) : ByteArray := (MTL.getD e mDef).2.1
def mL (e : Nat) : Nat := (MTL.getD e mDef).2.2.1
def mR (e : Nat) : Option FieldType := (MTL.getD e mDef).2.2.2
end
section
/-! the judgements: a frame of method e (Wp), a call of it (WPc) -/
def ALL : List Cond := lw_tbl.filter goodWord
def isNest (w : Cond) : Bool := match w with
  | .fieldLinkNest .. => true
  | .methodLinkNest .. => true
  | _ => false
def nestW : List Cond := tables_1.filter isNest
def wsM (e : Nat) : List Cond := .code (mN e) (mC e) (mL e) (mR e) :: ALL
theorem nest_warm {w : Cond} (hw : isNest w = true) {s U : State} (hW : s.WarmedH U.vm) (h : va_Nw w s) : va_Nw w U := by
  cases w with
  | fieldLinkNest a i b n d h' => exact va_Nw.warmF hW h
  | methodLinkNest a i x h' => exact va_Nw.warmM hW h
  | _ => cases hw
theorem nest_tab {w : Cond} (hw : isNest w = true) : w.onTables = true := by
  cases w with
  | fieldLinkNest a i b n d h' => rfl
  | methodLinkNest a i x h' => rfl
  | _ => cases hw
/-! static arrays: 2 PLAIN_RULE, 3 FACTORIALS, 4 COLD, 5 the script -/
def sTy (i : Nat) : Nat := if i = 2 then 4 else 0
def sLen (g : GE) (i : Nat) : Nat := if i = 5 then gL g else if i = 4 then 31 else 7
def stL (i : Nat) : List Int := if i = 2 then [115, 42, 50, 43, 111, 45, 101] else if i = 3 then [1, 1, 2, 6, 24, 120, 720] else [0, 2, 1, 5, 7, 3, 10, 4, 13, 15, 6, 18, 20, 8, 23, 9, 26, 28, 11, 31, 12, 34, 36, 14, 39, 41, 16, 44, 17, 47, 49]
def sCt (g : GE) (i j : Nat) : Int := if i = 5 then gX g j else (stL i).getD j 0
def sNm (i : Nat) : String × String := if i = 2 then ("PLAIN_RULE", "[C") else if i = 3 then ("FACTORIALS", "[I") else ("COLD", "[I")
/-- what stays: the tables' words, classes, static arrays -/
def KF (g : GE) (s : State) : Prop :=
  va_K (gD g) vwCl (tyL g) s ∧ (∀ w ∈ nestW, va_Nw w s) ∧ va_AO "StruckColours$Sea" s ∧
  (∀ i, 2 ≤ i → i ≤ 5 → va_T (tyF (sTy i)) (gS g i) (sLen g i) (fun j => .int (Int32.ofInt (sCt g i j))) (Ag g) s s.heap) ∧
  (∀ i, 2 ≤ i → i ≤ 4 → va_Z "StruckColours" (sNm i).1 (sNm i).2 (.ref (gS g i)) (Ag g) s s.heap) ∧
  (∀ i j, b32 (sCt g i j)) ∧ gL g < 2147483648
theorem KF.go {g : GE} {s U : State} {locs : List Loc} (h : KF g s) (hW : s.WarmedH U.vm) (hS : va_S (Ag g) s.heap U.heap locs) : KF g U := by
  obtain ⟨h1, h2, h3, h4, h5, h6, h7⟩ := h
  refine ⟨va_K.moved hW.alike h1, fun w hw => nest_warm (List.mem_filter.mp hw).2 hW (h2 w hw), va_AO.moved hW.alike h3, fun i a b => ?_, fun i a b => ?_, h6, h7⟩
  · exact ((h4 i a b).moved hW.alike).kept fun q q1 q2 => hS.2.1 q q1 q2
  · exact ((h5 i a b).moved hW.alike).kept fun q q1 q2 => hS.2.1 q q1 q2
theorem KF.same {g : GE} {s U : State} (h : KF g s) (hv : s.vm = U.vm) (hh : U.heap = s.heap) : KF g U := by
  obtain ⟨h1, h2, h3, h4, h5, h6, h7⟩ := h
  have hA : s.vm.Alike U.vm := by rw [hv]; exact Vm.Alike.refl _
  refine ⟨va_K.moved hA h1, fun w hw => va_Nw.same (nest_tab (List.mem_filter.mp hw).2) hv (h2 w hw), va_AO.moved hA h3, fun i a b => ?_, fun i a b => ?_, h6, h7⟩
  · rw [hh]; exact (h4 i a b).moved hA
  · rw [hh]; exact (h5 i a b).moved hA
def CxF (g : GE) (e : Nat) (p : Program) (s : State) (m : MethodId) (args : Array Value) (meth : Method) (c : Code) : Prop :=
  p.tables.exec = Jvm.exec ∧ c.code = mC e ∧ meth.sig.returnType = mR e ∧ c.maxLocals = mL e ∧ s.vm.findClass (mN e).cls = some m.cls ∧ (∀ w ∈ ALL, w.before args s = true) ∧ meth.locks = false ∧ meth.name = (mN e).name ∧ KF g s
def okTs (st : List TV) : Prop := ∀ v ∈ st, okT v
def okLs (ls : List (Nat × TV)) : Prop := ∀ q ∈ ls, okT q.2
def cvL (g : GE) (ls : List (Nat × TV)) : List (Nat × Value) := ls.map fun q => (q.1, cv g q.2)
/-- which instruction returns which value -/
def rOK (e : Nat) (i : Instr) (v : Option TV) : Prop := match mR e, v with
  | none, none => i = .return_
  | some .int, some (.inl _) => i = .ireturn
  | some .boolean, some (.inl x) => i = .ireturn ∧ (x = 0 ∨ x = 1)
  | some .char, some (.inl x) => i = .ireturn ∧ 0 ≤ x ∧ x < 65536
  | some .long, some (.inr (.inl _)) => i = .lreturn
  | some (.object _), some (.inr (.inr _)) => i = .areturn
  | _, _ => False
abbrev Post : Type := Option TV → Tau → Mem → Prop
def okO (v : Option TV) : Prop := ∀ x, v = some x → okT x
def RetK (l : Launch) (g : GE) (e : Nat) (Q : Post) (tc ts : Nat) (p : Program) (en : Env) (R : Room) (s : State) (m : MethodId) (args : Array Value) (below : List Frame) (meth : Method) (c : Code) (QM : State → Prop) : Prop :=
  ∀ (v : Option TV) (t : Tau) (σ : Mem) (H : Heap) (locs : List Loc) (cells slots : Nat) (lsA : Array Slot) (pc : Nat) (i : Instr),
    Q v t σ → okO v → Hld g t σ H → va_S (Ag g) s.heap H locs → cells ≤ tc → slots ≤ ts → (gB g = true → s.heap.size + tc ≤ gO g + t.length) → decode (mC e) pc = .ok (i, 1) → rOK e i v →
    W p l en R s m args below meth c H locs cells slots QM (F0 m pc lsA (v.toList.map (cv g)))
def Wp (l : Launch) (g : GE) (e d kc ks pc : Nat) (ls : List (Nat × TV)) (st : List TV) (t : Tau) (σ : Mem) (Q : Post) : Prop :=
  ∀ (p : Program) (en : Env) (R : Room) (s : State) (m : MethodId) (args : Array Value) (below : List Frame) (meth : Method) (c : Code) (H : Heap) (locs : List Loc) (cells slots : Nat) (QM : State → Prop) (lsA : Array Slot),
    CxF g e p s m args meth c → d ≤ R.frames → 64 * d ≤ R.locals → cells + kc ≤ R.cells → slots + ks ≤ R.slots →
    Hld g t σ H → va_S (Ag g) s.heap H locs → (gO g ≤ s.heap.size ∧ (gB g = true → s.heap.size + cells ≤ gO g + t.length)) → lv_has lsA (mL e) (cvL g ls) → okLs ls → okTs st →
    RetK l g e Q (cells + kc) (slots + ks) p en R s m args below meth c QM →
    W p l en R s m args below meth c H locs cells slots QM (F0 m pc lsA (st.map (cv g)))
def PcM (g : GE) (as : List TV) (t : Tau) (σ : Mem) : Array Value → State → Prop := fun a U => a = (as.map (cv g)).toArray ∧ okTs as ∧ KF g U ∧ Hld g t σ U.heap ∧ gO g ≤ U.heap.size ∧ (gB g = true → U.heap.size ≤ gO g + t.length)
def QcM (g : GE) (kc : Nat) (Q : Post) : Array Value → State → Outcome → State → Prop := fun _ st oc u =>
  ∃ (v : Option TV) (t : Tau) (σ : Mem), oc = .returned (v.map (cv g)) ∧ Q v t σ ∧ okO v ∧ Hld g t σ u.heap ∧ va_F (Ag g) st u ∧ (gB g = true → st.heap.size + kc ≤ gO g + t.length)
def rmD (d kc ks : Nat) : Room := { frames := d, cells := kc, slots := ks, locals := 64 * d }
def WPc (l : Launch) (g : GE) (e d kc ks : Nat) (as : List TV) (t : Tau) (σ : Mem) (Q : Post) : Prop :=
  Met l (mN e) (wsM e) (rmD d kc ks) (PcM g as t σ) (QcM g kc Q) kc ks (Ag g)
theorem PcM_blind (g : GE) (as : List TV) (t : Tau) (σ : Mem) : FrameBlind (PcM g as t σ) := by
  intro a U g' mk ⟨h1, h2, h3, h4, h5⟩
  exact ⟨h1, h2, h3.same rfl rfl, h4, h5⟩
/-! locals -/
def lget (i : Nat) : List (Nat × TV) → Option TV
  | [] => none
  | (j, v) :: r => if i = j then some v else lget i r
def lins (i : Nat) (v : TV) : List (Nat × TV) → List (Nat × TV)
  | [] => [(i, v)]
  | (j, w) :: r => if i < j then (i, v) :: (j, w) :: r else (j, w) :: lins i v r
def ldel (i : Nat) : List (Nat × TV) → List (Nat × TV)
  | [] => []
  | (j, w) :: r => if i = j ∨ (j + 1 = i ∧ catT w = 2) then ldel i r else (j, w) :: ldel i r
def ldel2 (i : Nat) : List (Nat × TV) → List (Nat × TV)
  | [] => []
  | (j, w) :: r => if i = j ∨ j = i + 1 ∨ (j + 1 = i ∧ catT w = 2) then ldel2 i r else (j, w) :: ldel2 i r
def lset (i : Nat) (v : TV) (ls : List (Nat × TV)) : List (Nat × TV) := lins i v (if catT v = 2 then ldel2 i ls else ldel i ls)
def lkeep (ks : List Nat) : List (Nat × TV) → List (Nat × TV)
  | [] => []
  | (j, w) :: r => if j ∈ ks then (j, w) :: lkeep ks r else lkeep ks r
theorem lget_mem {i : Nat} {v : TV} : ∀ {ls : List (Nat × TV)}, lget i ls = some v → (i, v) ∈ ls
  | [], h => by cases h
  | (j, w) :: r, h => by
    unfold lget at h
    split at h
    · rename_i hij
      cases h
      rw [hij]
      exact List.mem_cons_self
    · exact List.mem_cons_of_mem _ (lget_mem h)
theorem lins_mem {i : Nat} {v : TV} {q : Nat × TV} : ∀ {ls : List (Nat × TV)}, q ∈ lins i v ls → q = (i, v) ∨ q ∈ ls
  | [], h => by
    simp only [lins, List.mem_singleton] at h
    exact Or.inl h
  | (j, w) :: r, h => by
    unfold lins at h
    split at h
    · rcases List.mem_cons.mp h with h | h
      · exact Or.inl h
      · exact Or.inr h
    · rcases List.mem_cons.mp h with h | h
      · exact Or.inr (h ▸ List.mem_cons_self)
      · rcases lins_mem h with h | h
        · exact Or.inl h
        · exact Or.inr (List.mem_cons_of_mem _ h)
theorem ldel_mem {i : Nat} {q : Nat × TV} : ∀ {ls : List (Nat × TV)}, q ∈ ldel i ls → q ∈ ls ∧ q.1 ≠ i ∧ ¬ (q.1 + 1 = i ∧ catT q.2 = 2)
  | [], h => by cases h
  | (j, w) :: r, h => by
    unfold ldel at h
    split at h
    · exact ⟨List.mem_cons_of_mem _ (ldel_mem h).1, (ldel_mem h).2⟩
    · rename_i hc
      rcases List.mem_cons.mp h with h | h
      · subst h
        exact ⟨List.mem_cons_self, fun z => hc (Or.inl z.symm), fun z => hc (Or.inr z)⟩
      · exact ⟨List.mem_cons_of_mem _ (ldel_mem h).1, (ldel_mem h).2⟩
theorem ldel2_mem {i : Nat} {q : Nat × TV} : ∀ {ls : List (Nat × TV)}, q ∈ ldel2 i ls → q ∈ ls ∧ q.1 ≠ i ∧ q.1 ≠ i + 1 ∧ ¬ (q.1 + 1 = i ∧ catT q.2 = 2)
  | [], h => by cases h
  | (j, w) :: r, h => by
    unfold ldel2 at h
    split at h
    · exact ⟨List.mem_cons_of_mem _ (ldel2_mem h).1, (ldel2_mem h).2⟩
    · rename_i hc
      rcases List.mem_cons.mp h with h | h
      · subst h
        exact ⟨List.mem_cons_self, fun z => hc (Or.inl z.symm), fun z => hc (Or.inr (Or.inl z)), fun z => hc (Or.inr (Or.inr z))⟩
      · exact ⟨List.mem_cons_of_mem _ (ldel2_mem h).1, (ldel2_mem h).2⟩
theorem lkeep_mem {ks : List Nat} {q : Nat × TV} : ∀ {ls : List (Nat × TV)}, q ∈ lkeep ks ls → q ∈ ls
  | [], h => by cases h
  | (j, w) :: r, h => by
    unfold lkeep at h
    split at h
    · rcases List.mem_cons.mp h with h | h
      · exact h ▸ List.mem_cons_self
      · exact List.mem_cons_of_mem _ (lkeep_mem h)
    · exact List.mem_cons_of_mem _ (lkeep_mem h)
theorem lv_has_sub {ls : Array Slot} {n : Nat} {l l' : List (Nat × Value)} (h : lv_has ls n l) (hs : ∀ q ∈ l', q ∈ l) : lv_has ls n l' := ⟨h.1, h.2.1, fun q hq => h.2.2 q (hs q hq)⟩
theorem cvL_mem {g : GE} {ls : List (Nat × TV)} {i : Nat} {v : TV} (h : (i, v) ∈ ls) : (i, cv g v) ∈ cvL g ls := List.mem_map.mpr ⟨(i, v), h, rfl⟩
theorem lv_get {g : GE} {lsA : Array Slot} {n i : Nat} {ls : List (Nat × TV)} {v : TV} (h : lv_has lsA n (cvL g ls)) (hv : lget i ls = some v) : lsA[i]? = some (.val (cv g v)) := h.2.2 (i, cv g v) (cvL_mem (lget_mem hv))
/-- behind a store of a value of one slot -/
theorem lv_put1 {g : GE} {lsA : Array Slot} {n i : Nat} {ls : List (Nat × TV)} {v : TV} (hc : catT v = 1) (h : lv_has lsA n ((i, cv g v) :: (cvL g ls).filter (fun q => !(q.1 == i) && !(q.1 + 1 == i && q.2.category == 2)))) : lv_has lsA n (cvL g (lset i v ls)) := by
  refine lv_has_sub h fun q hq => ?_
  obtain ⟨r, hr, rfl⟩ := List.mem_map.mp hq
  unfold lset at hr
  rw [if_neg (by rw [hc]; decide)] at hr
  rcases lins_mem hr with h1 | h1
  · rw [h1]; exact List.mem_cons_self
  · obtain ⟨h2, h3, h4⟩ := ldel_mem h1
    refine List.mem_cons_of_mem _ (List.mem_filter.mpr ⟨List.mem_map.mpr ⟨r, h2, rfl⟩, ?_⟩)
    simp only [cv_cat, Bool.and_eq_true, Bool.not_eq_true', beq_eq_false_iff_ne, ne_eq, Bool.and_eq_false_iff]
    exact ⟨h3, by by_cases z : r.1 + 1 = i
                  · exact Or.inr (fun y => h4 ⟨z, y⟩)
                  · exact Or.inl z⟩
theorem lv_put2 {g : GE} {lsA : Array Slot} {n i : Nat} {ls : List (Nat × TV)} {v : TV} (hc : catT v = 2) (h : lv_has lsA n ((i, cv g v) :: (cvL g ls).filter (fun q => !(q.1 == i) && (!(q.1 == i + 1) && !(q.1 + 1 == i && q.2.category == 2))))) : lv_has lsA n (cvL g (lset i v ls)) := by
  refine lv_has_sub h fun q hq => ?_
  obtain ⟨r, hr, rfl⟩ := List.mem_map.mp hq
  unfold lset at hr
  rw [if_pos hc] at hr
  rcases lins_mem hr with h1 | h1
  · rw [h1]; exact List.mem_cons_self
  · obtain ⟨h2, h3, h5, h4⟩ := ldel2_mem h1
    refine List.mem_cons_of_mem _ (List.mem_filter.mpr ⟨List.mem_map.mpr ⟨r, h2, rfl⟩, ?_⟩)
    simp only [cv_cat, Bool.and_eq_true, Bool.not_eq_true', beq_eq_false_iff_ne, ne_eq, Bool.and_eq_false_iff]
    exact ⟨h3, h5, by by_cases z : r.1 + 1 = i
                      · exact Or.inr (fun y => h4 ⟨z, y⟩)
                      · exact Or.inl z⟩
theorem okLs_set {ls : List (Nat × TV)} {i : Nat} {v : TV} (h : okLs ls) (hv : okT v) : okLs (lset i v ls) := by
  intro q hq
  unfold lset at hq
  rcases lins_mem hq with h1 | h1
  · rw [h1]; exact hv
  · split at h1
    · exact h q (ldel2_mem h1).1
    · exact h q (ldel_mem h1).1
theorem okLs_get {ls : List (Nat × TV)} {i : Nat} {v : TV} (h : okLs ls) (hv : lget i ls = some v) : okT v := h (i, v) (lget_mem hv)
theorem okTs_cons {v : TV} {st : List TV} (hv : okT v) (h : okTs st) : okTs (v :: st) := fun q hq => by
  rcases List.mem_cons.mp hq with h1 | h1
  · rw [h1]; exact hv
  · exact h q h1
theorem okTs_tl {v : TV} {st : List TV} (h : okTs (v :: st)) : okTs st := fun q hq => h q (List.mem_cons_of_mem _ hq)
theorem okTs_hd {v : TV} {st : List TV} (h : okTs (v :: st)) : okT v := h v List.mem_cons_self
end
section
/-! a rule for each instruction -/
section RUL
variable {l : Launch} {g : GE} {e d kc ks pc : Nat} {ls : List (Nat × TV)} {st : List TV} {t : Tau} {σ : Mem} {Q : Post}
theorem r_pure {pc' : Nat} {st' : List TV} (k : Wp l g e d kc ks pc' ls st' t σ Q) (hok : okTs st → okTs st')
    (hw : ∀ (p : Program) (en : Env) (R : Room) (s : State) (m : MethodId) (args : Array Value) (below : List Frame) (meth : Method) (c : Code) (H : Heap) (locs : List Loc) (cells slots : Nat) (QM : State → Prop) (lsA : Array Slot), CxF g e p s m args meth c → okTs st →
      W p l en R s m args below meth c H locs cells slots QM (F0 m pc' lsA (st'.map (cv g))) → W p l en R s m args below meth c H locs cells slots QM (F0 m pc lsA (st.map (cv g)))) : Wp l g e d kc ks pc ls st t σ Q := by
  intro p en R s m args below meth c H locs cells slots QM lsA hC h1 h2 h3 h4 hH hS hO hl hol hos hr
  exact hw p en R s m args below meth c H locs cells slots QM lsA hC hos (k p en R s m args below meth c H locs cells slots QM lsA hC h1 h2 h3 h4 hH hS hO hl hol (hok hos) hr)
theorem r_lift {pc' pc'' : Nat} {st' st'' : List TV} {A B : Prop} (k1 : A → Wp l g e d kc ks pc' ls st' t σ Q) (k2 : B → Wp l g e d kc ks pc'' ls st'' t σ Q) (hok : okTs st → okTs st') (hok2 : okTs st → okTs st'')
    (hw : ∀ (p : Program) (en : Env) (R : Room) (s : State) (m : MethodId) (args : Array Value) (below : List Frame) (meth : Method) (c : Code) (H : Heap) (locs : List Loc) (cells slots : Nat) (QM : State → Prop) (lsA : Array Slot), CxF g e p s m args meth c → okTs st →
      (A → W p l en R s m args below meth c H locs cells slots QM (F0 m pc' lsA (st'.map (cv g)))) → (B → W p l en R s m args below meth c H locs cells slots QM (F0 m pc'' lsA (st''.map (cv g)))) → W p l en R s m args below meth c H locs cells slots QM (F0 m pc lsA (st.map (cv g)))) : Wp l g e d kc ks pc ls st t σ Q := by
  intro p en R s m args below meth c H locs cells slots QM lsA hC h1 h2 h3 h4 hH hS hO hl hol hos hr
  exact hw p en R s m args below meth c H locs cells slots QM lsA hC hos (fun a => k1 a p en R s m args below meth c H locs cells slots QM lsA hC h1 h2 h3 h4 hH hS hO hl hol (hok hos) hr) (fun b => k2 b p en R s m args below meth c H locs cells slots QM lsA hC h1 h2 h3 h4 hH hS hO hl hol (hok2 hos) hr)
theorem r_iconst {n : Int} (hn : b32 n) (hd : decode (mC e) pc = .ok (.iconst n, 1)) (k : Wp l g e d kc ks (pc + 1) ls (vI n :: st) t σ Q) : Wp l g e d kc ks pc ls st t σ Q :=
  r_pure k (fun h => okTs_cons hn h) (fun _ _ _ _ _ _ _ _ _ _ _ _ _ _ _ hC _ kk => lv_iconst hC.1 hC.2.1 hd rfl kk)
theorem r_bipush {n v : Int} (hn : b32 v) (hv : (Int8.ofInt n).toInt32 = Int32.ofInt v) (hd : decode (mC e) pc = .ok (.bipush n, 2)) (k : Wp l g e d kc ks (pc + 2) ls (vI v :: st) t σ Q) : Wp l g e d kc ks pc ls st t σ Q :=
  r_pure k (fun h => okTs_cons hn h) (fun _ _ _ _ _ _ _ _ _ _ _ _ _ _ _ hC _ kk => lv_bipush hC.1 hC.2.1 hd hv kk)
theorem r_sipush {n v : Int} (hn : b32 v) (hv : (Int16.ofInt n).toInt32 = Int32.ofInt v) (hd : decode (mC e) pc = .ok (.sipush n, 3)) (k : Wp l g e d kc ks (pc + 3) ls (vI v :: st) t σ Q) : Wp l g e d kc ks pc ls st t σ Q :=
  r_pure k (fun h => okTs_cons hn h) (fun _ _ _ _ _ _ _ _ _ _ _ _ _ _ _ hC _ kk => lv_sipush hC.1 hC.2.1 hd hv kk)
theorem r_lconst {n : Fin 2} {v : Int} (hn : b64 v) (hv : Int64.ofNat n = Int64.ofInt v) (hd : decode (mC e) pc = .ok (.lconst n, 1)) (k : Wp l g e d kc ks (pc + 1) ls (vL v :: st) t σ Q) : Wp l g e d kc ks pc ls st t σ Q :=
  r_pure k (fun h => okTs_cons hn h) (fun _ _ _ _ _ _ _ _ _ _ _ _ _ _ _ hC _ kk => lv_lconst hC.1 hC.2.1 hd hv kk)
theorem r_ldc {i : Nat} {v : Int} (hn : b32 v) (hw : Cond.constant (mN e).cls i (Int32.ofInt v) ∈ ALL) (hd : decode (mC e) pc = .ok (.ldc i, 2)) (k : Wp l g e d kc ks (pc + 2) ls (vI v :: st) t σ Q) : Wp l g e d kc ks pc ls st t σ Q :=
  r_pure k (fun h => okTs_cons hn h) (fun _ _ _ _ _ _ _ _ _ _ _ _ _ _ _ hC _ kk => lv_ldc hC.1 hC.2.1 hC.2.2.2.2.1 (hC.2.2.2.2.2.1 _ hw) hd kk)
theorem r_ldcw {i : Nat} {v : Int} (hn : b32 v) (hw : Cond.constant (mN e).cls i (Int32.ofInt v) ∈ ALL) (hd : decode (mC e) pc = .ok (.ldc_w i, 3)) (k : Wp l g e d kc ks (pc + 3) ls (vI v :: st) t σ Q) : Wp l g e d kc ks pc ls st t σ Q :=
  r_pure k (fun h => okTs_cons hn h) (fun _ _ _ _ _ _ _ _ _ _ _ _ _ _ _ hC _ kk => lv_ldcw hC.1 hC.2.1 hC.2.2.2.2.1 (hC.2.2.2.2.2.1 _ hw) hd kk)
theorem r_ldc2 {i : Nat} {v : Int} (hn : b64 v) (hw : Cond.constantLong (mN e).cls i (Int64.ofInt v) ∈ ALL) (hd : decode (mC e) pc = .ok (.ldc2_w i, 3)) (k : Wp l g e d kc ks (pc + 3) ls (vL v :: st) t σ Q) : Wp l g e d kc ks pc ls st t σ Q :=
  r_pure k (fun h => okTs_cons hn h) (fun _ _ _ _ _ _ _ _ _ _ _ _ _ _ _ hC _ kk => lv_ldc2 hC.1 hC.2.1 hC.2.2.2.2.1 (hC.2.2.2.2.2.1 _ hw) hd kk)
theorem r_null (hd : decode (mC e) pc = .ok (.aconst_null, 1)) (k : Wp l g e d kc ks (pc + 1) ls (vR (-1) :: st) t σ Q) : Wp l g e d kc ks pc ls st t σ Q :=
  r_pure k (fun h => okTs_cons trivial h) (fun _ _ _ _ _ _ _ _ _ _ _ _ _ _ _ hC _ kk => lv_null hC.1 hC.2.1 hd (by rw [← rf_null g]; exact kk))

theorem r_iadd {x y : Int} (hd : decode (mC e) pc = .ok (.iadd, 1)) (k : Wp l g e d kc ks (pc + 1) ls (vI (w32 (x + y)) :: st) t σ Q) : Wp l g e d kc ks pc ls (vI y :: vI x :: st) t σ Q :=
  r_pure k (fun h => okTs_cons (w32_b _) (okTs_tl (okTs_tl h))) (fun _ _ _ _ _ _ _ _ _ _ _ _ _ _ _ hC ho kk => lv_iadd (x := Int32.ofInt x) (y := Int32.ofInt y) hC.1 hC.2.1 hd (by rw [of_add]; exact kk))
theorem r_isub {x y : Int} (hd : decode (mC e) pc = .ok (.isub, 1)) (k : Wp l g e d kc ks (pc + 1) ls (vI (w32 (x - y)) :: st) t σ Q) : Wp l g e d kc ks pc ls (vI y :: vI x :: st) t σ Q :=
  r_pure k (fun h => okTs_cons (w32_b _) (okTs_tl (okTs_tl h))) (fun _ _ _ _ _ _ _ _ _ _ _ _ _ _ _ hC ho kk => lv_isub (x := Int32.ofInt x) (y := Int32.ofInt y) hC.1 hC.2.1 hd (by rw [of_sub]; exact kk))
theorem r_imul {x y : Int} (hd : decode (mC e) pc = .ok (.imul, 1)) (k : Wp l g e d kc ks (pc + 1) ls (vI (w32 (x * y)) :: st) t σ Q) : Wp l g e d kc ks pc ls (vI y :: vI x :: st) t σ Q :=
  r_pure k (fun h => okTs_cons (w32_b _) (okTs_tl (okTs_tl h))) (fun _ _ _ _ _ _ _ _ _ _ _ _ _ _ _ hC ho kk => lv_imul (x := Int32.ofInt x) (y := Int32.ofInt y) hC.1 hC.2.1 hd (by rw [of_mul]; exact kk))
theorem r_iand {x y : Int} (hd : decode (mC e) pc = .ok (.iand, 1)) (k : Wp l g e d kc ks (pc + 1) ls (vI (iand x y) :: st) t σ Q) : Wp l g e d kc ks pc ls (vI y :: vI x :: st) t σ Q :=
  r_pure k (fun h => okTs_cons (iand_b _ _) (okTs_tl (okTs_tl h))) (fun _ _ _ _ _ _ _ _ _ _ _ _ _ _ _ hC ho kk => lv_iand (x := Int32.ofInt x) (y := Int32.ofInt y) hC.1 hC.2.1 hd (by rw [of_iand]; exact kk))
theorem r_ior {x y : Int} (hd : decode (mC e) pc = .ok (.ior, 1)) (k : Wp l g e d kc ks (pc + 1) ls (vI (ior x y) :: st) t σ Q) : Wp l g e d kc ks pc ls (vI y :: vI x :: st) t σ Q :=
  r_pure k (fun h => okTs_cons (ior_b _ _) (okTs_tl (okTs_tl h))) (fun _ _ _ _ _ _ _ _ _ _ _ _ _ _ _ hC ho kk => lv_ior (x := Int32.ofInt x) (y := Int32.ofInt y) hC.1 hC.2.1 hd (by rw [of_ior]; exact kk))
theorem r_ixor {x y : Int} (hd : decode (mC e) pc = .ok (.ixor, 1)) (k : Wp l g e d kc ks (pc + 1) ls (vI (ixor x y) :: st) t σ Q) : Wp l g e d kc ks pc ls (vI y :: vI x :: st) t σ Q :=
  r_pure k (fun h => okTs_cons (ixor_b _ _) (okTs_tl (okTs_tl h))) (fun _ _ _ _ _ _ _ _ _ _ _ _ _ _ _ hC ho kk => lv_ixor (x := Int32.ofInt x) (y := Int32.ofInt y) hC.1 hC.2.1 hd (by rw [of_ixor]; exact kk))
theorem r_ishl {x y : Int} (hd : decode (mC e) pc = .ok (.ishl, 1)) (k : Wp l g e d kc ks (pc + 1) ls (vI (ishl x y) :: st) t σ Q) : Wp l g e d kc ks pc ls (vI y :: vI x :: st) t σ Q :=
  r_pure k (fun h => okTs_cons (ishl_b _ _) (okTs_tl (okTs_tl h))) (fun _ _ _ _ _ _ _ _ _ _ _ _ _ _ _ hC ho kk => lv_ishl (x := Int32.ofInt x) (y := Int32.ofInt y) hC.1 hC.2.1 hd (by rw [of_ishl]; exact kk))
theorem r_ishr {x y : Int} (hd : decode (mC e) pc = .ok (.ishr, 1)) (k : Wp l g e d kc ks (pc + 1) ls (vI (ishr x y) :: st) t σ Q) : Wp l g e d kc ks pc ls (vI y :: vI x :: st) t σ Q :=
  r_pure k (fun h => okTs_cons (ishr_b _ _) (okTs_tl (okTs_tl h))) (fun _ _ _ _ _ _ _ _ _ _ _ _ _ _ _ hC ho kk => lv_ishr (x := Int32.ofInt x) (y := Int32.ofInt y) hC.1 hC.2.1 hd (by rw [of_ishr]; exact kk))
theorem r_iushr {x y : Int} (hd : decode (mC e) pc = .ok (.iushr, 1)) (k : Wp l g e d kc ks (pc + 1) ls (vI (iushr x y) :: st) t σ Q) : Wp l g e d kc ks pc ls (vI y :: vI x :: st) t σ Q :=
  r_pure k (fun h => okTs_cons (iushr_b _ _) (okTs_tl (okTs_tl h))) (fun _ _ _ _ _ _ _ _ _ _ _ _ _ _ _ hC ho kk => lv_iushr (x := Int32.ofInt x) (y := Int32.ofInt y) (v := Int32.ofInt (iushr x y)) hC.1 hC.2.1 hd (of_iushr x y) kk)
theorem r_idiv {x y : Int} (hne : y ≠ 0) (hd : decode (mC e) pc = .ok (.idiv, 1)) (k : Wp l g e d kc ks (pc + 1) ls (vI (w32 (x.tdiv y)) :: st) t σ Q) : Wp l g e d kc ks pc ls (vI y :: vI x :: st) t σ Q :=
  r_pure k (fun h => okTs_cons (w32_b _) (okTs_tl (okTs_tl h))) (fun _ _ _ _ _ _ _ _ _ _ _ _ _ _ _ hC ho kk => by
    have hy : b32 y := okTs_hd ho
    have hx : b32 x := okTs_hd (okTs_tl ho)
    exact lv_idiv (x := Int32.ofInt x) (y := Int32.ofInt y) hC.1 hC.2.1 hd (fun z => hne ((eq_of hy b32_0).mp (by rw [z]; rfl))) (by rw [of_div hx hy]; exact kk))
theorem r_irem {x y : Int} (hne : y ≠ 0) (hd : decode (mC e) pc = .ok (.irem, 1)) (k : Wp l g e d kc ks (pc + 1) ls (vI (w32 (x.tmod y)) :: st) t σ Q) : Wp l g e d kc ks pc ls (vI y :: vI x :: st) t σ Q :=
  r_pure k (fun h => okTs_cons (w32_b _) (okTs_tl (okTs_tl h))) (fun _ _ _ _ _ _ _ _ _ _ _ _ _ _ _ hC ho kk => by
    have hy : b32 y := okTs_hd ho
    have hx : b32 x := okTs_hd (okTs_tl ho)
    exact lv_irem (x := Int32.ofInt x) (y := Int32.ofInt y) hC.1 hC.2.1 hd (fun z => hne ((eq_of hy b32_0).mp (by rw [z]; rfl))) (by rw [of_rem hx hy]; exact kk))
theorem r_ineg {x : Int} (hd : decode (mC e) pc = .ok (.ineg, 1)) (k : Wp l g e d kc ks (pc + 1) ls (vI (w32 (-x)) :: st) t σ Q) : Wp l g e d kc ks pc ls (vI x :: st) t σ Q :=
  r_pure k (fun h => okTs_cons (w32_b _) (okTs_tl h)) (fun _ _ _ _ _ _ _ _ _ _ _ _ _ _ _ hC ho kk => lv_ineg (x := Int32.ofInt x) hC.1 hC.2.1 hd (by rw [of_neg]; exact kk))
theorem r_ladd {x y : Int} (hd : decode (mC e) pc = .ok (.ladd, 1)) (k : Wp l g e d kc ks (pc + 1) ls (vL (w64 (x + y)) :: st) t σ Q) : Wp l g e d kc ks pc ls (vL y :: vL x :: st) t σ Q :=
  r_pure k (fun h => okTs_cons (w64_b _) (okTs_tl (okTs_tl h))) (fun _ _ _ _ _ _ _ _ _ _ _ _ _ _ _ hC ho kk => lv_ladd (x := Int64.ofInt x) (y := Int64.ofInt y) hC.1 hC.2.1 hd (by rw [of_add64]; exact kk))
theorem r_lsub {x y : Int} (hd : decode (mC e) pc = .ok (.lsub, 1)) (k : Wp l g e d kc ks (pc + 1) ls (vL (w64 (x - y)) :: st) t σ Q) : Wp l g e d kc ks pc ls (vL y :: vL x :: st) t σ Q :=
  r_pure k (fun h => okTs_cons (w64_b _) (okTs_tl (okTs_tl h))) (fun _ _ _ _ _ _ _ _ _ _ _ _ _ _ _ hC ho kk => lv_lsub (x := Int64.ofInt x) (y := Int64.ofInt y) hC.1 hC.2.1 hd (by rw [of_sub64]; exact kk))
theorem r_lmul {x y : Int} (hd : decode (mC e) pc = .ok (.lmul, 1)) (k : Wp l g e d kc ks (pc + 1) ls (vL (w64 (x * y)) :: st) t σ Q) : Wp l g e d kc ks pc ls (vL y :: vL x :: st) t σ Q :=
  r_pure k (fun h => okTs_cons (w64_b _) (okTs_tl (okTs_tl h))) (fun _ _ _ _ _ _ _ _ _ _ _ _ _ _ _ hC ho kk => lv_lmul (x := Int64.ofInt x) (y := Int64.ofInt y) hC.1 hC.2.1 hd (by rw [of_mul64]; exact kk))
theorem r_ldiv {x y : Int} (hne : y ≠ 0) (hd : decode (mC e) pc = .ok (.ldiv, 1)) (k : Wp l g e d kc ks (pc + 1) ls (vL (w64 (x.tdiv y)) :: st) t σ Q) : Wp l g e d kc ks pc ls (vL y :: vL x :: st) t σ Q :=
  r_pure k (fun h => okTs_cons (w64_b _) (okTs_tl (okTs_tl h))) (fun _ _ _ _ _ _ _ _ _ _ _ _ _ _ _ hC ho kk => by
    have hy : b64 y := okTs_hd ho
    have hx : b64 x := okTs_hd (okTs_tl ho)
    exact lv_ldiv (x := Int64.ofInt x) (y := Int64.ofInt y) hC.1 hC.2.1 hd (fun z => hne (by rw [← to_of64 hy, z]; rfl)) (by rw [of_div64 hx hy]; exact kk))
theorem r_lrem {x y : Int} (hne : y ≠ 0) (hd : decode (mC e) pc = .ok (.lrem, 1)) (k : Wp l g e d kc ks (pc + 1) ls (vL (w64 (x.tmod y)) :: st) t σ Q) : Wp l g e d kc ks pc ls (vL y :: vL x :: st) t σ Q :=
  r_pure k (fun h => okTs_cons (w64_b _) (okTs_tl (okTs_tl h))) (fun _ _ _ _ _ _ _ _ _ _ _ _ _ _ _ hC ho kk => by
    have hy : b64 y := okTs_hd ho
    have hx : b64 x := okTs_hd (okTs_tl ho)
    exact lv_lrem (x := Int64.ofInt x) (y := Int64.ofInt y) hC.1 hC.2.1 hd (fun z => hne (by rw [← to_of64 hy, z]; rfl)) (by rw [of_rem64 hx hy]; exact kk))
theorem r_lcmp {x y : Int} (hd : decode (mC e) pc = .ok (.lcmp, 1)) (k : Wp l g e d kc ks (pc + 1) ls (vI (icmp x y) :: st) t σ Q) : Wp l g e d kc ks pc ls (vL y :: vL x :: st) t σ Q :=
  r_pure k (fun h => okTs_cons (icmp_b _ _) (okTs_tl (okTs_tl h))) (fun _ _ _ _ _ _ _ _ _ _ _ _ _ _ _ hC ho kk => W.lcmp (x := Int64.ofInt x) (y := Int64.ofInt y) hC.1 hC.2.1 hd (by rw [of_cmp (okTs_hd (okTs_tl ho)) (okTs_hd ho)]; exact kk))
theorem r_i2l {x : Int} (hd : decode (mC e) pc = .ok (.i2l, 1)) (k : Wp l g e d kc ks (pc + 1) ls (vL x :: st) t σ Q) : Wp l g e d kc ks pc ls (vI x :: st) t σ Q :=
  r_pure k (fun h => okTs_cons (b64_of (okTs_hd h)) (okTs_tl h)) (fun _ _ _ _ _ _ _ _ _ _ _ _ _ _ _ hC ho kk => lv_i2l (x := Int32.ofInt x) hC.1 hC.2.1 hd (of_i2l (okTs_hd ho)) kk)
theorem r_i2b {x : Int} (hd : decode (mC e) pc = .ok (.i2b, 1)) (k : Wp l g e d kc ks (pc + 1) ls (vI (i8 x) :: st) t σ Q) : Wp l g e d kc ks pc ls (vI x :: st) t σ Q :=
  r_pure k (fun h => okTs_cons (i8_b _) (okTs_tl h)) (fun _ _ _ _ _ _ _ _ _ _ _ _ _ _ _ hC ho kk => lv_i2b (x := Int32.ofInt x) (v := Int32.ofInt (i8 x)) hC.1 hC.2.1 hd (of_i8 x) kk)
theorem r_i2s {x : Int} (hd : decode (mC e) pc = .ok (.i2s, 1)) (k : Wp l g e d kc ks (pc + 1) ls (vI (i16 x) :: st) t σ Q) : Wp l g e d kc ks pc ls (vI x :: st) t σ Q :=
  r_pure k (fun h => okTs_cons (i16_b _) (okTs_tl h)) (fun _ _ _ _ _ _ _ _ _ _ _ _ _ _ _ hC ho kk => lv_i2s (x := Int32.ofInt x) (v := Int32.ofInt (i16 x)) hC.1 hC.2.1 hd (of_i16 x) kk)
theorem r_i2c {x : Int} (hd : decode (mC e) pc = .ok (.i2c, 1)) (k : Wp l g e d kc ks (pc + 1) ls (vI (iu16 x) :: st) t σ Q) : Wp l g e d kc ks pc ls (vI x :: st) t σ Q :=
  r_pure k (fun h => okTs_cons (iu16_b _) (okTs_tl h)) (fun _ _ _ _ _ _ _ _ _ _ _ _ _ _ _ hC ho kk => lv_i2c (x := Int32.ofInt x) (v := Int32.ofInt (iu16 x)) hC.1 hC.2.1 hd (of_iu16 x) kk)
theorem r_dup {v : TV} (hc : catT v = 1) (hd : decode (mC e) pc = .ok (.dup, 1)) (k : Wp l g e d kc ks (pc + 1) ls (v :: v :: st) t σ Q) : Wp l g e d kc ks pc ls (v :: st) t σ Q :=
  r_pure k (fun h => okTs_cons (okTs_hd h) h) (fun _ _ _ _ _ _ _ _ _ _ _ _ _ _ _ hC ho kk => lv_dup hC.1 hC.2.1 hd (by rw [cv_cat]; exact hc) kk)
theorem r_pop {v : TV} (hc : catT v = 1) (hd : decode (mC e) pc = .ok (.pop, 1)) (k : Wp l g e d kc ks (pc + 1) ls st t σ Q) : Wp l g e d kc ks pc ls (v :: st) t σ Q :=
  r_pure k (fun h => okTs_tl h) (fun _ _ _ _ _ _ _ _ _ _ _ _ _ _ _ hC ho kk => lv_pop hC.1 hC.2.1 hd (by rw [cv_cat]; exact hc) kk)
theorem r_dup_x1 {v w : TV} (hc : catT v = 1) (hc2 : catT w = 1) (hd : decode (mC e) pc = .ok (.dup_x1, 1)) (k : Wp l g e d kc ks (pc + 1) ls (v :: w :: v :: st) t σ Q) : Wp l g e d kc ks pc ls (v :: w :: st) t σ Q :=
  r_pure k (fun h => okTs_cons (okTs_hd h) (okTs_cons (okTs_hd (okTs_tl h)) (okTs_cons (okTs_hd h) (okTs_tl (okTs_tl h))))) (fun _ _ _ _ _ _ _ _ _ _ _ _ _ _ _ hC ho kk => lv_dup_x1 hC.1 hC.2.1 hd (by rw [cv_cat]; exact hc) (by rw [cv_cat]; exact hc2) kk)
theorem r_dup2 {v w : TV} (hc : catT v = 1) (hc2 : catT w = 1) (hd : decode (mC e) pc = .ok (.dup2, 1)) (k : Wp l g e d kc ks (pc + 1) ls (v :: w :: v :: w :: st) t σ Q) : Wp l g e d kc ks pc ls (v :: w :: st) t σ Q :=
  r_pure k (fun h => okTs_cons (okTs_hd h) (okTs_cons (okTs_hd (okTs_tl h)) h)) (fun _ _ _ _ _ _ _ _ _ _ _ _ _ _ _ hC ho kk => lv_dup2_11 hC.1 hC.2.1 hd (by rw [cv_cat]; exact hc) (by rw [cv_cat]; exact hc2) kk)
theorem r_goto {off : Int} {tgt : Nat} (hd : decode (mC e) pc = .ok (.goto off, 3)) (ht : (pc : Int) + off = tgt) (k : Wp l g e d kc ks tgt ls st t σ Q) : Wp l g e d kc ks pc ls st t σ Q :=
  r_pure k (fun h => h) (fun _ _ _ _ _ _ _ _ _ _ _ _ _ _ _ hC ho kk => lv_goto hC.1 hC.2.1 hd ht kk)
theorem r_if_eq {x : Int} {off : Int} {tgt : Nat} (hd : decode (mC e) pc = .ok (.ifCond .eq off, 3)) (ht : (pc : Int) + off = tgt) (k1 : x = 0 → Wp l g e d kc ks tgt ls st t σ Q) (k2 : ¬ (x = 0) → Wp l g e d kc ks (pc + 3) ls st t σ Q) : Wp l g e d kc ks pc ls (vI x :: st) t σ Q :=
  r_lift k1 k2 (fun h => okTs_tl h) (fun h => okTs_tl h) (fun _ _ _ _ _ _ _ _ _ _ _ _ _ _ _ hC ho q1 q2 => by
    have hx : b32 x := okTs_hd ho
    have h : _ ↔ x = 0 := eq_of hx b32_0
    exact lv_if_eq (x := Int32.ofInt x) hC.1 hC.2.1 hd ht (fun z => q1 (h.mp z)) (fun z => q2 (fun y => z (h.mpr y))))
theorem r_icmp_eq {x y : Int} {off : Int} {tgt : Nat} (hd : decode (mC e) pc = .ok (.if_icmp .eq off, 3)) (ht : (pc : Int) + off = tgt) (k1 : x = y → Wp l g e d kc ks tgt ls st t σ Q) (k2 : ¬ (x = y) → Wp l g e d kc ks (pc + 3) ls st t σ Q) : Wp l g e d kc ks pc ls (vI y :: vI x :: st) t σ Q :=
  r_lift k1 k2 (fun h => okTs_tl (okTs_tl h)) (fun h => okTs_tl (okTs_tl h)) (fun _ _ _ _ _ _ _ _ _ _ _ _ _ _ _ hC ho q1 q2 => by
    have hy : b32 y := okTs_hd ho
    have hx : b32 x := okTs_hd (okTs_tl ho)
    have h : _ ↔ x = y := eq_of hx hy
    exact lv_icmp_eq (x := Int32.ofInt x) (y := Int32.ofInt y) hC.1 hC.2.1 hd ht (fun z => q1 (h.mp z)) (fun z => q2 (fun y => z (h.mpr y))))
theorem r_if_ne {x : Int} {off : Int} {tgt : Nat} (hd : decode (mC e) pc = .ok (.ifCond .ne off, 3)) (ht : (pc : Int) + off = tgt) (k1 : x ≠ 0 → Wp l g e d kc ks tgt ls st t σ Q) (k2 : ¬ (x ≠ 0) → Wp l g e d kc ks (pc + 3) ls st t σ Q) : Wp l g e d kc ks pc ls (vI x :: st) t σ Q :=
  r_lift k1 k2 (fun h => okTs_tl h) (fun h => okTs_tl h) (fun _ _ _ _ _ _ _ _ _ _ _ _ _ _ _ hC ho q1 q2 => by
    have hx : b32 x := okTs_hd ho
    have h : _ ↔ x ≠ 0 := not_congr (eq_of hx b32_0)
    exact lv_if_ne (x := Int32.ofInt x) hC.1 hC.2.1 hd ht (fun z => q1 (h.mp z)) (fun z => q2 (fun y => h.mpr y z)))
theorem r_icmp_ne {x y : Int} {off : Int} {tgt : Nat} (hd : decode (mC e) pc = .ok (.if_icmp .ne off, 3)) (ht : (pc : Int) + off = tgt) (k1 : x ≠ y → Wp l g e d kc ks tgt ls st t σ Q) (k2 : ¬ (x ≠ y) → Wp l g e d kc ks (pc + 3) ls st t σ Q) : Wp l g e d kc ks pc ls (vI y :: vI x :: st) t σ Q :=
  r_lift k1 k2 (fun h => okTs_tl (okTs_tl h)) (fun h => okTs_tl (okTs_tl h)) (fun _ _ _ _ _ _ _ _ _ _ _ _ _ _ _ hC ho q1 q2 => by
    have hy : b32 y := okTs_hd ho
    have hx : b32 x := okTs_hd (okTs_tl ho)
    have h : _ ↔ x ≠ y := not_congr (eq_of hx hy)
    exact lv_icmp_ne (x := Int32.ofInt x) (y := Int32.ofInt y) hC.1 hC.2.1 hd ht (fun z => q1 (h.mp z)) (fun z => q2 (fun y => h.mpr y z)))
theorem r_if_lt {x : Int} {off : Int} {tgt : Nat} (hd : decode (mC e) pc = .ok (.ifCond .lt off, 3)) (ht : (pc : Int) + off = tgt) (k1 : x < 0 → Wp l g e d kc ks tgt ls st t σ Q) (k2 : ¬ (x < 0) → Wp l g e d kc ks (pc + 3) ls st t σ Q) : Wp l g e d kc ks pc ls (vI x :: st) t σ Q :=
  r_lift k1 k2 (fun h => okTs_tl h) (fun h => okTs_tl h) (fun _ _ _ _ _ _ _ _ _ _ _ _ _ _ _ hC ho q1 q2 => by
    have hx : b32 x := okTs_hd ho
    have h : _ ↔ x < 0 := lt_of hx b32_0
    exact lv_if_lt (x := Int32.ofInt x) hC.1 hC.2.1 hd ht (fun z => q1 (h.mp z)) (fun z => q2 (fun y => z (h.mpr y))))
theorem r_icmp_lt {x y : Int} {off : Int} {tgt : Nat} (hd : decode (mC e) pc = .ok (.if_icmp .lt off, 3)) (ht : (pc : Int) + off = tgt) (k1 : x < y → Wp l g e d kc ks tgt ls st t σ Q) (k2 : ¬ (x < y) → Wp l g e d kc ks (pc + 3) ls st t σ Q) : Wp l g e d kc ks pc ls (vI y :: vI x :: st) t σ Q :=
  r_lift k1 k2 (fun h => okTs_tl (okTs_tl h)) (fun h => okTs_tl (okTs_tl h)) (fun _ _ _ _ _ _ _ _ _ _ _ _ _ _ _ hC ho q1 q2 => by
    have hy : b32 y := okTs_hd ho
    have hx : b32 x := okTs_hd (okTs_tl ho)
    have h : _ ↔ x < y := lt_of hx hy
    exact lv_icmp_lt (x := Int32.ofInt x) (y := Int32.ofInt y) hC.1 hC.2.1 hd ht (fun z => q1 (h.mp z)) (fun z => q2 (fun y => z (h.mpr y))))
theorem r_if_ge {x : Int} {off : Int} {tgt : Nat} (hd : decode (mC e) pc = .ok (.ifCond .ge off, 3)) (ht : (pc : Int) + off = tgt) (k1 : 0 ≤ x → Wp l g e d kc ks tgt ls st t σ Q) (k2 : ¬ (0 ≤ x) → Wp l g e d kc ks (pc + 3) ls st t σ Q) : Wp l g e d kc ks pc ls (vI x :: st) t σ Q :=
  r_lift k1 k2 (fun h => okTs_tl h) (fun h => okTs_tl h) (fun _ _ _ _ _ _ _ _ _ _ _ _ _ _ _ hC ho q1 q2 => by
    have hx : b32 x := okTs_hd ho
    have h : _ ↔ 0 ≤ x := le_of b32_0 hx
    exact lv_if_ge (x := Int32.ofInt x) hC.1 hC.2.1 hd ht (fun z => q1 (h.mp z)) (fun z => q2 (fun y => z (h.mpr y))))
theorem r_icmp_ge {x y : Int} {off : Int} {tgt : Nat} (hd : decode (mC e) pc = .ok (.if_icmp .ge off, 3)) (ht : (pc : Int) + off = tgt) (k1 : y ≤ x → Wp l g e d kc ks tgt ls st t σ Q) (k2 : ¬ (y ≤ x) → Wp l g e d kc ks (pc + 3) ls st t σ Q) : Wp l g e d kc ks pc ls (vI y :: vI x :: st) t σ Q :=
  r_lift k1 k2 (fun h => okTs_tl (okTs_tl h)) (fun h => okTs_tl (okTs_tl h)) (fun _ _ _ _ _ _ _ _ _ _ _ _ _ _ _ hC ho q1 q2 => by
    have hy : b32 y := okTs_hd ho
    have hx : b32 x := okTs_hd (okTs_tl ho)
    have h : _ ↔ y ≤ x := le_of hy hx
    exact lv_icmp_ge (x := Int32.ofInt x) (y := Int32.ofInt y) hC.1 hC.2.1 hd ht (fun z => q1 (h.mp z)) (fun z => q2 (fun y => z (h.mpr y))))
theorem r_if_gt {x : Int} {off : Int} {tgt : Nat} (hd : decode (mC e) pc = .ok (.ifCond .gt off, 3)) (ht : (pc : Int) + off = tgt) (k1 : 0 < x → Wp l g e d kc ks tgt ls st t σ Q) (k2 : ¬ (0 < x) → Wp l g e d kc ks (pc + 3) ls st t σ Q) : Wp l g e d kc ks pc ls (vI x :: st) t σ Q :=
  r_lift k1 k2 (fun h => okTs_tl h) (fun h => okTs_tl h) (fun _ _ _ _ _ _ _ _ _ _ _ _ _ _ _ hC ho q1 q2 => by
    have hx : b32 x := okTs_hd ho
    have h : _ ↔ 0 < x := lt_of b32_0 hx
    exact lv_if_gt (x := Int32.ofInt x) hC.1 hC.2.1 hd ht (fun z => q1 (h.mp z)) (fun z => q2 (fun y => z (h.mpr y))))
theorem r_icmp_gt {x y : Int} {off : Int} {tgt : Nat} (hd : decode (mC e) pc = .ok (.if_icmp .gt off, 3)) (ht : (pc : Int) + off = tgt) (k1 : y < x → Wp l g e d kc ks tgt ls st t σ Q) (k2 : ¬ (y < x) → Wp l g e d kc ks (pc + 3) ls st t σ Q) : Wp l g e d kc ks pc ls (vI y :: vI x :: st) t σ Q :=
  r_lift k1 k2 (fun h => okTs_tl (okTs_tl h)) (fun h => okTs_tl (okTs_tl h)) (fun _ _ _ _ _ _ _ _ _ _ _ _ _ _ _ hC ho q1 q2 => by
    have hy : b32 y := okTs_hd ho
    have hx : b32 x := okTs_hd (okTs_tl ho)
    have h : _ ↔ y < x := lt_of hy hx
    exact lv_icmp_gt (x := Int32.ofInt x) (y := Int32.ofInt y) hC.1 hC.2.1 hd ht (fun z => q1 (h.mp z)) (fun z => q2 (fun y => z (h.mpr y))))
theorem r_if_le {x : Int} {off : Int} {tgt : Nat} (hd : decode (mC e) pc = .ok (.ifCond .le off, 3)) (ht : (pc : Int) + off = tgt) (k1 : x ≤ 0 → Wp l g e d kc ks tgt ls st t σ Q) (k2 : ¬ (x ≤ 0) → Wp l g e d kc ks (pc + 3) ls st t σ Q) : Wp l g e d kc ks pc ls (vI x :: st) t σ Q :=
  r_lift k1 k2 (fun h => okTs_tl h) (fun h => okTs_tl h) (fun _ _ _ _ _ _ _ _ _ _ _ _ _ _ _ hC ho q1 q2 => by
    have hx : b32 x := okTs_hd ho
    have h : _ ↔ x ≤ 0 := le_of hx b32_0
    exact lv_if_le (x := Int32.ofInt x) hC.1 hC.2.1 hd ht (fun z => q1 (h.mp z)) (fun z => q2 (fun y => z (h.mpr y))))
theorem r_icmp_le {x y : Int} {off : Int} {tgt : Nat} (hd : decode (mC e) pc = .ok (.if_icmp .le off, 3)) (ht : (pc : Int) + off = tgt) (k1 : x ≤ y → Wp l g e d kc ks tgt ls st t σ Q) (k2 : ¬ (x ≤ y) → Wp l g e d kc ks (pc + 3) ls st t σ Q) : Wp l g e d kc ks pc ls (vI y :: vI x :: st) t σ Q :=
  r_lift k1 k2 (fun h => okTs_tl (okTs_tl h)) (fun h => okTs_tl (okTs_tl h)) (fun _ _ _ _ _ _ _ _ _ _ _ _ _ _ _ hC ho q1 q2 => by
    have hy : b32 y := okTs_hd ho
    have hx : b32 x := okTs_hd (okTs_tl ho)
    have h : _ ↔ x ≤ y := le_of hx hy
    exact lv_icmp_le (x := Int32.ofInt x) (y := Int32.ofInt y) hC.1 hC.2.1 hd ht (fun z => q1 (h.mp z)) (fun z => q2 (fun y => z (h.mpr y))))
/-- a reference on the stack is null, or none -/
theorem rf_cases (g : GE) (x : Int) : (x = -1 ∧ rf g x = .null) ∨ (x ≠ -1 ∧ ∃ a, rf g x = .ref a) := by
  unfold rf
  by_cases h : 0 ≤ x
  · rw [if_pos h]; exact Or.inr ⟨by omega, _, rfl⟩
  · by_cases h2 : x = -1
    · rw [if_neg h, if_pos h2]; exact Or.inl ⟨h2, rfl⟩
    · rw [if_neg h, if_neg h2]; exact Or.inr ⟨h2, _, rfl⟩
theorem r_ifnull {x : Int} {off : Int} {tgt : Nat} (hd : decode (mC e) pc = .ok (.ifnull off, 3)) (ht : (pc : Int) + off = tgt) (k1 : x = -1 → Wp l g e d kc ks tgt ls st t σ Q) (k2 : ¬ (x = -1) → Wp l g e d kc ks (pc + 3) ls st t σ Q) : Wp l g e d kc ks pc ls (vR x :: st) t σ Q :=
  r_lift k1 k2 (fun h => okTs_tl h) (fun h => okTs_tl h) (fun _ _ _ _ _ _ _ _ _ _ _ _ _ _ _ hC ho q1 q2 => by
    show W _ _ _ _ _ _ _ _ _ _ _ _ _ _ _ (F0 _ _ _ (rf g x :: _))
    rcases rf_cases g x with ⟨h1, h2⟩ | ⟨h1, a, h2⟩
    · rw [h2]; exact lv_ifnullN hC.1 hC.2.1 hd ht (q1 h1)
    · rw [h2]; exact lv_ifnull hC.1 hC.2.1 hd (q2 h1))
theorem r_ifnonnull {x : Int} {off : Int} {tgt : Nat} (hd : decode (mC e) pc = .ok (.ifnonnull off, 3)) (ht : (pc : Int) + off = tgt) (k1 : ¬ (x = -1) → Wp l g e d kc ks tgt ls st t σ Q) (k2 : x = -1 → Wp l g e d kc ks (pc + 3) ls st t σ Q) : Wp l g e d kc ks pc ls (vR x :: st) t σ Q :=
  r_lift k1 k2 (fun h => okTs_tl h) (fun h => okTs_tl h) (fun _ _ _ _ _ _ _ _ _ _ _ _ _ _ _ hC ho q1 q2 => by
    show W _ _ _ _ _ _ _ _ _ _ _ _ _ _ _ (F0 _ _ _ (rf g x :: _))
    rcases rf_cases g x with ⟨h1, h2⟩ | ⟨h1, a, h2⟩
    · rw [h2]; exact lv_ifnonnullN hC.1 hC.2.1 hd (q2 h1)
    · rw [h2]; exact lv_ifnonnull hC.1 hC.2.1 hd ht (q1 h1))
theorem r_lookup {dflt : Int} {ps : Array (Int × Int)} {len : Nat} {x off : Int} {tgt : Nat} (hd : decode (mC e) pc = .ok (.lookupswitch dflt ps, len)) (hp : (ps.toList.zip (ps.toList.drop 1)).all (fun (a, next) => a.1 < next.1) = true) (ho : Op.lookupswitch.offset ps.toList dflt x = off) (ht : (pc : Int) + off = tgt) (k : Wp l g e d kc ks tgt ls st t σ Q) : Wp l g e d kc ks pc ls (vI x :: st) t σ Q :=
  r_pure k (fun h => okTs_tl h) (fun _ _ _ _ _ _ _ _ _ _ _ _ _ _ _ hC hos kk => lv_lookup (x := Int32.ofInt x) hC.1 hC.2.1 hd hp (by rw [to_of (okTs_hd hos)]; exact ho) ht kk)
theorem r_tableOut {dflt lo hi : Int} {offs : Array Int} {len : Nat} {x : Int} {tgt : Nat} (hd : decode (mC e) pc = .ok (.tableswitch dflt lo hi offs, len)) (h : x < lo ∨ hi < x) (ht : (pc : Int) + dflt = tgt) (k : Wp l g e d kc ks tgt ls st t σ Q) : Wp l g e d kc ks pc ls (vI x :: st) t σ Q :=
  r_pure k (fun h => okTs_tl h) (fun _ _ _ _ _ _ _ _ _ _ _ _ _ _ _ hC hos kk => lv_tableOut (x := Int32.ofInt x) hC.1 hC.2.1 hd (by rw [to_of (okTs_hd hos)]; exact h) ht kk)
theorem r_tableIn {dflt lo hi : Int} {offs : Array Int} {len : Nat} {x off : Int} {tgt : Nat} (hd : decode (mC e) pc = .ok (.tableswitch dflt lo hi offs, len)) (h1 : ¬ x < lo) (h2 : ¬ hi < x) (ho : offs[(x - lo).toNat]? = some off) (ht : (pc : Int) + off = tgt) (k : Wp l g e d kc ks tgt ls st t σ Q) : Wp l g e d kc ks pc ls (vI x :: st) t σ Q :=
  r_pure k (fun h => okTs_tl h) (fun _ _ _ _ _ _ _ _ _ _ _ _ _ _ _ hC hos kk => by
    have hx : b32 x := okTs_hd hos
    exact lv_tableIn (x := Int32.ofInt x) hC.1 hC.2.1 hd (by rw [to_of hx]; exact h1) (by rw [to_of hx]; exact h2) (by rw [to_of hx]; exact ho) ht kk)
theorem r_iload {i : Nat} {x : Int} (hg : lget i ls = some (vI x)) (hd : decode (mC e) pc = .ok (.iload i, 2)) (k : Wp l g e d kc ks (pc + 2) ls (vI x :: st) t σ Q) : Wp l g e d kc ks pc ls st t σ Q := by
  intro p en R s m args below meth c H locs cells slots QM lsA hC h1 h2 h3 h4 hH hS hO hl hol hos hr
  exact lv_iload hC.1 hC.2.1 hd (lv_get hl hg) (k p en R s m args below meth c H locs cells slots QM lsA hC h1 h2 h3 h4 hH hS hO hl hol (okTs_cons (okLs_get hol hg) hos) hr)
theorem r_iload_n {i : Fin 4} {x : Int} (hg : lget i ls = some (vI x)) (hd : decode (mC e) pc = .ok (.iload_n i, 1)) (k : Wp l g e d kc ks (pc + 1) ls (vI x :: st) t σ Q) : Wp l g e d kc ks pc ls st t σ Q := by
  intro p en R s m args below meth c H locs cells slots QM lsA hC h1 h2 h3 h4 hH hS hO hl hol hos hr
  exact lv_iload_n hC.1 hC.2.1 hd rfl (lv_get hl hg) (k p en R s m args below meth c H locs cells slots QM lsA hC h1 h2 h3 h4 hH hS hO hl hol (okTs_cons (okLs_get hol hg) hos) hr)
theorem r_lload {i : Nat} {x : Int} (hg : lget i ls = some (vL x)) (hd : decode (mC e) pc = .ok (.lload i, 2)) (k : Wp l g e d kc ks (pc + 2) ls (vL x :: st) t σ Q) : Wp l g e d kc ks pc ls st t σ Q := by
  intro p en R s m args below meth c H locs cells slots QM lsA hC h1 h2 h3 h4 hH hS hO hl hol hos hr
  exact lv_lload hC.1 hC.2.1 hd (lv_get hl hg) (k p en R s m args below meth c H locs cells slots QM lsA hC h1 h2 h3 h4 hH hS hO hl hol (okTs_cons (okLs_get hol hg) hos) hr)
theorem r_lload_n {i : Fin 4} {x : Int} (hg : lget i ls = some (vL x)) (hd : decode (mC e) pc = .ok (.lload_n i, 1)) (k : Wp l g e d kc ks (pc + 1) ls (vL x :: st) t σ Q) : Wp l g e d kc ks pc ls st t σ Q := by
  intro p en R s m args below meth c H locs cells slots QM lsA hC h1 h2 h3 h4 hH hS hO hl hol hos hr
  exact lv_lload_n hC.1 hC.2.1 hd rfl (lv_get hl hg) (k p en R s m args below meth c H locs cells slots QM lsA hC h1 h2 h3 h4 hH hS hO hl hol (okTs_cons (okLs_get hol hg) hos) hr)
theorem r_aload {i : Nat} {x : Int} (hg : lget i ls = some (vR x)) (hd : decode (mC e) pc = .ok (.aload i, 2)) (k : Wp l g e d kc ks (pc + 2) ls (vR x :: st) t σ Q) : Wp l g e d kc ks pc ls st t σ Q := by
  intro p en R s m args below meth c H locs cells slots QM lsA hC h1 h2 h3 h4 hH hS hO hl hol hos hr
  have kk := k p en R s m args below meth c H locs cells slots QM lsA hC h1 h2 h3 h4 hH hS hO hl hol (okTs_cons (okLs_get hol hg) hos) hr
  have hq := lv_get hl hg
  rw [List.map_cons] at kk
  rw [show cv g (vR x) = rf g x from rfl] at kk hq
  rcases rf_cases g x with ⟨h5, h6⟩ | ⟨h5, a, h6⟩
  · rw [h6] at kk hq; exact lv_aloadN hC.1 hC.2.1 hd hq kk
  · rw [h6] at kk hq; exact lv_aload hC.1 hC.2.1 hd hq kk
theorem r_istore {i : Nat} {x : Int} (hn : (i : Nat) < mL e) (hd : decode (mC e) pc = .ok (.istore i, 2)) (k : Wp l g e d kc ks (pc + 2) (lset i (vI x) ls) st t σ Q) : Wp l g e d kc ks pc ls (vI x :: st) t σ Q := by
  intro p en R s m args below meth c H locs cells slots QM lsA hC h1 h2 h3 h4 hH hS hO hl hol hos hr
  refine lv_istore hC.1 hC.2.1 hd hl hn rfl (fun ls' hl' => ?_)
  exact k p en R s m args below meth c H locs cells slots QM ls' hC h1 h2 h3 h4 hH hS hO (lv_put1 rfl hl') (okLs_set hol (okTs_hd hos)) (okTs_tl hos) hr
theorem r_lstore {i : Nat} {x : Int} (hn : (i : Nat) + 1 < mL e) (hd : decode (mC e) pc = .ok (.lstore i, 2)) (k : Wp l g e d kc ks (pc + 2) (lset i (vL x) ls) st t σ Q) : Wp l g e d kc ks pc ls (vL x :: st) t σ Q := by
  intro p en R s m args below meth c H locs cells slots QM lsA hC h1 h2 h3 h4 hH hS hO hl hol hos hr
  refine lv_lstore hC.1 hC.2.1 hd hl hn rfl (fun ls' hl' => ?_)
  exact k p en R s m args below meth c H locs cells slots QM ls' hC h1 h2 h3 h4 hH hS hO (lv_put2 rfl hl') (okLs_set hol (okTs_hd hos)) (okTs_tl hos) hr
theorem r_astore {i : Nat} {x : Int} (hn : (i : Nat) < mL e) (hd : decode (mC e) pc = .ok (.astore i, 2)) (k : Wp l g e d kc ks (pc + 2) (lset i (vR x) ls) st t σ Q) : Wp l g e d kc ks pc ls (vR x :: st) t σ Q := by
  intro p en R s m args below meth c H locs cells slots QM lsA hC h1 h2 h3 h4 hH hS hO hl hol hos hr
  have kk : ∀ ls' : Array Slot, lv_has ls' (mL e) (((i : Nat), cv g (vR x)) :: (cvL g ls).filter (fun q => !(q.1 == (i : Nat)) && !(q.1 + 1 == (i : Nat) && q.2.category == 2))) → W p l en R s m args below meth c H locs cells slots QM (F0 m (pc + 2) ls' (st.map (cv g))) := fun ls' hl' => k p en R s m args below meth c H locs cells slots QM ls' hC h1 h2 h3 h4 hH hS hO (lv_put1 (v := vR x) rfl hl') (okLs_set hol trivial) (okTs_tl hos) hr
  show W _ _ _ _ _ _ _ _ _ _ _ _ _ _ _ (F0 _ _ _ (rf g x :: _))
  rw [show cv g (vR x) = rf g x from rfl] at kk
  rcases rf_cases g x with ⟨h5, h6⟩ | ⟨h5, a, h6⟩
  · rw [h6] at kk ⊢; exact lv_astoreN hC.1 hC.2.1 hd hl hn rfl kk
  · rw [h6] at kk ⊢; exact lv_astore hC.1 hC.2.1 hd hl hn rfl kk
theorem r_aload_n {i : Fin 4} {x : Int} (hg : lget i ls = some (vR x)) (hd : decode (mC e) pc = .ok (.aload_n i, 1)) (k : Wp l g e d kc ks (pc + 1) ls (vR x :: st) t σ Q) : Wp l g e d kc ks pc ls st t σ Q := by
  intro p en R s m args below meth c H locs cells slots QM lsA hC h1 h2 h3 h4 hH hS hO hl hol hos hr
  have kk := k p en R s m args below meth c H locs cells slots QM lsA hC h1 h2 h3 h4 hH hS hO hl hol (okTs_cons (okLs_get hol hg) hos) hr
  have hq := lv_get hl hg
  rw [List.map_cons] at kk
  rw [show cv g (vR x) = rf g x from rfl] at kk hq
  rcases rf_cases g x with ⟨h5, h6⟩ | ⟨h5, a, h6⟩
  · rw [h6] at kk hq; exact lv_aload_nN hC.1 hC.2.1 hd rfl hq kk
  · rw [h6] at kk hq; exact lv_aload_n hC.1 hC.2.1 hd rfl hq kk
theorem r_istore_n {i : Fin 4} {x : Int} (hn : (i : Nat) < mL e) (hd : decode (mC e) pc = .ok (.istore_n i, 1)) (k : Wp l g e d kc ks (pc + 1) (lset i (vI x) ls) st t σ Q) : Wp l g e d kc ks pc ls (vI x :: st) t σ Q := by
  intro p en R s m args below meth c H locs cells slots QM lsA hC h1 h2 h3 h4 hH hS hO hl hol hos hr
  refine lv_istore_n hC.1 hC.2.1 hd rfl hl hn rfl (fun ls' hl' => ?_)
  exact k p en R s m args below meth c H locs cells slots QM ls' hC h1 h2 h3 h4 hH hS hO (lv_put1 rfl hl') (okLs_set hol (okTs_hd hos)) (okTs_tl hos) hr
theorem r_lstore_n {i : Fin 4} {x : Int} (hn : (i : Nat) + 1 < mL e) (hd : decode (mC e) pc = .ok (.lstore_n i, 1)) (k : Wp l g e d kc ks (pc + 1) (lset i (vL x) ls) st t σ Q) : Wp l g e d kc ks pc ls (vL x :: st) t σ Q := by
  intro p en R s m args below meth c H locs cells slots QM lsA hC h1 h2 h3 h4 hH hS hO hl hol hos hr
  refine lv_lstore_n hC.1 hC.2.1 hd rfl hl hn rfl (fun ls' hl' => ?_)
  exact k p en R s m args below meth c H locs cells slots QM ls' hC h1 h2 h3 h4 hH hS hO (lv_put2 rfl hl') (okLs_set hol (okTs_hd hos)) (okTs_tl hos) hr
theorem r_astore_n {i : Fin 4} {x : Int} (hn : (i : Nat) < mL e) (hd : decode (mC e) pc = .ok (.astore_n i, 1)) (k : Wp l g e d kc ks (pc + 1) (lset i (vR x) ls) st t σ Q) : Wp l g e d kc ks pc ls (vR x :: st) t σ Q := by
  intro p en R s m args below meth c H locs cells slots QM lsA hC h1 h2 h3 h4 hH hS hO hl hol hos hr
  have kk : ∀ ls' : Array Slot, lv_has ls' (mL e) (((i : Nat), cv g (vR x)) :: (cvL g ls).filter (fun q => !(q.1 == (i : Nat)) && !(q.1 + 1 == (i : Nat) && q.2.category == 2))) → W p l en R s m args below meth c H locs cells slots QM (F0 m (pc + 1) ls' (st.map (cv g))) := fun ls' hl' => k p en R s m args below meth c H locs cells slots QM ls' hC h1 h2 h3 h4 hH hS hO (lv_put1 (v := vR x) rfl hl') (okLs_set hol trivial) (okTs_tl hos) hr
  show W _ _ _ _ _ _ _ _ _ _ _ _ _ _ _ (F0 _ _ _ (rf g x :: _))
  rw [show cv g (vR x) = rf g x from rfl] at kk
  rcases rf_cases g x with ⟨h5, h6⟩ | ⟨h5, a, h6⟩
  · rw [h6] at kk ⊢; exact lv_astore_nN hC.1 hC.2.1 hd rfl hl hn rfl kk
  · rw [h6] at kk ⊢; exact lv_astore_n hC.1 hC.2.1 hd rfl hl hn rfl kk
theorem r_iinc {i : Nat} {n x : Int} (hg : lget i ls = some (vI x)) (hn : i < mL e) (hd : decode (mC e) pc = .ok (.iinc i n, 3)) (k : Wp l g e d kc ks (pc + 3) (lset i (vI (w32 (x + n))) ls) st t σ Q) : Wp l g e d kc ks pc ls st t σ Q := by
  intro p en R s m args below meth c H locs cells slots QM lsA hC h1 h2 h3 h4 hH hS hO hl hol hos hr
  obtain ⟨j, hj⟩ := List.getElem?_of_mem (cvL_mem (g := g) (lget_mem hg))
  refine lv_iinc hC.1 hC.2.1 hd hl hj (v := Int32.ofInt (w32 (x + n))) (by rw [of_w32, Int32.ofInt_add]) hn rfl (fun ls' hl' => ?_)
  exact k p en R s m args below meth c H locs cells slots QM ls' hC h1 h2 h3 h4 hH hS hO (lv_put1 (v := vI _) rfl hl') (okLs_set hol (w32_b _)) hos hr
theorem r_keep {ks' : List Nat} (k : Wp l g e d kc ks pc (lkeep ks' ls) st t σ Q) : Wp l g e d kc ks pc ls st t σ Q := by
  intro p en R s m args below meth c H locs cells slots QM lsA hC h1 h2 h3 h4 hH hS hO hl hol hos hr
  refine k p en R s m args below meth c H locs cells slots QM lsA hC h1 h2 h3 h4 hH hS hO (lv_has_sub hl fun q hq => ?_) (fun q hq => hol q (lkeep_mem hq)) hos hr
  obtain ⟨r, hr, rfl⟩ := List.mem_map.mp hq
  exact List.mem_map.mpr ⟨r, lkeep_mem hr, rfl⟩
end RUL
end
section
/-! fields, arrays, static fields -/
def inALL (ws : List Cond) : Bool := ws.all fun w => decide (w ∈ lw_tbl) && goodWord w
theorem inALL_of {ws : List Cond} (h : inALL ws = true) : ∀ w ∈ ws, w ∈ ALL := by
  intro w hw
  have := List.all_eq_true.mp h w hw
  simp only [Bool.and_eq_true, decide_eq_true_eq] at this
  exact List.mem_filter.mpr this
theorem cls_0 : inALL (u_ws RX0 TX0 2) = true := by decide +kernel
theorem cls_1 : inALL (u_ws RX1 TX1 4) = true := by decide +kernel
theorem cls_2 : inALL (u_ws RX2 TX2 3) = true := by decide +kernel
theorem cls_3 : inALL (u_ws RX3 TX3 2) = true := by decide +kernel
theorem cls_4 : inALL (u_ws RX4 TX4 9) = true := by decide +kernel
theorem cls_5 : inALL (u_ws RX5 TX5 9) = true := by decide +kernel
theorem cls_6 : inALL (u_ws RX6 TX6 6) = true := by decide +kernel
theorem cls_7 : inALL (u_ws RX7 TX7 2) = true := by decide +kernel
theorem cls_8 : inALL (u_ws RX8 TX8 17) = true := by decide +kernel
theorem cls_9 : inALL (u_ws RX9 TX9 41) = true := by decide +kernel
/-- what the class tables give of a class by its number -/
theorem clsOk {ci : Nat} {q : vw_C} (h : vwCl[ci]? = some q) : (∀ w ∈ u_ws q.1 q.2.1 q.2.2, w ∈ ALL) ∧ ∃ ty : Nat → FieldType, (∀ k, k < q.2.2 → parseFieldDescriptor (q.2.1 k).2.2.1 = some (ty k)) ∧ (∀ a, a < q.2.2 → ∀ b, b < q.2.2 → a ≠ b → (q.2.1 a).2.1 ≠ (q.2.1 b).2.1) := by
  match ci, h with
  | 0, h => cases h; exact ⟨inALL_of cls_0, tyX0, tyX0_ok, nmX0⟩
  | 1, h => cases h; exact ⟨inALL_of cls_1, tyX1, tyX1_ok, nmX1⟩
  | 2, h => cases h; exact ⟨inALL_of cls_2, tyX2, tyX2_ok, nmX2⟩
  | 3, h => cases h; exact ⟨inALL_of cls_3, tyX3, tyX3_ok, nmX3⟩
  | 4, h => cases h; exact ⟨inALL_of cls_4, tyX4, tyX4_ok, nmX4⟩
  | 5, h => cases h; exact ⟨inALL_of cls_5, tyX5, tyX5_ok, nmX5⟩
  | 6, h => cases h; exact ⟨inALL_of cls_6, tyX6, tyX6_ok, nmX6⟩
  | 7, h => cases h; exact ⟨inALL_of cls_7, tyX7, tyX7_ok, nmX7⟩
  | 8, h => cases h; exact ⟨inALL_of cls_8, tyX8, tyX8_ok, nmX8⟩
  | 9, h => cases h; exact ⟨inALL_of cls_9, tyX9, tyX9_ok, nmX9⟩
/-- the field k of class ci is of kind kd, declared where it is -/
def kdOk (ci k kd : Nat) : Bool := match vwCl[ci]? with
  | none => false
  | some q => decide (k < q.2.2) && decide ((fkL.getD ci [])[k]? = some kd) && decide ((fkL.getD ci []).length = q.2.2) && decide ((q.2.1 k).1 = q.1) && (match parseFieldDescriptor (q.2.1 k).2.2.1 with
    | some .int => decide (kd = 0) && !(q.2.1 k).2.2.2
    | some .boolean => decide (kd = 1) && !(q.2.1 k).2.2.2
    | some (.object _) => (decide (kd = 2) && !(q.2.1 k).2.2.2) || (decide (kd = 3) && (q.2.1 k).2.2.2)
    | some (.array _) => (decide (kd = 2) && !(q.2.1 k).2.2.2) || (decide (kd = 3) && (q.2.1 k).2.2.2)
    | _ => false)
def fLink (own : String) (idx ci k : Nat) : Bool := match vwCl[ci]? with
  | none => false
  | some q => decide (Cond.fieldLink own idx (q.2.1 k).1 (q.2.1 k).2.1 (q.2.1 k).2.2.1 ∈ lw_tbl) && goodWord (Cond.fieldLink own idx (q.2.1 k).1 (q.2.1 k).2.1 (q.2.1 k).2.2.1)
def fLinkN (own : String) (idx ci k : Nat) : Bool := match vwCl[ci]? with
  | none => false
  | some q => decide (Cond.fieldLinkNest own idx (q.2.1 k).1 (q.2.1 k).2.1 (q.2.1 k).2.2.1 "StruckColours" ∈ tables_1)
def gval (t : Tau) (σ : Mem) (x : Int) (k kd : Nat) : TV := if kd ≤ 1 then vI (σ x k) else if kd = 2 then vR (σ x k) else vR (finOf t x k)
theorem fld_at {g : GE} {ci k kd : Nat} {fin : Nat → Int} {s : Int → Int} (h : (fkL.getD ci [])[k]? = some kd) : (fldE g ci fin s)[k]? = some (if kd ≤ 1 then .int (Int32.ofInt (s k)) else if kd = 2 then rf g (s k) else rf g (fin k)) := by
  unfold fldE
  rw [List.getElem?_mapIdx, h]
  rfl
theorem fld_len (g : GE) (ci : Nat) (fin : Nat → Int) (s : Int → Int) : (fldE g ci fin s).length = (fkL.getD ci []).length := by
  unfold fldE
  exact List.length_mapIdx
theorem gval_cv {g : GE} {t : Tau} {σ : Mem} {x : Int} {k kd ci : Nat} {fin : Nat → Int} (hs : t[x.toNat]? = some (.inl (ci, fin))) : cv g (gval t σ x k kd) = (if kd ≤ 1 then .int (Int32.ofInt (σ x k)) else if kd = 2 then rf g (σ x k) else rf g (fin k)) := by
  unfold gval
  by_cases h1 : kd ≤ 1
  · rw [if_pos h1, if_pos h1]; rfl
  · by_cases h2 : kd = 2
    · rw [if_neg h1, if_pos h2, if_neg h1, if_pos h2]; rfl
    · rw [if_neg h1, if_neg h2, if_neg h1, if_neg h2]
      show rf g (finOf t x k) = _
      unfold finOf
      rw [hs]
theorem gval_ok {t : Tau} {σ : Mem} {x : Int} {k kd ci : Nat} {fin : Nat → Int} (hM : MemOk t σ) (hx : 0 ≤ x) (hs : t[x.toNat]? = some (.inl (ci, fin))) (hk : (fkL.getD ci [])[k]? = some kd) : okT (gval t σ x k kd) := by
  unfold gval
  by_cases h1 : kd ≤ 1
  · rw [if_pos h1]
    have := hM x.toNat _ hs k kd hk h1
    rw [Int.toNat_of_nonneg hx] at this
    exact this
  · rw [if_neg h1]
    split <;> trivial
section MEM
variable {l : Launch} {g : GE} {e d kc ks pc : Nat} {ls : List (Nat × TV)} {st : List TV} {t : Tau} {σ : Mem} {Q : Post}
theorem r_get {idx ci k kd : Nat} {x : Int} (hO : isO t x ci) (hk : kdOk ci k kd = true) (hl : fLink (mN e).cls idx ci k = true ∨ fLinkN (mN e).cls idx ci k = true) (hd : decode (mC e) pc = .ok (.getfield idx, 3))
    (kk : Wp l g e d kc ks (pc + 3) ls (gval t σ x k kd :: st) t σ Q) : Wp l g e d kc ks pc ls (vR x :: st) t σ Q := by
  intro p en R s m args below meth c H locs cells slots QM lsA hC h1 h2 h3 h4 hH hS hZ hls hol hos hr
  obtain ⟨hx, fin, hs⟩ := hO
  unfold kdOk at hk
  cases hq : vwCl[ci]? with
  | none => rw [hq] at hk; cases hk
  | some q =>
    rw [hq] at hk
    simp only [Bool.and_eq_true, decide_eq_true_eq] at hk
    obtain ⟨⟨⟨⟨hk1, hk2⟩, hk3⟩, hk4⟩, -⟩ := hk
    have kw := kk p en R s m args below meth c H locs cells slots QM lsA hC h1 h2 h3 h4 hH hS hZ hls hol (okTs_cons (gval_ok hH.2.1 hx hs hk2) (okTs_tl hos)) hr
    rw [List.map_cons, gval_cv hs] at kw
    show W _ _ _ _ _ _ _ _ _ _ _ _ _ _ _ (F0 _ _ _ (rf g x :: _))
    rw [rf_ref hx]
    have he := world_atI (g := g) (s := σ) hx hs
    rcases hl with hl | hl
    · unfold fLink at hl
      rw [hq] at hl
      simp only [Bool.and_eq_true, decide_eq_true_eq] at hl
      exact va_get (C := q.1) (T := q.2.1) (N := q.2.2) hC.1 hC.2.1 hC.2.2.2.2.2.1 (clsOk hq).1 hC.2.2.2.2.1 hC.2.2.2.2.2.2.2.2.1 hH.1 x.toNat he hq k hk1 (hC.2.2.2.2.2.1 _ (List.mem_filter.mpr hl)) (fun _ z => z) (fld_at hk2) hd kw
    · unfold fLinkN at hl
      rw [hq] at hl
      simp only [decide_eq_true_eq] at hl
      have hw : va_Nw (Cond.fieldLinkNest (mN e).cls idx (q.2.1 k).1 (q.2.1 k).2.1 (q.2.1 k).2.2.1 "StruckColours") s := hC.2.2.2.2.2.2.2.2.2.1 _ (List.mem_filter.mpr ⟨hl, rfl⟩)
      exact va_getN (C := q.1) (T := q.2.1) (N := q.2.2) hC.1 hC.2.1 hC.2.2.2.2.2.1 (clsOk hq).1 hC.2.2.2.2.1 hC.2.2.2.2.2.2.2.2.1 hH.1 x.toNat he hq k hk1 (va_Nw.use rfl hw) (fun _ z => z) (fld_at hk2) hd kw
/-- what may be stored in a field of kind kd, and its number -/
def putOk (kd : Nat) (v : TV) : Prop := match v with
  | .inl y => kd = 0 ∨ (kd = 1 ∧ (y = 0 ∨ y = 1))
  | .inr (.inr _) => kd = 2
  | _ => False
def numT (v : TV) : Int := match v with
  | .inl y => y
  | .inr (.inl y) => y
  | .inr (.inr y) => y
theorem rf_fits {ty : FieldType} (g : GE) (y : Int) (h : (∃ n, ty = .object n) ∨ ∃ n, ty = .array n) : narrow ty (rf g y) = rf g y ∧ fits ty (rf g y) = true := by
  rcases h with ⟨n, rfl⟩ | ⟨n, rfl⟩ <;> rcases rf_cases g y with ⟨-, h⟩ | ⟨-, a, h⟩ <;> rw [h] <;> exact ⟨rfl, rfl⟩
theorem put_val {q : vw_C} {k kd : Nat} {v : TV} (g : GE) (hp : putOk kd v) (h : (match parseFieldDescriptor (q.2.1 k).2.2.1 with
    | some .int => decide (kd = 0) && !(q.2.1 k).2.2.2
    | some .boolean => decide (kd = 1) && !(q.2.1 k).2.2.2
    | some (.object _) => (decide (kd = 2) && !(q.2.1 k).2.2.2) || (decide (kd = 3) && (q.2.1 k).2.2.2)
    | some (.array _) => (decide (kd = 2) && !(q.2.1 k).2.2.2) || (decide (kd = 3) && (q.2.1 k).2.2.2)
    | _ => false) = true) : ∃ ty, parseFieldDescriptor (q.2.1 k).2.2.1 = some ty ∧ (q.2.1 k).2.2.2 = false ∧ narrow ty (cv g v) = cv g v ∧ fits ty (cv g v) = true ∧ kd ≤ 2 ∧ (kd = 2 → ∃ y, v = vR y) ∧ (kd ≤ 1 → ∃ y, v = vI y) := by
  split at h
  · rename_i hq
    simp only [Bool.and_eq_true, decide_eq_true_eq, Bool.not_eq_true'] at h
    obtain ⟨rfl, hf⟩ := h
    match v, hp with
    | .inl y, hp => exact ⟨_, hq, hf, rfl, rfl, by omega, (fun z => by cases z), fun _ => ⟨y, rfl⟩⟩
  · rename_i hq
    simp only [Bool.and_eq_true, decide_eq_true_eq, Bool.not_eq_true'] at h
    obtain ⟨rfl, hf⟩ := h
    match v, hp with
    | .inl y, hp =>
      have hy : y = 0 ∨ y = 1 := by
        rcases hp with h | ⟨-, h⟩
        · cases h
        · exact h
      refine ⟨_, hq, hf, ?_, ?_, by omega, (fun z => by cases z), fun _ => ⟨y, rfl⟩⟩
      · rcases hy with rfl | rfl
        · show Value.int (Int32.ofInt 0 &&& 1) = Value.int (Int32.ofInt 0); decide +kernel
        · show Value.int (Int32.ofInt 1 &&& 1) = Value.int (Int32.ofInt 1); decide +kernel
      · rcases hy with rfl | rfl <;> rfl
  · rename_i n hq
    simp only [Bool.or_eq_true, Bool.and_eq_true, decide_eq_true_eq, Bool.not_eq_true'] at h
    match v, hp with
    | .inl y, hp => rcases hp with hp | ⟨hp, -⟩ <;> omega
    | .inr (.inr y), hp =>
      have hk : kd = 2 := hp
      have hf := rf_fits (ty := .object n) g y (Or.inl ⟨_, rfl⟩)
      exact ⟨_, hq, (h.elim (fun h => h.2) (fun h => by omega)), hf.1, hf.2, by omega, fun _ => ⟨y, rfl⟩, fun z => by omega⟩
  · rename_i n hq
    simp only [Bool.or_eq_true, Bool.and_eq_true, decide_eq_true_eq, Bool.not_eq_true'] at h
    match v, hp with
    | .inl y, hp => rcases hp with hp | ⟨hp, -⟩ <;> omega
    | .inr (.inr y), hp =>
      have hk : kd = 2 := hp
      have hf := rf_fits (ty := .array n) g y (Or.inr ⟨_, rfl⟩)
      exact ⟨_, hq, (h.elim (fun h => h.2) (fun h => by omega)), hf.1, hf.2, by omega, fun _ => ⟨y, rfl⟩, fun z => by omega⟩
  · cases h
theorem fld_set {g : GE} {ci k kd : Nat} {fin : Nat → Int} {σ : Mem} {x : Int} {v : TV} (hk : (fkL.getD ci [])[k]? = some kd) (h2 : kd ≤ 2) (hr : kd = 2 → ∃ y, v = vR y) (hi : kd ≤ 1 → ∃ y, v = vI y) : fldE g ci fin (up σ x k (numT v) x) = (fldE g ci fin (σ x)).set k (cv g v) := by
  apply List.ext_getElem?
  intro i
  rw [List.getElem?_set]
  unfold fldE
  rw [List.getElem?_mapIdx, List.getElem?_mapIdx, List.length_mapIdx]
  by_cases hik : k = i
  · subst hik
    rw [if_pos rfl, if_pos (List.getElem?_eq_some_iff.mp hk).1, hk]
    by_cases h1 : kd ≤ 1
    · obtain ⟨y, rfl⟩ := hi h1
      simp [h1, up, numT, cv]
    · obtain ⟨y, rfl⟩ := hr (by omega)
      have : kd = 2 := by omega
      simp [this, up, numT, cv]
  · rw [if_neg hik]
    congr 1
    funext kd'
    have : ¬ ((i : Int) = (k : Int)) := fun z => hik (by omega)
    simp [up, this]
theorem r_put {idx ci k kd : Nat} {x : Int} {v : TV} (hO : isO t x ci) (hp : putOk kd v) (hk : kdOk ci k kd = true) (hl : fLink (mN e).cls idx ci k = true ∨ fLinkN (mN e).cls idx ci k = true) (hd : decode (mC e) pc = .ok (.putfield idx, 3))
    (kk : Wp l g e d kc ks (pc + 3) ls st t (up σ x k (numT v)) Q) : Wp l g e d kc ks pc ls (v :: vR x :: st) t σ Q := by
  intro p en R s m args below meth c H locs cells slots QM lsA hC h1 h2 h3 h4 hH hS hZ hls hol hos hr
  obtain ⟨hx, fin, hs⟩ := hO
  unfold kdOk at hk
  cases hq : vwCl[ci]? with
  | none => rw [hq] at hk; cases hk
  | some q =>
    rw [hq] at hk
    simp only [Bool.and_eq_true, decide_eq_true_eq] at hk
    obtain ⟨⟨⟨⟨hk1, hk2⟩, hk3⟩, hk4⟩, hk5⟩ := hk
    obtain ⟨ty, g1, g2, g3, g4, g5, g6, g7⟩ := put_val (q := q) g hp hk5
    obtain ⟨w1, ty0, w2, w3⟩ := clsOk hq
    have he := world_atI (g := g) (s := σ) hx hs
    have hset : ∀ e', cellE g (.inl (ci, fin)) (up σ x k (numT v) x) = e' → (world g t σ).set x.toNat (gO g + x.toNat, e') = world g t (up σ x k (numT v)) := fun e' h => world_set hx hs (fun o ho => up_ne ho) h
    have hse := hset (.inr (ci, (fldE g ci fin (σ x)).set k (cv g v))) (by show Sum.inr _ = _; rw [fld_set hk2 g5 g6 g7])
    have hok : okT v := okTs_hd hos
    have hm : MemOk t (up σ x k (numT v)) := by
      refine MemOk_up hH.2.1 hx (by omega) hs ?_
      intro kd' hkd' hle
      rw [show ((k : Int).toNat) = k from Int.toNat_natCast k] at hkd'
      cases hk2.symm.trans hkd'
      obtain ⟨y, rfl⟩ := g7 hle
      exact hok
    have hll : k < (fldE g ci fin (σ x)).length := by rw [fld_len, hk3]; exact hk1
    have kw : ∀ (H1 : Heap) (locs1 : List Loc), va_P (gD g) vwCl ((world g t σ).set x.toNat (gO g + x.toNat, .inr (ci, (fldE g ci fin (σ x)).set k (cv g v)))) H1 → va_D (Ag g) ((world g t σ).set x.toNat (gO g + x.toNat, .inr (ci, (fldE g ci fin (σ x)).set k (cv g v)))) → va_S (Ag g) s.heap H1 locs1 → W p l en R s m args below meth c H1 locs1 cells slots QM (F0 m (pc + 3) lsA (st.map (cv g))) := by
      intro H1 locs1 hP1 hD1 hS1
      rw [hse] at hP1
      have hsz : gO g + t.length ≤ H1.size := by
        by_cases ht : t.length = 0
        · have := hS1.1; omega
        · have hlt : t.length - 1 < t.length := by omega
          have := (hP1 (t.length - 1) _ (world_at (g := g) (s := up σ x k (numT v)) (List.getElem?_eq_getElem hlt))).lt
          simp only at this
          omega
      exact kk p en R s m args below meth c H1 locs1 cells slots QM lsA hC h1 h2 h3 h4 ⟨hP1, hm, hsz⟩ hS1 hZ hls hol (okTs_tl (okTs_tl hos)) hr
    show W _ _ _ _ _ _ _ _ _ _ _ _ _ _ _ (F0 _ _ _ (cv g v :: rf g x :: _))
    rw [rf_ref hx]
    rcases hl with hl | hl
    · unfold fLink at hl
      rw [hq] at hl
      simp only [Bool.and_eq_true, decide_eq_true_eq] at hl
      exact va_put (C := q.1) (T := q.2.1) (N := q.2.2) hC.1 hC.2.1 hC.2.2.2.2.2.1 w1 ty0 w2 w3 hC.2.2.2.2.1 hC.2.2.2.2.2.2.2.2.1 hH.1 (world_D g t σ) hS x.toNat he hq k hk1 (hC.2.2.2.2.2.1 _ (List.mem_filter.mpr hl)) (fun _ z => z) g2 g1 g3 g4 hll hd kw
    · unfold fLinkN at hl
      rw [hq] at hl
      simp only [decide_eq_true_eq] at hl
      have hw : va_Nw (Cond.fieldLinkNest (mN e).cls idx (q.2.1 k).1 (q.2.1 k).2.1 (q.2.1 k).2.2.1 "StruckColours") s := hC.2.2.2.2.2.2.2.2.2.1 _ (List.mem_filter.mpr ⟨hl, rfl⟩)
      exact va_putN (C := q.1) (T := q.2.1) (N := q.2.2) hC.1 hC.2.1 hC.2.2.2.2.2.1 w1 ty0 w2 w3 hC.2.2.2.2.1 hC.2.2.2.2.2.2.2.2.1 hH.1 (world_D g t σ) hS x.toNat he hq k hk1 (va_Nw.use rfl hw) (fun _ z => z) g2 g1 g3 g4 hll hd kw
end MEM
end
section
/-! arrays, static arrays, System.arraycopy -/
theorem Hld_of {g : GE} {t : Tau} {σ : Mem} {s : State} {H1 : Heap} {locs1 : List Loc} (hP1 : va_P (gD g) vwCl (world g t σ) H1) (hm : MemOk t σ) (hS1 : va_S (Ag g) s.heap H1 locs1) (hO : gO g ≤ s.heap.size) : Hld g t σ H1 := by
  refine ⟨hP1, hm, ?_⟩
  by_cases ht : t.length = 0
  · have := hS1.1; omega
  · have hlt : t.length - 1 < t.length := by omega
    have := (hP1 (t.length - 1) _ (world_at (g := g) (s := σ) (List.getElem?_eq_getElem hlt))).lt
    simp only at this
    omega
theorem arrE_int (g : GE) {ty : Nat} (h1 : ty ≠ 1) (h5 : ty ≠ 5) (s : Int → Int) : arrE g ty s = .inl fun j => Int32.ofInt (s j) := by
  unfold arrE
  rw [if_neg h1, if_neg h5]
theorem upd_up {σ : Mem} {x i v : Int} (hi : 0 ≤ i) (hb : b32 i) : (fun j : Nat => Int32.ofInt (up σ x i v x j)) = upd (fun j : Nat => Int32.ofInt (σ x j)) (Int32.ofInt i).toNatClampNeg (Int32.ofInt v) := by
  funext j
  rw [clamp_of' hb]
  unfold upd up
  by_cases hj : j = i.toNat
  · have : (j : Int) = i := by omega
    simp [hj, Int.toNat_of_nonneg hi]
  · have : ¬ (j : Int) = i := by omega
    simp [hj, this]
theorem updL_up {σ : Mem} {x i v : Int} (hi : 0 ≤ i) (hb : b32 i) : (fun j : Nat => Int64.ofInt (up σ x i v x j)) = vp_updL (fun j : Nat => Int64.ofInt (σ x j)) (Int32.ofInt i).toNatClampNeg (Int64.ofInt v) := by
  funext j
  rw [clamp_of' hb]
  unfold vp_updL up
  by_cases hj : j = i.toNat
  · have : (j : Int) = i := by omega
    simp [hj, Int.toNat_of_nonneg hi]
  · have : ¬ (j : Int) = i := by omega
    simp [hj, this]
theorem updR_up {g : GE} {σ : Mem} {x i v : Int} (hi : 0 ≤ i) (hb : b32 i) : (fun j : Nat => rfo g (up σ x i v x j)) = va_up (fun j : Nat => rfo g (σ x j)) (Int32.ofInt i).toNatClampNeg (rfo g v) := by
  funext j
  rw [clamp_of' hb]
  unfold va_up up
  by_cases hj : j = i.toNat
  · have : (j : Int) = i := by omega
    simp [hj, Int.toNat_of_nonneg hi]
  · have : ¬ (j : Int) = i := by omega
    simp [hj, this]
theorem okS_at {t : Tau} {σ : Mem} {x : Int} {ty : Nat} (hM : MemOk t σ) (hA : isT t x ty) {i : Int} (hi : 0 ≤ i) : okS (.inr (ty, lenOf t x)) i.toNat (σ x i) := by
  have := hM x.toNat _ hA.2 i.toNat
  rw [Int.toNat_of_nonneg hA.1, Int.toNat_of_nonneg hi] at this
  exact this
theorem rd_at {σ : Mem} {x i : Int} (hi : 0 ≤ i) (hb : b32 i) : σ x ((Int32.ofInt i).toNatClampNeg : Nat) = σ x i := by rw [clamp_of' hb, Int.toNat_of_nonneg hi]
section ARR
variable {l : Launch} {g : GE} {e d kc ks pc : Nat} {ls : List (Nat × TV)} {st : List TV} {t : Tau} {σ : Mem} {Q : Post}
theorem r_iald {x i : Int} (hA : isT t x 0) (h0 : 0 ≤ i) (hn : i < lenOf t x) (hd : decode (mC e) pc = .ok (.iaload, 1)) (kk : Wp l g e d kc ks (pc + 1) ls (vI (σ x i) :: st) t σ Q) : Wp l g e d kc ks pc ls (vI i :: vR x :: st) t σ Q := by
  intro p en R s m args below meth c H locs cells slots QM lsA hC h1 h2 h3 h4 hH hS hZ hls hol hos hr
  have hb : b32 i := okTs_hd hos
  have hv : b32 (σ x i) := okS_at hH.2.1 hA h0
  have kw := kk p en R s m args below meth c H locs cells slots QM lsA hC h1 h2 h3 h4 hH hS hZ hls hol (okTs_cons hv (okTs_tl (okTs_tl hos))) hr
  show W _ _ _ _ _ _ _ _ _ _ _ _ _ _ _ (F0 _ _ _ (.int (Int32.ofInt i) :: rf g x :: _))
  rw [rf_ref hA.1]
  exact va_iald (cA := gC g 0) (n := lenOf t x) (f := fun j => Int32.ofInt (σ x j)) hC.1 hC.2.1 hC.2.2.2.2.2.2.2.2.1 hH.1 x.toNat 0 (by rw [world_atI hA.1 hA.2]; rfl) (tyL_at g (by decide)) (in_of h0 hn hb) hd (by rw [rd_at (σ := σ) (x := x) h0 hb]; exact kw)
theorem r_bald {x i : Int} (hA : isT t x 2) (h0 : 0 ≤ i) (hn : i < lenOf t x) (hd : decode (mC e) pc = .ok (.baload, 1)) (kk : Wp l g e d kc ks (pc + 1) ls (vI (σ x i) :: st) t σ Q) : Wp l g e d kc ks pc ls (vI i :: vR x :: st) t σ Q := by
  intro p en R s m args below meth c H locs cells slots QM lsA hC h1 h2 h3 h4 hH hS hZ hls hol hos hr
  have hb : b32 i := okTs_hd hos
  have hv : b32 (σ x i) := okS_at hH.2.1 hA h0
  have kw := kk p en R s m args below meth c H locs cells slots QM lsA hC h1 h2 h3 h4 hH hS hZ hls hol (okTs_cons hv (okTs_tl (okTs_tl hos))) hr
  show W _ _ _ _ _ _ _ _ _ _ _ _ _ _ _ (F0 _ _ _ (.int (Int32.ofInt i) :: rf g x :: _))
  rw [rf_ref hA.1]
  exact va_bald (cA := gC g 2) (n := lenOf t x) (f := fun j => Int32.ofInt (σ x j)) hC.1 hC.2.1 hC.2.2.2.2.2.2.2.2.1 hH.1 x.toNat 2 (by rw [world_atI hA.1 hA.2]; rfl) (tyL_at g (by decide)) (in_of h0 hn hb) hd (by rw [rd_at (σ := σ) (x := x) h0 hb]; exact kw)
theorem r_zald {x i : Int} (hA : isT t x 3) (h0 : 0 ≤ i) (hn : i < lenOf t x) (hd : decode (mC e) pc = .ok (.baload, 1)) (kk : Wp l g e d kc ks (pc + 1) ls (vI (σ x i) :: st) t σ Q) : Wp l g e d kc ks pc ls (vI i :: vR x :: st) t σ Q := by
  intro p en R s m args below meth c H locs cells slots QM lsA hC h1 h2 h3 h4 hH hS hZ hls hol hos hr
  have hb : b32 i := okTs_hd hos
  have hv : b32 (σ x i) := okS_at hH.2.1 hA h0
  have kw := kk p en R s m args below meth c H locs cells slots QM lsA hC h1 h2 h3 h4 hH hS hZ hls hol (okTs_cons hv (okTs_tl (okTs_tl hos))) hr
  show W _ _ _ _ _ _ _ _ _ _ _ _ _ _ _ (F0 _ _ _ (.int (Int32.ofInt i) :: rf g x :: _))
  rw [rf_ref hA.1]
  exact va_zald (cA := gC g 3) (n := lenOf t x) (f := fun j => Int32.ofInt (σ x j)) hC.1 hC.2.1 hC.2.2.2.2.2.2.2.2.1 hH.1 x.toNat 3 (by rw [world_atI hA.1 hA.2]; rfl) (tyL_at g (by decide)) (in_of h0 hn hb) hd (by rw [rd_at (σ := σ) (x := x) h0 hb]; exact kw)
theorem r_cald {x i : Int} (hA : isT t x 4) (h0 : 0 ≤ i) (hn : i < lenOf t x) (hd : decode (mC e) pc = .ok (.caload, 1)) (kk : Wp l g e d kc ks (pc + 1) ls (vI (σ x i) :: st) t σ Q) : Wp l g e d kc ks pc ls (vI i :: vR x :: st) t σ Q := by
  intro p en R s m args below meth c H locs cells slots QM lsA hC h1 h2 h3 h4 hH hS hZ hls hol hos hr
  have hb : b32 i := okTs_hd hos
  have hv : b32 (σ x i) := okS_at hH.2.1 hA h0
  have kw := kk p en R s m args below meth c H locs cells slots QM lsA hC h1 h2 h3 h4 hH hS hZ hls hol (okTs_cons hv (okTs_tl (okTs_tl hos))) hr
  show W _ _ _ _ _ _ _ _ _ _ _ _ _ _ _ (F0 _ _ _ (.int (Int32.ofInt i) :: rf g x :: _))
  rw [rf_ref hA.1]
  exact va_cald (cA := gC g 4) (n := lenOf t x) (f := fun j => Int32.ofInt (σ x j)) hC.1 hC.2.1 hC.2.2.2.2.2.2.2.2.1 hH.1 x.toNat 4 (by rw [world_atI hA.1 hA.2]; rfl) (tyL_at g (by decide)) (in_of h0 hn hb) hd (by rw [rd_at (σ := σ) (x := x) h0 hb]; exact kw)
theorem r_iast {x i y : Int} (hA : isT t x 0) (h0 : 0 ≤ i) (hn : i < lenOf t x) (hd : decode (mC e) pc = .ok (.iastore, 1)) (kk : Wp l g e d kc ks (pc + 1) ls st t (up σ x i (y)) Q) : Wp l g e d kc ks pc ls (vI y :: vI i :: vR x :: st) t σ Q := by
  intro p en R s m args below meth c H locs cells slots QM lsA hC h1 h2 h3 h4 hH hS hZ hls hol hos hr
  have hy : b32 y := okTs_hd hos
  have hb : b32 i := okTs_hd (okTs_tl hos)
  have hv : b32 (y) := by first | exact hy | exact i8_b _ | exact i1_b _ | exact ich_b _
  have hm : MemOk t (up σ x i (y)) := MemOk_up hH.2.1 hA.1 h0 hA.2 hv
  show W _ _ _ _ _ _ _ _ _ _ _ _ _ _ _ (F0 _ _ _ (.int (Int32.ofInt y) :: .int (Int32.ofInt i) :: rf g x :: _))
  rw [rf_ref hA.1]
  refine va_iast (cA := gC g 0) (n := lenOf t x) (f := fun j => Int32.ofInt (σ x j)) hC.1 hC.2.1 hC.2.2.2.2.2.2.2.2.1 hH.1 (world_D g t σ) hS x.toNat 0 (by rw [world_atI hA.1 hA.2]; rfl) (tyL_at g (by decide)) (in_of h0 hn hb) hd (fun H1 locs1 hP1 hD1 hS1 => ?_)
  have hse := world_set (g := g) (s := σ) (s' := up σ x i (y)) hA.1 hA.2 (fun o ho => up_ne ho) (e' := .inl (gC g 0, lenOf t x, .inl (upd (fun j : Nat => Int32.ofInt (σ x j)) (Int32.ofInt i).toNatClampNeg (Int32.ofInt y)))) (by
    rw [show (Int32.ofInt y) = Int32.ofInt (y) from rfl, ← upd_up h0 hb]; rfl)
  rw [hse] at hP1
  exact kk p en R s m args below meth c H1 locs1 cells slots QM lsA hC h1 h2 h3 h4 (Hld_of hP1 hm hS1 hZ.1) hS1 hZ hls hol (okTs_tl (okTs_tl (okTs_tl hos))) hr
theorem r_bast {x i y : Int} (hA : isT t x 2) (h0 : 0 ≤ i) (hn : i < lenOf t x) (hd : decode (mC e) pc = .ok (.bastore, 1)) (kk : Wp l g e d kc ks (pc + 1) ls st t (up σ x i (i8 y)) Q) : Wp l g e d kc ks pc ls (vI y :: vI i :: vR x :: st) t σ Q := by
  intro p en R s m args below meth c H locs cells slots QM lsA hC h1 h2 h3 h4 hH hS hZ hls hol hos hr
  have hy : b32 y := okTs_hd hos
  have hb : b32 i := okTs_hd (okTs_tl hos)
  have hv : b32 (i8 y) := by first | exact hy | exact i8_b _ | exact i1_b _ | exact ich_b _
  have hm : MemOk t (up σ x i (i8 y)) := MemOk_up hH.2.1 hA.1 h0 hA.2 hv
  show W _ _ _ _ _ _ _ _ _ _ _ _ _ _ _ (F0 _ _ _ (.int (Int32.ofInt y) :: .int (Int32.ofInt i) :: rf g x :: _))
  rw [rf_ref hA.1]
  refine va_bast (cA := gC g 2) (n := lenOf t x) (f := fun j => Int32.ofInt (σ x j)) hC.1 hC.2.1 hC.2.2.2.2.2.2.2.2.1 hH.1 (world_D g t σ) hS x.toNat 2 (by rw [world_atI hA.1 hA.2]; rfl) (tyL_at g (by decide)) (in_of h0 hn hb) hd (fun H1 locs1 hP1 hD1 hS1 => ?_)
  have hse := world_set (g := g) (s := σ) (s' := up σ x i (i8 y)) hA.1 hA.2 (fun o ho => up_ne ho) (e' := .inl (gC g 2, lenOf t x, .inl (upd (fun j : Nat => Int32.ofInt (σ x j)) (Int32.ofInt i).toNatClampNeg (vp_nar .byte (Int32.ofInt y))))) (by
    rw [show (vp_nar .byte (Int32.ofInt y)) = Int32.ofInt (i8 y) from of_i8 y, ← upd_up h0 hb]; rfl)
  rw [hse] at hP1
  exact kk p en R s m args below meth c H1 locs1 cells slots QM lsA hC h1 h2 h3 h4 (Hld_of hP1 hm hS1 hZ.1) hS1 hZ hls hol (okTs_tl (okTs_tl (okTs_tl hos))) hr
theorem r_zast {x i y : Int} (hA : isT t x 3) (h0 : 0 ≤ i) (hn : i < lenOf t x) (hd : decode (mC e) pc = .ok (.bastore, 1)) (kk : Wp l g e d kc ks (pc + 1) ls st t (up σ x i (i1 y)) Q) : Wp l g e d kc ks pc ls (vI y :: vI i :: vR x :: st) t σ Q := by
  intro p en R s m args below meth c H locs cells slots QM lsA hC h1 h2 h3 h4 hH hS hZ hls hol hos hr
  have hy : b32 y := okTs_hd hos
  have hb : b32 i := okTs_hd (okTs_tl hos)
  have hv : b32 (i1 y) := by first | exact hy | exact i8_b _ | exact i1_b _ | exact ich_b _
  have hm : MemOk t (up σ x i (i1 y)) := MemOk_up hH.2.1 hA.1 h0 hA.2 hv
  show W _ _ _ _ _ _ _ _ _ _ _ _ _ _ _ (F0 _ _ _ (.int (Int32.ofInt y) :: .int (Int32.ofInt i) :: rf g x :: _))
  rw [rf_ref hA.1]
  refine va_zast (cA := gC g 3) (n := lenOf t x) (f := fun j => Int32.ofInt (σ x j)) hC.1 hC.2.1 hC.2.2.2.2.2.2.2.2.1 hH.1 (world_D g t σ) hS x.toNat 3 (by rw [world_atI hA.1 hA.2]; rfl) (tyL_at g (by decide)) (in_of h0 hn hb) hd (fun H1 locs1 hP1 hD1 hS1 => ?_)
  have hse := world_set (g := g) (s := σ) (s' := up σ x i (i1 y)) hA.1 hA.2 (fun o ho => up_ne ho) (e' := .inl (gC g 3, lenOf t x, .inl (upd (fun j : Nat => Int32.ofInt (σ x j)) (Int32.ofInt i).toNatClampNeg (vp_nar .boolean (Int32.ofInt y))))) (by
    rw [show (vp_nar .boolean (Int32.ofInt y)) = Int32.ofInt (i1 y) from of_i1 y, ← upd_up h0 hb]; rfl)
  rw [hse] at hP1
  exact kk p en R s m args below meth c H1 locs1 cells slots QM lsA hC h1 h2 h3 h4 (Hld_of hP1 hm hS1 hZ.1) hS1 hZ hls hol (okTs_tl (okTs_tl (okTs_tl hos))) hr
theorem r_cast {x i y : Int} (hA : isT t x 4) (h0 : 0 ≤ i) (hn : i < lenOf t x) (hd : decode (mC e) pc = .ok (.castore, 1)) (kk : Wp l g e d kc ks (pc + 1) ls st t (up σ x i (ich y)) Q) : Wp l g e d kc ks pc ls (vI y :: vI i :: vR x :: st) t σ Q := by
  intro p en R s m args below meth c H locs cells slots QM lsA hC h1 h2 h3 h4 hH hS hZ hls hol hos hr
  have hy : b32 y := okTs_hd hos
  have hb : b32 i := okTs_hd (okTs_tl hos)
  have hv : b32 (ich y) := by first | exact hy | exact i8_b _ | exact i1_b _ | exact ich_b _
  have hm : MemOk t (up σ x i (ich y)) := MemOk_up hH.2.1 hA.1 h0 hA.2 hv
  show W _ _ _ _ _ _ _ _ _ _ _ _ _ _ _ (F0 _ _ _ (.int (Int32.ofInt y) :: .int (Int32.ofInt i) :: rf g x :: _))
  rw [rf_ref hA.1]
  refine va_cast (cA := gC g 4) (n := lenOf t x) (f := fun j => Int32.ofInt (σ x j)) hC.1 hC.2.1 hC.2.2.2.2.2.2.2.2.1 hH.1 (world_D g t σ) hS x.toNat 4 (by rw [world_atI hA.1 hA.2]; rfl) (tyL_at g (by decide)) (in_of h0 hn hb) hd (fun H1 locs1 hP1 hD1 hS1 => ?_)
  have hse := world_set (g := g) (s := σ) (s' := up σ x i (ich y)) hA.1 hA.2 (fun o ho => up_ne ho) (e' := .inl (gC g 4, lenOf t x, .inl (upd (fun j : Nat => Int32.ofInt (σ x j)) (Int32.ofInt i).toNatClampNeg (vp_nar .char (Int32.ofInt y))))) (by
    rw [show (vp_nar .char (Int32.ofInt y)) = Int32.ofInt (ich y) from of_ich y, ← upd_up h0 hb]; rfl)
  rw [hse] at hP1
  exact kk p en R s m args below meth c H1 locs1 cells slots QM lsA hC h1 h2 h3 h4 (Hld_of hP1 hm hS1 hZ.1) hS1 hZ hls hol (okTs_tl (okTs_tl (okTs_tl hos))) hr
theorem r_lald {x i : Int} (hA : isT t x 1) (h0 : 0 ≤ i) (hn : i < lenOf t x) (hd : decode (mC e) pc = .ok (.laload, 1)) (kk : Wp l g e d kc ks (pc + 1) ls (vL (σ x i) :: st) t σ Q) : Wp l g e d kc ks pc ls (vI i :: vR x :: st) t σ Q := by
  intro p en R s m args below meth c H locs cells slots QM lsA hC h1 h2 h3 h4 hH hS hZ hls hol hos hr
  have hb : b32 i := okTs_hd hos
  have hv : b64 (σ x i) := okS_at hH.2.1 hA h0
  have kw := kk p en R s m args below meth c H locs cells slots QM lsA hC h1 h2 h3 h4 hH hS hZ hls hol (okTs_cons hv (okTs_tl (okTs_tl hos))) hr
  show W _ _ _ _ _ _ _ _ _ _ _ _ _ _ _ (F0 _ _ _ (.int (Int32.ofInt i) :: rf g x :: _))
  rw [rf_ref hA.1]
  exact va_lald (cA := gC g 1) (n := lenOf t x) (f := fun j => Int64.ofInt (σ x j)) hC.1 hC.2.1 hC.2.2.2.2.2.2.2.2.1 hH.1 x.toNat 1 (by rw [world_atI hA.1 hA.2]; rfl) (tyL_at g (by decide)) (in_of h0 hn hb) hd (by rw [rd_at (σ := σ) (x := x) h0 hb]; exact kw)
theorem r_last {x i y : Int} (hA : isT t x 1) (h0 : 0 ≤ i) (hn : i < lenOf t x) (hd : decode (mC e) pc = .ok (.lastore, 1)) (kk : Wp l g e d kc ks (pc + 1) ls st t (up σ x i y) Q) : Wp l g e d kc ks pc ls (vL y :: vI i :: vR x :: st) t σ Q := by
  intro p en R s m args below meth c H locs cells slots QM lsA hC h1 h2 h3 h4 hH hS hZ hls hol hos hr
  have hy : b64 y := okTs_hd hos
  have hb : b32 i := okTs_hd (okTs_tl hos)
  have hm : MemOk t (up σ x i y) := MemOk_up hH.2.1 hA.1 h0 hA.2 hy
  show W _ _ _ _ _ _ _ _ _ _ _ _ _ _ _ (F0 _ _ _ (.long (Int64.ofInt y) :: .int (Int32.ofInt i) :: rf g x :: _))
  rw [rf_ref hA.1]
  refine va_last (cA := gC g 1) (n := lenOf t x) (f := fun j => Int64.ofInt (σ x j)) hC.1 hC.2.1 hC.2.2.2.2.2.2.2.2.1 hH.1 (world_D g t σ) hS x.toNat 1 (by rw [world_atI hA.1 hA.2]; rfl) (tyL_at g (by decide)) (in_of h0 hn hb) hd (fun H1 locs1 hP1 hD1 hS1 => ?_)
  have hse := world_set (g := g) (s := σ) (s' := up σ x i y) hA.1 hA.2 (fun o ho => up_ne ho) (e' := .inl (gC g 1, lenOf t x, .inr (.inl (vp_updL (fun j : Nat => Int64.ofInt (σ x j)) (Int32.ofInt i).toNatClampNeg (Int64.ofInt y))))) (by
    rw [← updL_up h0 hb]; rfl)
  rw [hse] at hP1
  exact kk p en R s m args below meth c H1 locs1 cells slots QM lsA hC h1 h2 h3 h4 (Hld_of hP1 hm hS1 hZ.1) hS1 hZ hls hol (okTs_tl (okTs_tl (okTs_tl hos))) hr
theorem r_aald {x i : Int} (hA : isT t x 5) (h0 : 0 ≤ i) (hn : i < lenOf t x) (hd : decode (mC e) pc = .ok (.aaload, 1)) (kk : Wp l g e d kc ks (pc + 1) ls (vR (σ x i) :: st) t σ Q) : Wp l g e d kc ks pc ls (vI i :: vR x :: st) t σ Q := by
  intro p en R s m args below meth c H locs cells slots QM lsA hC h1 h2 h3 h4 hH hS hZ hls hol hos hr
  have hb : b32 i := okTs_hd hos
  have hv : -1 ≤ σ x i := okS_at hH.2.1 hA h0
  have kw := kk p en R s m args below meth c H locs cells slots QM lsA hC h1 h2 h3 h4 hH hS hZ hls hol (okTs_cons trivial (okTs_tl (okTs_tl hos))) hr
  show W _ _ _ _ _ _ _ _ _ _ _ _ _ _ _ (F0 _ _ _ (.int (Int32.ofInt i) :: rf g x :: _))
  rw [rf_ref hA.1]
  exact va_aldq (cA := gC g 5) (C := "StruckColours$Sea") (n := lenOf t x) (f := fun j => rfo g (σ x j)) hC.1 hC.2.1 hC.2.2.2.2.2.2.2.2.1 hH.1 x.toNat 5 (by rw [world_atI hA.1 hA.2]; rfl) (tyL_at g (by decide)) (in_of h0 hn hb) hd (by rw [rd_at (σ := σ) (x := x) h0 hb, rf_rfo hv]; exact kw)
theorem r_aast {x i y : Int} (hA : isT t x 5) (hy : isO t y 5) (h0 : 0 ≤ i) (hn : i < lenOf t x) (hd : decode (mC e) pc = .ok (.aastore, 1)) (kk : Wp l g e d kc ks (pc + 1) ls st t (up σ x i y) Q) : Wp l g e d kc ks pc ls (vR y :: vI i :: vR x :: st) t σ Q := by
  intro p en R s m args below meth c H locs cells slots QM lsA hC h1 h2 h3 h4 hH hS hZ hls hol hos hr
  obtain ⟨hy0, fin, hys⟩ := hy
  have hb : b32 i := okTs_hd (okTs_tl hos)
  have hm : MemOk t (up σ x i y) := MemOk_up hH.2.1 hA.1 h0 hA.2 (show -1 ≤ y by omega)
  show W _ _ _ _ _ _ _ _ _ _ _ _ _ _ _ (F0 _ _ _ (rf g y :: .int (Int32.ofInt i) :: rf g x :: _))
  rw [rf_ref hA.1, rf_ref hy0]
  refine va_astq (cA := gC g 5) (r := (RX5, TX5, 9)) (n := lenOf t x) (f := fun j => rfo g (σ x j)) hC.1 hC.2.1 hC.2.2.2.2.2.2.2.2.1 hH.1 (world_D g t σ) hS x.toNat 5 y.toNat 5 (by rw [world_atI hA.1 hA.2]; rfl) (tyL_at g (by decide)) (by rw [world_atI hy0 hys]; rfl) rfl (in_of h0 hn hb) hd (fun H1 locs1 hP1 hD1 hS1 => ?_)
  have hse := world_set (g := g) (s := σ) (s' := up σ x i y) hA.1 hA.2 (fun o ho => up_ne ho) (e' := .inl (gC g 5, lenOf t x, .inr (.inr (.inr (.inr (va_up (fun j : Nat => rfo g (σ x j)) (Int32.ofInt i).toNatClampNeg (some (gO g + y.toNat)))))))) (by
    rw [show some (gO g + y.toNat) = rfo g y by simp [rfo, hy0], ← updR_up h0 hb]; rfl)
  rw [hse] at hP1
  exact kk p en R s m args below meth c H1 locs1 cells slots QM lsA hC h1 h2 h3 h4 (Hld_of hP1 hm hS1 hZ.1) hS1 hZ hls hol (okTs_tl (okTs_tl (okTs_tl hos))) hr
theorem r_alen {x : Int} {ty : Nat} (hty : ty ≤ 5) (hA : isT t x ty) (hn : lenOf t x < 2147483648) (hd : decode (mC e) pc = .ok (.arraylength, 1)) (kk : Wp l g e d kc ks (pc + 1) ls (vI (lenOf t x) :: st) t σ Q) : Wp l g e d kc ks pc ls (vR x :: st) t σ Q := by
  intro p en R s m args below meth c H locs cells slots QM lsA hC h1 h2 h3 h4 hH hS hZ hls hol hos hr
  have kw := kk p en R s m args below meth c H locs cells slots QM lsA hC h1 h2 h3 h4 hH hS hZ hls hol (okTs_cons (show b32 _ by unfold b32; omega) (okTs_tl hos)) hr
  show W _ _ _ _ _ _ _ _ _ _ _ _ _ _ _ (F0 _ _ _ (rf g x :: _))
  rw [rf_ref hA.1]
  exact va_alen (cA := gC g ty) (x := (lenOf t x, arrE g ty (σ x))) hC.1 hC.2.1 hC.2.2.2.2.2.2.2.2.1 hH.1 x.toNat ty (by rw [world_atI hA.1 hA.2]; rfl) (tyL_at g hty) Int32.ofInt_eq_ofNat.symm hd kw
theorem rf_st {g : GE} {i : Nat} (h : 2 ≤ i) : rf g (-(i : Int)) = .ref (gS g i) := by
  unfold rf
  rw [if_neg (by omega), if_neg (by omega)]
  congr 2
  omega
theorem r_slen {i : Nat} (h2i : 2 ≤ i) (hi5 : i ≤ 5) (hd : decode (mC e) pc = .ok (.arraylength, 1)) (kk : Wp l g e d kc ks (pc + 1) ls (vI (sLen g i) :: st) t σ Q) : Wp l g e d kc ks pc ls (vR (-(i : Int)) :: st) t σ Q := by
  intro p en R s m args below meth c H locs cells slots QM lsA hC h1 h2 h3 h4 hH hS hZ hls hol hos hr
  have hg := hC.2.2.2.2.2.2.2.2.2.2.2.2.2.2
  have hn : sLen g i < 2147483648 := by
    unfold sLen
    split
    · exact hg
    · split <;> omega
  have kw := kk p en R s m args below meth c H locs cells slots QM lsA hC h1 h2 h3 h4 hH hS hZ hls hol (okTs_cons (show b32 _ by unfold b32; omega) (okTs_tl hos)) hr
  show W _ _ _ _ _ _ _ _ _ _ _ _ _ _ _ (F0 _ _ _ (rf g (-(i : Int)) :: _))
  rw [rf_st h2i]
  exact va_tlen hC.1 hC.2.1 (hC.2.2.2.2.2.2.2.2.2.2.2.1 i h2i hi5) hS Int32.ofInt_eq_ofNat.symm hd kw
theorem r_sald {i : Nat} {j : Int} (h3i : 3 ≤ i) (hi5 : i ≤ 5) (h0 : 0 ≤ j) (hn : j < sLen g i) (hd : decode (mC e) pc = .ok (.iaload, 1)) (kk : Wp l g e d kc ks (pc + 1) ls (vI (sCt g i j.toNat) :: st) t σ Q) : Wp l g e d kc ks pc ls (vI j :: vR (-(i : Int)) :: st) t σ Q := by
  intro p en R s m args below meth c H locs cells slots QM lsA hC h1 h2 h3 h4 hH hS hZ hls hol hos hr
  have hb : b32 j := okTs_hd hos
  have kw := kk p en R s m args below meth c H locs cells slots QM lsA hC h1 h2 h3 h4 hH hS hZ hls hol (okTs_cons (hC.2.2.2.2.2.2.2.2.2.2.2.2.2.1 i j.toNat) (okTs_tl (okTs_tl hos))) hr
  show W _ _ _ _ _ _ _ _ _ _ _ _ _ _ _ (F0 _ _ _ (.int (Int32.ofInt j) :: rf g (-(i : Int)) :: _))
  rw [rf_st (by omega)]
  have hT := hC.2.2.2.2.2.2.2.2.2.2.2.1 i (by omega) hi5
  have hty : sTy i = 0 := by unfold sTy; rw [if_neg (by omega)]
  rw [hty] at hT
  exact va_ti hC.1 hC.2.1 hT hS (in_of h0 hn hb) (v := .int (Int32.ofInt (sCt g i j.toNat))) (by rw [clamp_of' hb]) hd kw
theorem r_scald {j : Int} (h0 : 0 ≤ j) (hn : j < 7) (hd : decode (mC e) pc = .ok (.caload, 1)) (kk : Wp l g e d kc ks (pc + 1) ls (vI (sCt g 2 j.toNat) :: st) t σ Q) : Wp l g e d kc ks pc ls (vI j :: vR (-2) :: st) t σ Q := by
  intro p en R s m args below meth c H locs cells slots QM lsA hC h1 h2 h3 h4 hH hS hZ hls hol hos hr
  have hb : b32 j := okTs_hd hos
  have kw := kk p en R s m args below meth c H locs cells slots QM lsA hC h1 h2 h3 h4 hH hS hZ hls hol (okTs_cons (hC.2.2.2.2.2.2.2.2.2.2.2.2.2.1 2 j.toNat) (okTs_tl (okTs_tl hos))) hr
  show W _ _ _ _ _ _ _ _ _ _ _ _ _ _ _ (F0 _ _ _ (.int (Int32.ofInt j) :: rf g (-((2 : Nat) : Int)) :: _))
  rw [rf_st (by omega)]
  have hT := hC.2.2.2.2.2.2.2.2.2.2.2.1 2 (by omega) (by omega)
  exact va_tc hC.1 hC.2.1 hT hS (in_of h0 (by exact hn) hb) (v := .int (Int32.ofInt (sCt g 2 j.toNat))) (by rw [clamp_of' hb]) hd kw
def sLink (own : String) (idx i : Nat) : Bool := decide (Cond.fieldLink own idx "StruckColours" (sNm i).1 (sNm i).2 ∈ lw_tbl) && goodWord (Cond.fieldLink own idx "StruckColours" (sNm i).1 (sNm i).2)
theorem r_gets {idx i : Nat} (h2i : 2 ≤ i) (hi4 : i ≤ 4) (hl : sLink (mN e).cls idx i = true) (hd : decode (mC e) pc = .ok (.getstatic idx, 3)) (kk : Wp l g e d kc ks (pc + 3) ls (vR (-(i : Int)) :: st) t σ Q) : Wp l g e d kc ks pc ls st t σ Q := by
  intro p en R s m args below meth c H locs cells slots QM lsA hC h1 h2 h3 h4 hH hS hZ hls hol hos hr
  have kw := kk p en R s m args below meth c H locs cells slots QM lsA hC h1 h2 h3 h4 hH hS hZ hls hol (okTs_cons trivial hos) hr
  rw [List.map_cons, show cv g (vR (-(i : Int))) = rf g (-(i : Int)) from rfl, rf_st h2i] at kw
  unfold sLink at hl
  simp only [Bool.and_eq_true, decide_eq_true_eq] at hl
  exact va_gets hC.1 hC.2.1 (hC.2.2.2.2.2.2.2.2.2.2.2.2.1 i h2i hi4) hS hC.2.2.2.2.1 (hC.2.2.2.2.2.1 _ (List.mem_filter.mpr hl)) (fun _ z => z) hd kw
def cpy (σ : Mem) (a sp b dp n : Int) : Mem := fun o j => if o = b ∧ dp ≤ j ∧ j < dp + n then σ a (j - dp + sp) else σ o j
def cLink (own : String) (idx : Nat) : Bool := inALL [Cond.methodLink own idx arraycopyName, Cond.native arraycopyName, Cond.static arraycopyName, Cond.initialized "java/lang/System"]
theorem nfw : nativeFrameWords "java/lang/System" "arraycopy" 5 ≤ 40 := by decide +kernel
theorem r_copy {idx : Nat} {a b sp dp n : Int} (hA : isT t a 0) (hB : isT t b 0) (q1 : 0 ≤ sp) (q2 : 0 ≤ dp) (q3 : 0 ≤ n) (q4 : sp + n ≤ lenOf t a) (q5 : dp + n ≤ lenOf t b) (hst : (st.map catT).sum ≤ 8) (hl : cLink (mN e).cls idx = true) (hd : decode (mC e) pc = .ok (.invokestatic idx, 3))
    (kk : Wp l g e (d + 1) kc ks (pc + 3) ls st t (cpy σ a sp b dp n) Q) : Wp l g e (d + 1) kc ks pc ls (vI n :: vI dp :: vR b :: vI sp :: vR a :: st) t σ Q := by
  intro p en R s m args below meth c H locs cells slots QM lsA hC h1 h2 h3 h4 hH hS hZ hls hol hos hr
  have hn : b32 n := okTs_hd hos
  have hdp : b32 dp := okTs_hd (okTs_tl hos)
  have hsp : b32 sp := okTs_hd (okTs_tl (okTs_tl (okTs_tl hos)))
  have hwd := inALL_of hl
  have w1 := hC.2.2.2.2.2.1 _ (hwd _ List.mem_cons_self)
  have w2 := hC.2.2.2.2.2.1 _ (hwd _ (List.mem_cons_of_mem _ List.mem_cons_self))
  have w3 := hC.2.2.2.2.2.1 _ (hwd _ (List.mem_cons_of_mem _ (List.mem_cons_of_mem _ List.mem_cons_self)))
  have w4 := hC.2.2.2.2.2.1 _ (hwd _ (List.mem_cons_of_mem _ (List.mem_cons_of_mem _ (List.mem_cons_of_mem _ List.mem_cons_self))))
  have hm : MemOk t (cpy σ a sp b dp n) := by
    intro k sh hk j
    unfold cpy
    by_cases hc : (k : Int) = b ∧ dp ≤ (j : Int) ∧ (j : Int) < dp + n
    · rw [if_pos hc]
      have hkb : k = b.toNat := by omega
      rw [hkb, hB.2] at hk
      cases hk
      exact okS_at hH.2.1 hA (i := (j : Int) - dp + sp) (by omega)
    · rw [if_neg hc]
      exact hH.2.1 k sh hk j
  show W _ _ _ _ _ _ _ _ _ _ _ _ _ _ _ (F0 _ _ _ (.int (Int32.ofInt n) :: .int (Int32.ofInt dp) :: rf g b :: .int (Int32.ofInt sp) :: rf g a :: _))
  rw [rf_ref hA.1, rf_ref hB.1]
  refine va_copyi (c0 := gC g 0) (c1 := gC g 0) (n0 := lenOf t a) (n1 := lenOf t b) (f := fun j => Int32.ofInt (σ a j)) (g := fun j => Int32.ofInt (σ b j)) (ty := .int) hC.1 hC.2.1 (hC.2.2.2.1.trans hls.1.symm) hC.2.2.2.2.1 w1 w2 w3 w4 hC.2.2.2.2.2.2.2.2.1 hH.1 (world_D g t σ) hS a.toNat b.toNat 0 0 (by rw [world_atI hA.1 hA.2]; rfl) (by rw [world_atI hB.1 hB.2]; rfl) (tyL_at g (by decide)) (tyL_at g (by decide)) rfl
    (fun z => by have := (lt_of hsp b32_0).mp z; omega) (fun z => by have := (lt_of hdp b32_0).mp z; omega) (fun z => by have := (lt_of hn b32_0).mp z; omega) (by rw [clamp_of' hsp, clamp_of' hn]; omega) (by rw [clamp_of' hdp, clamp_of' hn]; omega) (fun i _ => rfl) (by omega) (by rw [cat_map]; have := nfw; omega) hd (fun H1 locs1 hP1 hD1 hS1 => ?_)
  have hse := world_set (g := g) (s := σ) (s' := cpy σ a sp b dp n) hB.1 hB.2 (fun o ho => by funext j; simp [cpy, ho]) (e' := .inl (gC g 0, lenOf t b, .inl (va_cpy (fun j : Nat => Int32.ofInt (σ a j)) (fun j : Nat => Int32.ofInt (σ b j)) (Int32.ofInt sp).toNatClampNeg (Int32.ofInt dp).toNatClampNeg (Int32.ofInt n).toNatClampNeg))) (by
    rw [clamp_of' hsp, clamp_of' hdp, clamp_of' hn]
    show Sum.inl (gC g 0, lenOf t b, Sum.inl (fun j : Nat => Int32.ofInt (cpy σ a sp b dp n b j))) = _
    have : (fun j : Nat => Int32.ofInt (cpy σ a sp b dp n b j)) = va_cpy (fun j : Nat => Int32.ofInt (σ a j)) (fun j : Nat => Int32.ofInt (σ b j)) sp.toNat dp.toNat n.toNat := by
      funext j
      unfold cpy va_cpy
      by_cases hc : dp.toNat ≤ j ∧ j < dp.toNat + n.toNat
      · rw [if_pos hc, if_pos ⟨rfl, by omega, by omega⟩]
        congr 2
        omega
      · rw [if_neg hc, if_neg (fun z => hc (by omega))]
    rw [this])
  rw [hse] at hP1
  exact kk p en R s m args below meth c H1 locs1 cells slots QM lsA hC h1 h2 h3 h4 (Hld_of hP1 hm hS1 hZ.1) hS1 hZ hls hol (okTs_tl (okTs_tl (okTs_tl (okTs_tl (okTs_tl hos))))) hr
end ARR
end
section
/-! returns, entries, calls -/
theorem map_toList (g : GE) (v : Option TV) (st : List TV) : (v.map (cv g)).toList ++ st.map (cv g) = (v.toList ++ st).map (cv g) := by
  cases v <;> simp
def largs : Nat → List TV → List (Nat × TV)
  | _, [] => []
  | i, v :: vs => (i, v) :: largs (i + catT v) vs
theorem largs_cv (g : GE) : ∀ (as : List TV) (i : Nat), lv_args i (as.map (cv g)) = cvL g (largs i as)
  | [], _ => rfl
  | v :: vs, i => by
    show (i, cv g v) :: lv_args (if (cv g v).category = 2 then i + 2 else i + 1) (vs.map (cv g)) = (i, cv g v) :: cvL g (largs (i + catT v) vs)
    rw [cv_cat]
    have : (if catT v = 2 then i + 2 else i + 1) = i + catT v := by
      match v with
      | .inl _ => rfl
      | .inr (.inl _) => rfl
      | .inr (.inr _) => rfl
    rw [this, largs_cv g vs]
theorem largs_ok : ∀ (as : List TV) (i : Nat), okTs as → okLs (largs i as)
  | [], _, _ => fun q hq => by cases hq
  | v :: vs, i, h => fun q hq => by
    rcases List.mem_cons.mp hq with h1 | h1
    · rw [h1]; exact okTs_hd h
    · exact largs_ok vs _ (okTs_tl h) q h1
theorem lg_len (g : GE) : ∀ as : List TV, (lg_sl (as.map (cv g))).length = (as.map catT).sum
  | [] => rfl
  | v :: vs => by
    have ih := lg_len g vs
    unfold lg_sl at ih ⊢
    rw [List.map_cons, List.flatMap_cons, List.length_append, ih, List.map_cons, List.sum_cons, cv_cat]
    congr 1
    match v with
    | .inl _ => rfl
    | .inr (.inl _) => rfl
    | .inr (.inr _) => rfl
section CAL
variable {l : Launch} {g : GE} {e d kc ks pc : Nat} {ls : List (Nat × TV)} {st : List TV} {t : Tau} {σ : Mem} {Q : Post}
theorem r_ret {i : Instr} {v : Option TV} (hst : st = v.toList) (hd : decode (mC e) pc = .ok (i, 1)) (hro : rOK e i v) (hk : kc = 0 ∨ gB g = false) (hQ : Q v t σ) : Wp l g e d kc ks pc ls st t σ Q := by
  intro p en R s m args below meth c H locs cells slots QM lsA hC h1 h2 h3 h4 hH hS hZ hls hol hos hr
  subst hst
  refine hr v t σ H locs cells slots lsA pc i hQ (fun x hx => hos x (by rw [hx]; exact List.mem_singleton.mpr rfl)) hH hS (by omega) (by omega) (fun z => ?_) hd hro
  rcases hk with hk | hk
  · have := hZ.2 z; omega
  · rw [hk] at z; cases z
theorem narrow_z {x : Int} (h : x = 0 ∨ x = 1) : narrow .boolean (.int (Int32.ofInt x)) = .int (Int32.ofInt x) := by
  rcases h with rfl | rfl
  · show Value.int (Int32.ofInt 0 &&& 1) = Value.int (Int32.ofInt 0); decide +kernel
  · show Value.int (Int32.ofInt 1 &&& 1) = Value.int (Int32.ofInt 1); decide +kernel
theorem narrow_c {x : Int} (h0 : 0 ≤ x) (h1 : x < 65536) : narrow .char (.int (Int32.ofInt x)) = .int (Int32.ofInt x) := by
  show Value.int (Int32.ofInt x).toUInt32.toUInt16.toUInt32.toInt32 = _
  congr 1
  obtain ⟨n, rfl⟩ := Int.eq_ofNat_of_zero_le h0
  have hn : n < 65536 := by omega
  rw [Int32.ofInt_eq_ofNat]
  have h2 : (Int32.ofNat n).toUInt32 = UInt32.ofNat n := rfl
  rw [h2]
  have h3 : (UInt32.ofNat n).toUInt16.toUInt32 = UInt32.ofNat n := by
    apply UInt32.toNat_inj.mp
    simp only [UInt16.toNat_toUInt32, UInt32.toNat_toUInt16, UInt32.toNat_ofNat']
    omega
  rw [h3]
  rfl
theorem wp_in {as : List TV} (hy : plainName (mN e).cls = true) (hl : (as.map catT).sum ≤ mL e) (k : Wp l g e d kc ks 0 (largs 0 as) [] t σ Q) : WPc l g e d kc ks as t σ Q := by
  refine Met.ofW (cc := mC e) (maxL := mL e) (ret := mR e) hy rfl ?_
  intro p en s m args below meth c s₁ B hml hv
  obtain ⟨rfl, hok, hKF, hH, hO, hT⟩ := hv
  have hle := lv_entry (as.map (cv g)) (n := mL e) (by rw [lg_len]; exact hl)
  rw [lg_entry_eq]
  generalize (lg_sl (as.map (cv g)) ++ List.replicate (mL e - (lg_sl (as.map (cv g))).length) Slot.unset).toArray = lsA at hle ⊢
  rw [largs_cv] at hle
  have hrt : meth.sig.returnType = mR e := B.returns
  have hlocks := B.notSynchronized
  have hx := B.exec
  have hb : c.code = mC e := B.bytes
  refine k p en (rmD d kc ks) s m _ below meth c s.heap [] 0 0 _ lsA ⟨hx, hb, hrt, hml, findClass_of_methodNamed B.named, fun w hw => atoms_spec (ws := wsM e) B.pre w (List.mem_cons_of_mem _ hw), hlocks, (name_of_methodNamed B.named B.method).1, hKF⟩ (Nat.le_refl _) (Nat.le_refl _) (by show 0 + kc ≤ kc; omega) (by show 0 + ks ≤ ks; omega) hH va_S.rf ⟨hO, fun z => by have := hT z; omega⟩ hle (largs_ok as 0 hok) (fun q hq => by cases hq) ?_
  intro v t' σ' H locs cells slots lsA' pc' i hQ hok' hH' hS' hc hs hT' hd hro
  refine W.widen (k := kc) (n := ks) (by omega) (by omega) ?_
  have hq : ∀ (ov : Option Value), ov = v.map (cv g) → ∀ u : State, u.heap = H → s.WarmedH u.vm → QcM g kc Q ((as.map (cv g)).toArray) s (.returned ov) u := fun ov ho u hu _ => ⟨v, t', σ', by rw [ho], hQ, hok', by rw [hu]; exact hH', hS'.F hu, fun z => by have := hT' z; omega⟩
  unfold rOK at hro
  split at hro
  · rename_i h
    subst hro
    exact W.vret hx hb (hrt.trans h) (hq none rfl) hS'.2.2 hd
  · rename_i y h
    subst hro
    exact W.iret hx hb (hrt.trans h) (hq _ rfl) hS'.2.2 hd
  · rename_i y h
    obtain ⟨rfl, hy⟩ := hro
    exact W.zret hx hb (hrt.trans h) (narrow_z hy) (hq _ rfl) hS'.2.2 hd
  · rename_i y h
    obtain ⟨rfl, hy0, hy1⟩ := hro
    exact W.zret hx hb (hrt.trans h) (narrow_c hy0 hy1) (hq _ rfl) hS'.2.2 hd
  · rename_i y h
    subst hro
    exact W.lret hx hb (hrt.trans h) (hq _ rfl) hS'.2.2 hd
  · rename_i n y h
    subst hro
    refine W.aret hx hb (hrt.trans h) (Or.inl ⟨_, rfl⟩) ?_ (hq _ rfl) hS'.2.2 hd
    rcases rf_cases g y with ⟨-, h⟩ | ⟨-, a, h⟩
    · exact Or.inl h
    · exact Or.inr ⟨a, h⟩
  · cases hro
theorem wcall {p : Program} {en : Env} {R : Room} {s : State} {m : MethodId} {args a : Array Value} {below : List Frame} {meth : Method} {c : Code} {H : Heap} {locs : List Loc} {cells slots mc ms : Nat} {QM : State → Prop} {lsA : Array Slot} {st0 rest : List Value} {Q' : Post}
    (hr : va_Run p l en R s m args below meth c H locs cells slots mc ms (F0 m pc lsA st0) rest (QcM g mc Q' a) (Ag g)) (hS : va_S (Ag g) s.heap H locs)
    (kk : ∀ (v : Option TV) (t' : Tau) (σ' : Mem) (H1 : Heap) (locs1 : List Loc), Q' v t' σ' → okO v → Hld g t' σ' H1 → va_S (Ag g) s.heap H1 locs1 → (gB g = true → H.size + mc ≤ gO g + t'.length) →
      W p l en R s m args below meth c H1 locs1 (cells + mc) (slots + ms) QM (F0 m (pc + 3) lsA ((v.map (cv g)).toList ++ rest))) : W p l en R s m args below meth c H locs cells slots QM (F0 m pc lsA st0) := by
  intro T hT X
  obtain ⟨v, st₀, u, T', L, h0, X', hL, e1, e2, ⟨v', t', σ', hv, hQ, hok, hH, ⟨hz, hk⟩, hG⟩, stp⟩ := hr T hT X
  have hv' : v = v'.map (cv g) := Outcome.returned.inj hv
  subst hv'
  rw [h0] at hz hk hG
  obtain ⟨t2, a1, b1⟩ := kk v' t' σ' T'.heap (locs ++ L) hQ hok (by rw [e1]; exact hH)
    ⟨Nat.le_trans hS.1 (by rw [e1]; exact hz), fun q h1 h2 => by rw [e1, hk q (Nat.lt_of_lt_of_le h1 hS.1) h2]; exact hS.2.1 q h1 h2, fun q hq => by
      rcases List.mem_append.mp hq with h | h
      · exact hS.2.2 q h
      · exact hL q h⟩ hG T' rfl X'
  exact ⟨t2, stp t2 a1, b1⟩
/-- the words of a call: 0 virtual, 1 virtual of a nest mate, 2 static, 3 static of a nest mate, 4 constructor, 5 of a nest mate -/
def callOk (kind : Nat) (own : String) (idx e' n : Nat) : Bool :=
  decide ((mN e').cls ≠ "java/lang/invoke/MethodHandle") && decide ((mN e').cls ≠ "java/lang/invoke/VarHandle") && decide ((parseMethodDescriptor (mN e').desc).map (fun d => d.parameters.length) = some n) && decide (mL e' ≤ 45) &&
  inALL [Cond.code (mN e') (mC e') (mL e') (mR e'), Cond.initialized (mN e').cls] &&
  (if kind = 0 ∨ kind = 1 then inALL [Cond.instanceMethod (mN e'), Cond.selects (mN e').cls (mN e') (mN e')] else if kind = 2 ∨ kind = 3 then inALL [Cond.static (mN e')] else inALL [Cond.instanceMethod (mN e')] && decide ((mN e').name = "<init>") && decide (mR e' = none)) &&
  (if kind % 2 = 0 then inALL [Cond.methodLink own idx (mN e')] else decide (Cond.methodLinkNest own idx (mN e') "StruckColours" ∈ tables_1))
theorem GoodAll {e' e : Nat} (h : Cond.code (mN e') (mC e') (mL e') (mR e') ∈ ALL) : GoodIn ALL (wsM e') := by
  intro w hw
  rcases List.mem_cons.mp hw with h1 | h1
  · rw [h1]; exact ⟨h, good_of_word (List.mem_filter.mp h).2⟩
  · exact ⟨h1, good_of_word (List.mem_filter.mp h1).2⟩
theorem m1 {a : Cond} {ws : List Cond} : a ∈ a :: ws := List.mem_cons_self
theorem m2 {a b : Cond} {ws : List Cond} : a ∈ b :: a :: ws := List.mem_cons_of_mem _ List.mem_cons_self
/-- behind any call -/
theorem r_call {mc ms : Nat} {as : List TV} {p : Program} {en : Env} {R : Room} {s : State} {m : MethodId} {args : Array Value} {below : List Frame} {meth : Method} {c : Code} {H : Heap} {locs : List Loc} {cells slots : Nat} {QM : State → Prop} {lsA : Array Slot} {st0 : List Value} {Q' : Post}
    (hmc : mc ≤ kc) (hms : ms ≤ ks) (hQ' : ∀ v t' σ', Q' v t' σ' → Wp l g e d (kc - mc) (ks - ms) (pc + 3) ls (v.toList ++ st) t' σ' Q)
    (hC : CxF g e p s m args meth c) (h1 : d ≤ R.frames) (h2 : 64 * d ≤ R.locals) (h3 : cells + kc ≤ R.cells) (h4 : slots + ks ≤ R.slots) (hH : Hld g t σ H) (hS : va_S (Ag g) s.heap H locs) (hZ : gO g ≤ s.heap.size ∧ (gB g = true → s.heap.size + cells ≤ gO g + t.length)) (hls : lv_has lsA (mL e) (cvL g ls)) (hol : okLs ls) (hos : okTs st) (hr : RetK l g e Q (cells + kc) (slots + ks) p en R s m args below meth c QM)
    (hrun : va_Run p l en R s m args below meth c H locs cells slots mc ms (F0 m pc lsA st0) (st.map (cv g)) (QcM g mc Q' ((as.map (cv g)).toArray)) (Ag g)) : W p l en R s m args below meth c H locs cells slots QM (F0 m pc lsA st0) := by
  refine wcall hrun hS fun v t' σ' H1 locs1 q1 q2 q3 q4 q5 => ?_
  rw [map_toList]
  refine hQ' v t' σ' q1 p en R s m args below meth c H1 locs1 (cells + mc) (slots + ms) QM lsA hC h1 h2 (by omega) (by omega) q3 q4 ⟨hZ.1, fun z => ?_⟩ hls hol ?_ ?_
  · have a := hZ.2 z
    have b := q5 z
    have c := hH.2.2
    omega
  · intro x hx
    rcases List.mem_append.mp hx with h | h
    · cases v with
      | none => cases h
      | some y => rw [List.mem_singleton.mp h]; exact q2 y rfl
    · exact hos x h
  · rw [show cells + mc + (kc - mc) = cells + kc by omega, show slots + ms + (ks - ms) = slots + ks by omega]
    exact hr
theorem pc_in {as : List TV} {s U : State} {m : MethodId} {p : Program} {args : Array Value} {meth : Method} {c : Code} {H : Heap} {locs : List Loc} {cells : Nat} (hC : CxF g e p s m args meth c) (hH : Hld g t σ H) (hS : va_S (Ag g) s.heap H locs) (hZ : gO g ≤ s.heap.size ∧ (gB g = true → s.heap.size + cells ≤ gO g + t.length)) (hsz : H.size ≤ s.heap.size + cells) (hoa : okTs as) (hU : U.heap = H) (hW : s.WarmedH U.vm) : PcM g as t σ ((as.map (cv g)).toArray) U := by
  refine ⟨rfl, hoa, hC.2.2.2.2.2.2.2.2.go hW (by rw [hU]; exact hS), by rw [hU]; exact hH, by rw [hU]; exact Nat.le_trans hZ.1 hS.1, fun z => ?_⟩
  have := hZ.2 z
  rw [hU]; omega
theorem r_callV {kind idx e' n mc ms ci : Nat} {as : List TV} {x : Int} {q : vw_C} (hkd : kind = 0 ∨ kind = 1) (hq : vwCl[ci]? = some q) (hqc : q.1 = (mN e').cls) (hO : isO t x ci) (hk : callOk kind (mN e).cls idx e' n = true) (hn : as.length = n) (hst : (st.map catT).sum ≤ 8) (hmc : mc ≤ kc) (hms : ms ≤ ks) (hd : decode (mC e) pc = .ok (.invokevirtual idx, 3))
    (kk : WPc l g e' d mc ms (vR x :: as) t σ (fun v t' σ' => Wp l g e (d + 1) (kc - mc) (ks - ms) (pc + 3) ls (v.toList ++ st) t' σ' Q)) : Wp l g e (d + 1) kc ks pc ls (as.reverse ++ vR x :: st) t σ Q := by
  intro p en R s m args below meth c H locs cells slots QM lsA hC h1 h2 h3 h4 hH hS hZ hls hol hos hr T hT X
  obtain ⟨hx, fin, hs⟩ := hO
  have hsz : H.size ≤ s.heap.size + cells := by rw [← hT]; exact X.same.2.2.1
  unfold callOk at hk
  simp only [Bool.and_eq_true, decide_eq_true_eq, ne_eq] at hk
  obtain ⟨⟨⟨⟨⟨⟨k1, k2⟩, k3⟩, k4⟩, k5⟩, k6⟩, k7⟩ := hk
  rw [if_pos hkd] at k6
  have w5 := inALL_of k5
  have w6 := inALL_of k6
  have hts := hC.2.2.2.2.2.1
  have hstk : ((as.reverse ++ vR x :: st).map (cv g)) = (as.map (cv g)).reverse ++ .ref (gO g + x.toNat) :: st.map (cv g) := by
    rw [List.map_append, List.map_reverse, List.map_cons, show cv g (vR x) = rf g x from rfl, rf_ref hx]
  have hoa : okTs (vR x :: as) := okTs_cons trivial fun v hv => hos v (List.mem_append_left _ (List.mem_reverse.mpr hv))
  have hor : okTs st := fun v hv => hos v (List.mem_append_right _ (List.mem_cons_of_mem _ hv))
  have hpre : PreV s H (mN e').cls (gO g + x.toNat) (PcM g (vR x :: as) t σ) (as.map (cv g)) := by
    refine ⟨PcM_blind g _ t σ, ?_, fun U hU hW => ?_⟩
    · rw [← hqc]
      exact va_recv hC.2.2.2.2.2.2.2.2.1 hH.1 hq (world_atI (g := g) (s := σ) hx hs)
    · have := pc_in (U := U) hC hH hS hZ hsz hoa hU hW
      rw [List.map_cons, show cv g (vR x) = rf g x from rfl, rf_ref hx] at this
      exact this
  have hS0 : CallFix p m c (mC e) (mL e) s args ALL (mN e).cls := ⟨hC.1, hC.2.1, hC.2.2.2.1, hC.2.2.2.2.1, hts⟩
  have hsg : ∀ sig, parseMethodDescriptor (mN e').desc = some sig → n = sig.parameters.length := fun sig h => by
    rw [h] at k3
    exact (Option.some.inj k3).symm
  have hMt : Met l (mN e') (wsM e') (rmD d mc ms) (PcM g (vR x :: as) t σ) (QcM g mc (fun v t' σ' => Wp l g e (d + 1) (kc - mc) (ks - ms) (pc + 3) ls (v.toList ++ st) t' σ' Q)) mc ms (Ag g) := kk
  have hbk : (rmD d mc ms).cells = mc ∧ (rmD d mc ms).slots = ms ∧ (rmD d mc ms).frames + 1 ≤ R.frames ∧ 8 + (mL e' + 11) + (rmD d mc ms).locals ≤ R.locals := ⟨rfl, rfl, h1, by show 8 + (mL e' + 11) + 64 * d ≤ R.locals; omega⟩
  have hrun : va_Run p l en R s m args below meth c H locs cells slots mc ms (F0 m pc lsA ((as.reverse ++ vR x :: st).map (cv g))) (st.map (cv g)) (QcM g mc (fun v t' σ' => Wp l g e (d + 1) (kc - mc) (ks - ms) (pc + 3) ls (v.toList ++ st) t' σ' Q) ((((vR x :: as).map (cv g))).toArray)) (Ag g) := by
    rw [List.map_cons, show cv g (vR x) = rf g x from rfl, rf_ref hx]
    rcases hkd with rfl | rfl
    · rw [if_pos rfl] at k7
      exact va_runV hS0 hMt ⟨⟨hbk.1, hbk.2.1, hbk.2.2.1, hbk.2.2.2, pay_in hts (GoodAll (e := e) (w5 _ m1)), List.mem_cons_self, hts _ (w5 _ m1), hts _ (w5 _ m2), ⟨k1, k2⟩, hsg, hts _ (inALL_of k7 _ m1)⟩, hts _ (w6 _ m1), hts _ (w6 _ m2)⟩ hpre rfl (by rw [List.length_map]; exact hn) hls.1 hstk (lv_room (by rw [cat_map]; exact hst)) hd ⟨by omega, by omega⟩
    · rw [if_neg (by decide)] at k7
      have hw : va_Nw (Cond.methodLinkNest (mN e).cls idx (mN e') "StruckColours") s := hC.2.2.2.2.2.2.2.2.2.1 _ (List.mem_filter.mpr ⟨of_decide_eq_true k7, rfl⟩)
      exact va_runVN (host := "StruckColours") hS0 hMt ⟨⟨⟨hbk.1, hbk.2.1, hbk.2.2.1, hbk.2.2.2, pay_in hts (GoodAll (e := e) (w5 _ m1)), List.mem_cons_self⟩, hts _ (w5 _ m1), hts _ (w5 _ m2), ⟨k1, k2⟩, hsg, va_Nw.use rfl hw⟩, hts _ (w6 _ m1), hts _ (w6 _ m2)⟩ hpre rfl (by rw [List.length_map]; exact hn) hls.1 hstk (lv_room (by rw [cat_map]; exact hst)) hd ⟨by omega, by omega⟩
  exact r_call (as := vR x :: as) hmc hms (fun _ _ _ z => z) hC h1 h2 h3 h4 hH hS hZ hls hol hor hr hrun T hT X
theorem r_callS {kind idx e' n mc ms : Nat} {as : List TV} (hkd : kind = 2 ∨ kind = 3) (hk : callOk kind (mN e).cls idx e' n = true) (hn : as.length = n) (hst : (st.map catT).sum ≤ 8) (hmc : mc ≤ kc) (hms : ms ≤ ks) (hd : decode (mC e) pc = .ok (.invokestatic idx, 3))
    (kk : WPc l g e' d mc ms as t σ (fun v t' σ' => Wp l g e (d + 1) (kc - mc) (ks - ms) (pc + 3) ls (v.toList ++ st) t' σ' Q)) : Wp l g e (d + 1) kc ks pc ls (as.reverse ++ st) t σ Q := by
  intro p en R s m args below meth c H locs cells slots QM lsA hC h1 h2 h3 h4 hH hS hZ hls hol hos hr T hT X
  have hsz : H.size ≤ s.heap.size + cells := by rw [← hT]; exact X.same.2.2.1
  unfold callOk at hk
  simp only [Bool.and_eq_true, decide_eq_true_eq, ne_eq] at hk
  obtain ⟨⟨⟨⟨⟨⟨k1, k2⟩, k3⟩, k4⟩, k5⟩, k6⟩, k7⟩ := hk
  rw [if_neg (by omega), if_pos hkd] at k6
  have w5 := inALL_of k5
  have w6 := inALL_of k6
  have hts := hC.2.2.2.2.2.1
  have hstk : ((as.reverse ++ st).map (cv g)) = (as.map (cv g)).reverse ++ st.map (cv g) := by
    rw [List.map_append, List.map_reverse]
  have hoa : okTs as := fun v hv => hos v (List.mem_append_left _ (List.mem_reverse.mpr hv))
  have hor : okTs st := fun v hv => hos v (List.mem_append_right _ hv)
  have hpre : PreS s H (PcM g as t σ) (as.map (cv g)) := ⟨PcM_blind g _ t σ, fun U hU hW => pc_in (U := U) hC hH hS hZ hsz hoa hU hW⟩
  have hS0 : CallFix p m c (mC e) (mL e) s args ALL (mN e).cls := ⟨hC.1, hC.2.1, hC.2.2.2.1, hC.2.2.2.2.1, hts⟩
  have hsg : ∀ sig, parseMethodDescriptor (mN e').desc = some sig → n = sig.parameters.length := fun sig h => by
    rw [h] at k3
    exact (Option.some.inj k3).symm
  have hMt : Met l (mN e') (wsM e') (rmD d mc ms) (PcM g as t σ) (QcM g mc (fun v t' σ' => Wp l g e (d + 1) (kc - mc) (ks - ms) (pc + 3) ls (v.toList ++ st) t' σ' Q)) mc ms (Ag g) := kk
  have hbk : (rmD d mc ms).cells = mc ∧ (rmD d mc ms).slots = ms ∧ (rmD d mc ms).frames + 1 ≤ R.frames ∧ 8 + (mL e' + 11) + (rmD d mc ms).locals ≤ R.locals := ⟨rfl, rfl, h1, by show 8 + (mL e' + 11) + 64 * d ≤ R.locals; omega⟩
  have hrun : va_Run p l en R s m args below meth c H locs cells slots mc ms (F0 m pc lsA ((as.reverse ++ st).map (cv g))) (st.map (cv g)) (QcM g mc (fun v t' σ' => Wp l g e (d + 1) (kc - mc) (ks - ms) (pc + 3) ls (v.toList ++ st) t' σ' Q) ((as.map (cv g)).toArray)) (Ag g) := by
    rcases hkd with rfl | rfl
    · rw [if_pos rfl] at k7
      exact va_runS hS0 hMt ⟨⟨hbk.1, hbk.2.1, hbk.2.2.1, hbk.2.2.2, pay_in hts (GoodAll (e := e) (w5 _ m1)), List.mem_cons_self, hts _ (w5 _ m1), hts _ (w5 _ m2), ⟨k1, k2⟩, hsg, hts _ (inALL_of k7 _ m1)⟩, hts _ (w6 _ m1)⟩ hpre rfl (by rw [List.length_map]; exact hn) hls.1 hstk (lv_room (by rw [cat_map]; exact hst)) hd ⟨by omega, by omega⟩
    · rw [if_neg (by decide)] at k7
      have hw : va_Nw (Cond.methodLinkNest (mN e).cls idx (mN e') "StruckColours") s := hC.2.2.2.2.2.2.2.2.2.1 _ (List.mem_filter.mpr ⟨of_decide_eq_true k7, rfl⟩)
      exact va_runSN (host := "StruckColours") hS0 hMt ⟨⟨⟨hbk.1, hbk.2.1, hbk.2.2.1, hbk.2.2.2, pay_in hts (GoodAll (e := e) (w5 _ m1)), List.mem_cons_self⟩, hts _ (w5 _ m1), hts _ (w5 _ m2), ⟨k1, k2⟩, hsg, va_Nw.use rfl hw⟩, hts _ (w6 _ m1), trivial⟩ hpre rfl (by rw [List.length_map]; exact hn) hls.1 hstk (lv_room (by rw [cat_map]; exact hst)) hd ⟨by omega, by omega⟩
  exact r_call (as := as) hmc hms (fun _ _ _ z => z) hC h1 h2 h3 h4 hH hS hZ hls hol hor hr hrun T hT X
theorem r_callI {kind idx e' n mc ms : Nat} {as : List TV} {x : Int} (hx : 0 ≤ x) (hkd : kind = 4 ∨ kind = 5) (hk : callOk kind (mN e).cls idx e' n = true) (hn : as.length = n) (hst : (st.map catT).sum ≤ 8) (hmc : mc ≤ kc) (hms : ms ≤ ks) (hd : decode (mC e) pc = .ok (.invokespecial idx, 3))
    (kk : WPc l g e' d mc ms (vR x :: as) t σ (fun v t' σ' => Wp l g e (d + 1) (kc - mc) (ks - ms) (pc + 3) ls (v.toList ++ st) t' σ' Q)) : Wp l g e (d + 1) kc ks pc ls (as.reverse ++ vR x :: st) t σ Q := by
  intro p en R s m args below meth c H locs cells slots QM lsA hC h1 h2 h3 h4 hH hS hZ hls hol hos hr T hT X
  have hsz : H.size ≤ s.heap.size + cells := by rw [← hT]; exact X.same.2.2.1
  unfold callOk at hk
  simp only [Bool.and_eq_true, decide_eq_true_eq, ne_eq] at hk
  obtain ⟨⟨⟨⟨⟨⟨k1, k2⟩, k3⟩, k4⟩, k5⟩, k6⟩, k7⟩ := hk
  rw [if_neg (by omega), if_neg (by omega)] at k6
  simp only [Bool.and_eq_true, decide_eq_true_eq] at k6
  obtain ⟨⟨k6, k8⟩, k9⟩ := k6
  have w5 := inALL_of k5
  have w6 := inALL_of k6
  have hts := hC.2.2.2.2.2.1
  have hstk : ((as.reverse ++ vR x :: st).map (cv g)) = (as.map (cv g)).reverse ++ .ref (gO g + x.toNat) :: st.map (cv g) := by
    rw [List.map_append, List.map_reverse, List.map_cons, show cv g (vR x) = rf g x from rfl, rf_ref hx]
  have hoa : okTs (vR x :: as) := okTs_cons trivial fun v hv => hos v (List.mem_append_left _ (List.mem_reverse.mpr hv))
  have hor : okTs st := fun v hv => hos v (List.mem_append_right _ (List.mem_cons_of_mem _ hv))
  have hpre : PreS s H (PcM g (vR x :: as) t σ) (.ref (gO g + x.toNat) :: as.map (cv g)) := by
    refine ⟨PcM_blind g _ t σ, fun U hU hW => ?_⟩
    have := pc_in (U := U) hC hH hS hZ hsz hoa hU hW
    rw [List.map_cons, show cv g (vR x) = rf g x from rfl, rf_ref hx] at this
    exact this
  have hS0 : CallFix p m c (mC e) (mL e) s args ALL (mN e).cls := ⟨hC.1, hC.2.1, hC.2.2.2.1, hC.2.2.2.2.1, hts⟩
  have hsg : ∀ sig, parseMethodDescriptor (mN e').desc = some sig → n = sig.parameters.length := fun sig h => by
    rw [h] at k3
    exact (Option.some.inj k3).symm
  have hMt : Met l (mN e') (wsM e') (rmD d mc ms) (PcM g (vR x :: as) t σ) (QcM g mc (fun v t' σ' => Wp l g e (d + 1) (kc - mc) (ks - ms) (pc + 3) ls (v.toList ++ st) t' σ' Q)) mc ms (Ag g) := kk
  have hbk : (rmD d mc ms).cells = mc ∧ (rmD d mc ms).slots = ms ∧ (rmD d mc ms).frames + 1 ≤ R.frames ∧ 8 + (mL e' + 11) + (rmD d mc ms).locals ≤ R.locals := ⟨rfl, rfl, h1, by show 8 + (mL e' + 11) + 64 * d ≤ R.locals; omega⟩
  have hrun : va_Run p l en R s m args below meth c H locs cells slots mc ms (F0 m pc lsA ((as.reverse ++ vR x :: st).map (cv g))) (st.map (cv g)) (QcM g mc (fun v t' σ' => Wp l g e (d + 1) (kc - mc) (ks - ms) (pc + 3) ls (v.toList ++ st) t' σ' Q) ((((vR x :: as).map (cv g))).toArray)) (Ag g) := by
    rw [List.map_cons, show cv g (vR x) = rf g x from rfl, rf_ref hx]
    have w1 := hts _ (w5 _ m1)
    rw [k9] at w1
    have w0 : Cond.code (mN e') (mC e') (mL e') none ∈ wsM e' := by rw [← k9]; exact List.mem_cons_self
    rcases hkd with rfl | rfl
    · rw [if_pos rfl] at k7
      exact va_runI hS0 hMt ⟨⟨hbk.1, hbk.2.1, hbk.2.2.1, hbk.2.2.2, pay_in hts (GoodAll (e := e) (w5 _ m1)), w0, w1, hts _ (w5 _ m2), ⟨k1, k2⟩, hsg, hts _ (inALL_of k7 _ m1)⟩, k8, hts _ (w6 _ m1)⟩ hpre rfl (by rw [List.length_map]; exact hn) hls.1 hstk (lv_room (by rw [cat_map]; exact hst)) hd ⟨by omega, by omega⟩
    · rw [if_neg (by decide)] at k7
      have hw : va_Nw (Cond.methodLinkNest (mN e).cls idx (mN e') "StruckColours") s := hC.2.2.2.2.2.2.2.2.2.1 _ (List.mem_filter.mpr ⟨of_decide_eq_true k7, rfl⟩)
      exact va_runIN (host := "StruckColours") hS0 hMt ⟨⟨⟨hbk.1, hbk.2.1, hbk.2.2.1, hbk.2.2.2, pay_in hts (GoodAll (e := e) (w5 _ m1)), w0⟩, w1, hts _ (w5 _ m2), ⟨k1, k2⟩, hsg, va_Nw.use rfl hw⟩, k8, hts _ (w6 _ m1)⟩ hpre rfl (by rw [List.length_map]; exact hn) hls.1 hstk (lv_room (by rw [cat_map]; exact hst)) hd ⟨by omega, by omega⟩
  exact r_call (as := vR x :: as) hmc hms (fun _ _ _ z => z) hC h1 h2 h3 h4 hH hS hZ hls hol hor hr hrun T hT X
end CAL
end
