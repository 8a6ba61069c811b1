section
-- ===== PART A: goes FIRST, ahead of the names: the tables' words, and 'selects' of the private methods out of them =====
/-- a private method of a class that the tables say can be made, by its rows of tables_1 -/
def lw_okq (q : MethodName × Nat) : Prop := (q.1.cls ≠ "java/lang/invoke/MethodHandle" ∧ q.1.cls ≠ "java/lang/invoke/VarHandle") ∧ Cond.instantiable q.1.cls q.2 ∈ tables_1 ∧ Cond.privateMethod q.1 ∈ tables_1 ∧ Cond.instanceMethod q.1 ∈ tables_1
theorem lw_p0 : lw_okq (⟨"ChordSpreads$Reader", "next", "()V"⟩, 10) := ⟨⟨by decide +kernel, by decide +kernel⟩, List.mem_of_getElem? (i := 18) (by decide +kernel), List.mem_of_getElem? (i := 251) (by decide +kernel), List.mem_of_getElem? (i := 252) (by decide +kernel)⟩
theorem lw_p1 : lw_okq (⟨"ChordSpreads$Reader", "nextNumber", "()V"⟩, 10) := ⟨⟨by decide +kernel, by decide +kernel⟩, List.mem_of_getElem? (i := 18) (by decide +kernel), List.mem_of_getElem? (i := 258) (by decide +kernel), List.mem_of_getElem? (i := 259) (by decide +kernel)⟩
theorem lw_p2 : lw_okq (⟨"ChordSpreads$Reader", "readItem", "()Z"⟩, 10) := ⟨⟨by decide +kernel, by decide +kernel⟩, List.mem_of_getElem? (i := 18) (by decide +kernel), List.mem_of_getElem? (i := 262) (by decide +kernel), List.mem_of_getElem? (i := 263) (by decide +kernel)⟩
theorem lw_p3 : lw_okq (⟨"ChordSpreads$Reader", "readPlayer", "(I)Z"⟩, 10) := ⟨⟨by decide +kernel, by decide +kernel⟩, List.mem_of_getElem? (i := 18) (by decide +kernel), List.mem_of_getElem? (i := 266) (by decide +kernel), List.mem_of_getElem? (i := 267) (by decide +kernel)⟩
theorem lw_p4 : lw_okq (⟨"ChordSpreads$Reader", "nextIsNumber", "(II)Z"⟩, 10) := ⟨⟨by decide +kernel, by decide +kernel⟩, List.mem_of_getElem? (i := 18) (by decide +kernel), List.mem_of_getElem? (i := 274) (by decide +kernel), List.mem_of_getElem? (i := 275) (by decide +kernel)⟩
theorem lw_p5 : lw_okq (⟨"ChordSpreads$Reader", "isNumber", "(II)Z"⟩, 10) := ⟨⟨by decide +kernel, by decide +kernel⟩, List.mem_of_getElem? (i := 18) (by decide +kernel), List.mem_of_getElem? (i := 278) (by decide +kernel), List.mem_of_getElem? (i := 279) (by decide +kernel)⟩
theorem lw_p6 : lw_okq (⟨"ChordSpreads$Reader", "nextEndsItem", "()Z"⟩, 10) := ⟨⟨by decide +kernel, by decide +kernel⟩, List.mem_of_getElem? (i := 18) (by decide +kernel), List.mem_of_getElem? (i := 290) (by decide +kernel), List.mem_of_getElem? (i := 291) (by decide +kernel)⟩
theorem lw_p7 : lw_okq (⟨"ChordSpreads$Reader", "readChord", "()Z"⟩, 10) := ⟨⟨by decide +kernel, by decide +kernel⟩, List.mem_of_getElem? (i := 18) (by decide +kernel), List.mem_of_getElem? (i := 294) (by decide +kernel), List.mem_of_getElem? (i := 295) (by decide +kernel)⟩
theorem lw_p8 : lw_okq (⟨"ChordSpreads$Reader", "readRules", "()Z"⟩, 10) := ⟨⟨by decide +kernel, by decide +kernel⟩, List.mem_of_getElem? (i := 18) (by decide +kernel), List.mem_of_getElem? (i := 302) (by decide +kernel), List.mem_of_getElem? (i := 303) (by decide +kernel)⟩
theorem lw_p9 : lw_okq (⟨"ChordSpreads", "isPlayer", "(I)Z"⟩, 12) := ⟨⟨by decide +kernel, by decide +kernel⟩, List.mem_of_getElem? (i := 10) (by decide +kernel), List.mem_of_getElem? (i := 320) (by decide +kernel), List.mem_of_getElem? (i := 321) (by decide +kernel)⟩
theorem lw_p10 : lw_okq (⟨"ChordSpreads", "isChord", "(I)Z"⟩, 12) := ⟨⟨by decide +kernel, by decide +kernel⟩, List.mem_of_getElem? (i := 10) (by decide +kernel), List.mem_of_getElem? (i := 332) (by decide +kernel), List.mem_of_getElem? (i := 333) (by decide +kernel)⟩
theorem lw_p11 : lw_okq (⟨"ChordSpreads", "remember", "()V"⟩, 12) := ⟨⟨by decide +kernel, by decide +kernel⟩, List.mem_of_getElem? (i := 10) (by decide +kernel), List.mem_of_getElem? (i := 357) (by decide +kernel), List.mem_of_getElem? (i := 358) (by decide +kernel)⟩
theorem lw_p12 : lw_okq (⟨"ChordSpreads", "forgetOldest", "()V"⟩, 12) := ⟨⟨by decide +kernel, by decide +kernel⟩, List.mem_of_getElem? (i := 10) (by decide +kernel), List.mem_of_getElem? (i := 361) (by decide +kernel), List.mem_of_getElem? (i := 362) (by decide +kernel)⟩
theorem lw_p13 : lw_okq (⟨"ChordSpreads$Search", "offer", "(II)V"⟩, 12) := ⟨⟨by decide +kernel, by decide +kernel⟩, List.mem_of_getElem? (i := 130) (by decide +kernel), List.mem_of_getElem? (i := 416) (by decide +kernel), List.mem_of_getElem? (i := 417) (by decide +kernel)⟩
theorem lw_p14 : lw_okq (⟨"ChordSpreads$Search", "findGaps", "(I)I"⟩, 12) := ⟨⟨by decide +kernel, by decide +kernel⟩, List.mem_of_getElem? (i := 130) (by decide +kernel), List.mem_of_getElem? (i := 425) (by decide +kernel), List.mem_of_getElem? (i := 426) (by decide +kernel)⟩
theorem lw_p15 : lw_okq (⟨"ChordSpreads$Search", "packedLoud", "(II)I"⟩, 12) := ⟨⟨by decide +kernel, by decide +kernel⟩, List.mem_of_getElem? (i := 130) (by decide +kernel), List.mem_of_getElem? (i := 429) (by decide +kernel), List.mem_of_getElem? (i := 430) (by decide +kernel)⟩
def lw_privs_1 : List (MethodName × Nat) := [(⟨"ChordSpreads$Reader", "next", "()V"⟩, 10), (⟨"ChordSpreads$Reader", "nextNumber", "()V"⟩, 10), (⟨"ChordSpreads$Reader", "readItem", "()Z"⟩, 10), (⟨"ChordSpreads$Reader", "readPlayer", "(I)Z"⟩, 10), (⟨"ChordSpreads$Reader", "nextIsNumber", "(II)Z"⟩, 10), (⟨"ChordSpreads$Reader", "isNumber", "(II)Z"⟩, 10), (⟨"ChordSpreads$Reader", "nextEndsItem", "()Z"⟩, 10), (⟨"ChordSpreads$Reader", "readChord", "()Z"⟩, 10), (⟨"ChordSpreads$Reader", "readRules", "()Z"⟩, 10), (⟨"ChordSpreads", "isPlayer", "(I)Z"⟩, 12), (⟨"ChordSpreads", "isChord", "(I)Z"⟩, 12), (⟨"ChordSpreads", "remember", "()V"⟩, 12), (⟨"ChordSpreads", "forgetOldest", "()V"⟩, 12), (⟨"ChordSpreads$Search", "offer", "(II)V"⟩, 12), (⟨"ChordSpreads$Search", "findGaps", "(I)I"⟩, 12), (⟨"ChordSpreads$Search", "packedLoud", "(II)I"⟩, 12)]
theorem lw_r1 : ∀ q ∈ lw_privs_1, lw_okq q := List.forall_mem_cons.mpr ⟨lw_p0, List.forall_mem_cons.mpr ⟨lw_p1, List.forall_mem_cons.mpr ⟨lw_p2, List.forall_mem_cons.mpr ⟨lw_p3, List.forall_mem_cons.mpr ⟨lw_p4, List.forall_mem_cons.mpr ⟨lw_p5, List.forall_mem_cons.mpr ⟨lw_p6, List.forall_mem_cons.mpr ⟨lw_p7, List.forall_mem_cons.mpr ⟨lw_p8, List.forall_mem_cons.mpr ⟨lw_p9, List.forall_mem_cons.mpr ⟨lw_p10, List.forall_mem_cons.mpr ⟨lw_p11, List.forall_mem_cons.mpr ⟨lw_p12, List.forall_mem_cons.mpr ⟨lw_p13, List.forall_mem_cons.mpr ⟨lw_p14, List.forall_mem_cons.mpr ⟨lw_p15, fun _ h => absurd h List.not_mem_nil⟩⟩⟩⟩⟩⟩⟩⟩⟩⟩⟩⟩⟩⟩⟩⟩
theorem lw_p16 : lw_okq (⟨"ChordSpreads$Search", "widen", "([III)I"⟩, 12) := ⟨⟨by decide +kernel, by decide +kernel⟩, List.mem_of_getElem? (i := 130) (by decide +kernel), List.mem_of_getElem? (i := 437) (by decide +kernel), List.mem_of_getElem? (i := 438) (by decide +kernel)⟩
theorem lw_p17 : lw_okq (⟨"ChordSpreads", "isThereAScore", "()Z"⟩, 12) := ⟨⟨by decide +kernel, by decide +kernel⟩, List.mem_of_getElem? (i := 10) (by decide +kernel), List.mem_of_getElem? (i := 452) (by decide +kernel), List.mem_of_getElem? (i := 453) (by decide +kernel)⟩
theorem lw_p18 : lw_okq (⟨"ChordSpreads$Search", "findCosts", "()V"⟩, 12) := ⟨⟨by decide +kernel, by decide +kernel⟩, List.mem_of_getElem? (i := 130) (by decide +kernel), List.mem_of_getElem? (i := 460) (by decide +kernel), List.mem_of_getElem? (i := 461) (by decide +kernel)⟩
theorem lw_p19 : lw_okq (⟨"ChordSpreads$Search", "carry", "(IIZ)V"⟩, 12) := ⟨⟨by decide +kernel, by decide +kernel⟩, List.mem_of_getElem? (i := 130) (by decide +kernel), List.mem_of_getElem? (i := 467) (by decide +kernel), List.mem_of_getElem? (i := 468) (by decide +kernel)⟩
theorem lw_p20 : lw_okq (⟨"ChordSpreads$Search", "carryPlayer", "(IIIIZ)V"⟩, 12) := ⟨⟨by decide +kernel, by decide +kernel⟩, List.mem_of_getElem? (i := 130) (by decide +kernel), List.mem_of_getElem? (i := 471) (by decide +kernel), List.mem_of_getElem? (i := 472) (by decide +kernel)⟩
theorem lw_p21 : lw_okq (⟨"ChordSpreads$Search", "lower", "(IIIII)V"⟩, 12) := ⟨⟨by decide +kernel, by decide +kernel⟩, List.mem_of_getElem? (i := 130) (by decide +kernel), List.mem_of_getElem? (i := 484) (by decide +kernel), List.mem_of_getElem? (i := 485) (by decide +kernel)⟩
theorem lw_p22 : lw_okq (⟨"ChordSpreads$Search", "firstBest", "(I)I"⟩, 12) := ⟨⟨by decide +kernel, by decide +kernel⟩, List.mem_of_getElem? (i := 130) (by decide +kernel), List.mem_of_getElem? (i := 488) (by decide +kernel), List.mem_of_getElem? (i := 489) (by decide +kernel)⟩
theorem lw_p23 : lw_okq (⟨"ChordSpreads$Search", "choose", "(II)V"⟩, 12) := ⟨⟨by decide +kernel, by decide +kernel⟩, List.mem_of_getElem? (i := 130) (by decide +kernel), List.mem_of_getElem? (i := 496) (by decide +kernel), List.mem_of_getElem? (i := 497) (by decide +kernel)⟩
theorem lw_p24 : lw_okq (⟨"ChordSpreads$Search", "playersOf", "(II)I"⟩, 12) := ⟨⟨by decide +kernel, by decide +kernel⟩, List.mem_of_getElem? (i := 130) (by decide +kernel), List.mem_of_getElem? (i := 509) (by decide +kernel), List.mem_of_getElem? (i := 510) (by decide +kernel)⟩
theorem lw_p25 : lw_okq (⟨"ChordSpreads", "canPlayAll", "(I)Z"⟩, 12) := ⟨⟨by decide +kernel, by decide +kernel⟩, List.mem_of_getElem? (i := 10) (by decide +kernel), List.mem_of_getElem? (i := 557) (by decide +kernel), List.mem_of_getElem? (i := 558) (by decide +kernel)⟩
theorem lw_p26 : lw_okq (⟨"ChordSpreads", "fitsAllHeard", "(I)Z"⟩, 12) := ⟨⟨by decide +kernel, by decide +kernel⟩, List.mem_of_getElem? (i := 10) (by decide +kernel), List.mem_of_getElem? (i := 577) (by decide +kernel), List.mem_of_getElem? (i := 578) (by decide +kernel)⟩
theorem lw_p27 : lw_okq (⟨"ChordSpreadsModel", "begins", "()V"⟩, 23) := ⟨⟨by decide +kernel, by decide +kernel⟩, List.mem_of_getElem? (i := 593) (by decide +kernel), List.mem_of_getElem? (i := 599) (by decide +kernel), List.mem_of_getElem? (i := 600) (by decide +kernel)⟩
theorem lw_p28 : lw_okq (⟨"ChordSpreadsModel", "becomes", "()V"⟩, 23) := ⟨⟨by decide +kernel, by decide +kernel⟩, List.mem_of_getElem? (i := 593) (by decide +kernel), List.mem_of_getElem? (i := 603) (by decide +kernel), List.mem_of_getElem? (i := 604) (by decide +kernel)⟩
theorem lw_p29 : lw_okq (⟨"ChordSpreadsModel", "here", "()I"⟩, 23) := ⟨⟨by decide +kernel, by decide +kernel⟩, List.mem_of_getElem? (i := 593) (by decide +kernel), List.mem_of_getElem? (i := 692) (by decide +kernel), List.mem_of_getElem? (i := 693) (by decide +kernel)⟩
theorem lw_p30 : lw_okq (⟨"ChordSpreadsModel", "item", "()Z"⟩, 23) := ⟨⟨by decide +kernel, by decide +kernel⟩, List.mem_of_getElem? (i := 593) (by decide +kernel), List.mem_of_getElem? (i := 696) (by decide +kernel), List.mem_of_getElem? (i := 697) (by decide +kernel)⟩
theorem lw_p31 : lw_okq (⟨"ChordSpreadsModel", "readsPlayer", "(I)Z"⟩, 23) := ⟨⟨by decide +kernel, by decide +kernel⟩, List.mem_of_getElem? (i := 593) (by decide +kernel), List.mem_of_getElem? (i := 700) (by decide +kernel), List.mem_of_getElem? (i := 701) (by decide +kernel)⟩
def lw_privs_2 : List (MethodName × Nat) := [(⟨"ChordSpreads$Search", "widen", "([III)I"⟩, 12), (⟨"ChordSpreads", "isThereAScore", "()Z"⟩, 12), (⟨"ChordSpreads$Search", "findCosts", "()V"⟩, 12), (⟨"ChordSpreads$Search", "carry", "(IIZ)V"⟩, 12), (⟨"ChordSpreads$Search", "carryPlayer", "(IIIIZ)V"⟩, 12), (⟨"ChordSpreads$Search", "lower", "(IIIII)V"⟩, 12), (⟨"ChordSpreads$Search", "firstBest", "(I)I"⟩, 12), (⟨"ChordSpreads$Search", "choose", "(II)V"⟩, 12), (⟨"ChordSpreads$Search", "playersOf", "(II)I"⟩, 12), (⟨"ChordSpreads", "canPlayAll", "(I)Z"⟩, 12), (⟨"ChordSpreads", "fitsAllHeard", "(I)Z"⟩, 12), (⟨"ChordSpreadsModel", "begins", "()V"⟩, 23), (⟨"ChordSpreadsModel", "becomes", "()V"⟩, 23), (⟨"ChordSpreadsModel", "here", "()I"⟩, 23), (⟨"ChordSpreadsModel", "item", "()Z"⟩, 23), (⟨"ChordSpreadsModel", "readsPlayer", "(I)Z"⟩, 23)]
theorem lw_r2 : ∀ q ∈ lw_privs_2, lw_okq q := List.forall_mem_cons.mpr ⟨lw_p16, List.forall_mem_cons.mpr ⟨lw_p17, List.forall_mem_cons.mpr ⟨lw_p18, List.forall_mem_cons.mpr ⟨lw_p19, List.forall_mem_cons.mpr ⟨lw_p20, List.forall_mem_cons.mpr ⟨lw_p21, List.forall_mem_cons.mpr ⟨lw_p22, List.forall_mem_cons.mpr ⟨lw_p23, List.forall_mem_cons.mpr ⟨lw_p24, List.forall_mem_cons.mpr ⟨lw_p25, List.forall_mem_cons.mpr ⟨lw_p26, List.forall_mem_cons.mpr ⟨lw_p27, List.forall_mem_cons.mpr ⟨lw_p28, List.forall_mem_cons.mpr ⟨lw_p29, List.forall_mem_cons.mpr ⟨lw_p30, List.forall_mem_cons.mpr ⟨lw_p31, fun _ h => absurd h List.not_mem_nil⟩⟩⟩⟩⟩⟩⟩⟩⟩⟩⟩⟩⟩⟩⟩⟩
theorem lw_p32 : lw_okq (⟨"ChordSpreadsModel", "bows", "()I"⟩, 23) := ⟨⟨by decide +kernel, by decide +kernel⟩, List.mem_of_getElem? (i := 593) (by decide +kernel), List.mem_of_getElem? (i := 704) (by decide +kernel), List.mem_of_getElem? (i := 705) (by decide +kernel)⟩
theorem lw_p33 : lw_okq (⟨"ChordSpreadsModel", "reads", "(II)Z"⟩, 23) := ⟨⟨by decide +kernel, by decide +kernel⟩, List.mem_of_getElem? (i := 593) (by decide +kernel), List.mem_of_getElem? (i := 708) (by decide +kernel), List.mem_of_getElem? (i := 709) (by decide +kernel)⟩
theorem lw_p34 : lw_okq (⟨"ChordSpreadsModel", "readsChord", "()Z"⟩, 23) := ⟨⟨by decide +kernel, by decide +kernel⟩, List.mem_of_getElem? (i := 593) (by decide +kernel), List.mem_of_getElem? (i := 712) (by decide +kernel), List.mem_of_getElem? (i := 713) (by decide +kernel)⟩
theorem lw_p35 : lw_okq (⟨"ChordSpreadsModel", "readsQuiet", "()Z"⟩, 23) := ⟨⟨by decide +kernel, by decide +kernel⟩, List.mem_of_getElem? (i := 593) (by decide +kernel), List.mem_of_getElem? (i := 716) (by decide +kernel), List.mem_of_getElem? (i := 717) (by decide +kernel)⟩
theorem lw_p36 : lw_okq (⟨"ChordSpreadsModel", "isPlayer", "(I)Z"⟩, 23) := ⟨⟨by decide +kernel, by decide +kernel⟩, List.mem_of_getElem? (i := 593) (by decide +kernel), List.mem_of_getElem? (i := 724) (by decide +kernel), List.mem_of_getElem? (i := 725) (by decide +kernel)⟩
theorem lw_p37 : lw_okq (⟨"ChordSpreadsModel", "isIn", "(I)Z"⟩, 23) := ⟨⟨by decide +kernel, by decide +kernel⟩, List.mem_of_getElem? (i := 593) (by decide +kernel), List.mem_of_getElem? (i := 728) (by decide +kernel), List.mem_of_getElem? (i := 729) (by decide +kernel)⟩
theorem lw_p38 : lw_okq (⟨"ChordSpreadsModel", "kind", "(I)I"⟩, 23) := ⟨⟨by decide +kernel, by decide +kernel⟩, List.mem_of_getElem? (i := 593) (by decide +kernel), List.mem_of_getElem? (i := 736) (by decide +kernel), List.mem_of_getElem? (i := 737) (by decide +kernel)⟩
theorem lw_p39 : lw_okq (⟨"ChordSpreadsModel", "isChord", "(I)Z"⟩, 23) := ⟨⟨by decide +kernel, by decide +kernel⟩, List.mem_of_getElem? (i := 593) (by decide +kernel), List.mem_of_getElem? (i := 744) (by decide +kernel), List.mem_of_getElem? (i := 745) (by decide +kernel)⟩
theorem lw_p40 : lw_okq (⟨"ChordSpreadsModel", "notes", "(I)I"⟩, 23) := ⟨⟨by decide +kernel, by decide +kernel⟩, List.mem_of_getElem? (i := 593) (by decide +kernel), List.mem_of_getElem? (i := 748) (by decide +kernel), List.mem_of_getElem? (i := 749) (by decide +kernel)⟩
theorem lw_p41 : lw_okq (⟨"ChordSpreadsModel", "note", "(II)I"⟩, 23) := ⟨⟨by decide +kernel, by decide +kernel⟩, List.mem_of_getElem? (i := 593) (by decide +kernel), List.mem_of_getElem? (i := 752) (by decide +kernel), List.mem_of_getElem? (i := 753) (by decide +kernel)⟩
theorem lw_p42 : lw_okq (⟨"ChordSpreadsModel", "remembers", "()V"⟩, 23) := ⟨⟨by decide +kernel, by decide +kernel⟩, List.mem_of_getElem? (i := 593) (by decide +kernel), List.mem_of_getElem? (i := 763) (by decide +kernel), List.mem_of_getElem? (i := 764) (by decide +kernel)⟩
theorem lw_p43 : lw_okq (⟨"ChordSpreadsModel", "isHand", "(III)Z"⟩, 23) := ⟨⟨by decide +kernel, by decide +kernel⟩, List.mem_of_getElem? (i := 593) (by decide +kernel), List.mem_of_getElem? (i := 787) (by decide +kernel), List.mem_of_getElem? (i := 788) (by decide +kernel)⟩
theorem lw_p44 : lw_okq (⟨"ChordSpreadsModel", "laysSpreads", "(III)V"⟩, 23) := ⟨⟨by decide +kernel, by decide +kernel⟩, List.mem_of_getElem? (i := 593) (by decide +kernel), List.mem_of_getElem? (i := 804) (by decide +kernel), List.mem_of_getElem? (i := 805) (by decide +kernel)⟩
theorem lw_p45 : lw_okq (⟨"ChordSpreadsModel", "isSpread", "(IIII)Z"⟩, 23) := ⟨⟨by decide +kernel, by decide +kernel⟩, List.mem_of_getElem? (i := 593) (by decide +kernel), List.mem_of_getElem? (i := 808) (by decide +kernel), List.mem_of_getElem? (i := 809) (by decide +kernel)⟩
theorem lw_p46 : lw_okq (⟨"ChordSpreadsModel", "isEven", "(III)Z"⟩, 23) := ⟨⟨by decide +kernel, by decide +kernel⟩, List.mem_of_getElem? (i := 593) (by decide +kernel), List.mem_of_getElem? (i := 815) (by decide +kernel), List.mem_of_getElem? (i := 816) (by decide +kernel)⟩
theorem lw_p47 : lw_okq (⟨"ChordSpreadsModel", "loudOf", "(II)I"⟩, 23) := ⟨⟨by decide +kernel, by decide +kernel⟩, List.mem_of_getElem? (i := 593) (by decide +kernel), List.mem_of_getElem? (i := 820) (by decide +kernel), List.mem_of_getElem? (i := 821) (by decide +kernel)⟩
def lw_privs_3 : List (MethodName × Nat) := [(⟨"ChordSpreadsModel", "bows", "()I"⟩, 23), (⟨"ChordSpreadsModel", "reads", "(II)Z"⟩, 23), (⟨"ChordSpreadsModel", "readsChord", "()Z"⟩, 23), (⟨"ChordSpreadsModel", "readsQuiet", "()Z"⟩, 23), (⟨"ChordSpreadsModel", "isPlayer", "(I)Z"⟩, 23), (⟨"ChordSpreadsModel", "isIn", "(I)Z"⟩, 23), (⟨"ChordSpreadsModel", "kind", "(I)I"⟩, 23), (⟨"ChordSpreadsModel", "isChord", "(I)Z"⟩, 23), (⟨"ChordSpreadsModel", "notes", "(I)I"⟩, 23), (⟨"ChordSpreadsModel", "note", "(II)I"⟩, 23), (⟨"ChordSpreadsModel", "remembers", "()V"⟩, 23), (⟨"ChordSpreadsModel", "isHand", "(III)Z"⟩, 23), (⟨"ChordSpreadsModel", "laysSpreads", "(III)V"⟩, 23), (⟨"ChordSpreadsModel", "isSpread", "(IIII)Z"⟩, 23), (⟨"ChordSpreadsModel", "isEven", "(III)Z"⟩, 23), (⟨"ChordSpreadsModel", "loudOf", "(II)I"⟩, 23)]
theorem lw_r3 : ∀ q ∈ lw_privs_3, lw_okq q := List.forall_mem_cons.mpr ⟨lw_p32, List.forall_mem_cons.mpr ⟨lw_p33, List.forall_mem_cons.mpr ⟨lw_p34, List.forall_mem_cons.mpr ⟨lw_p35, List.forall_mem_cons.mpr ⟨lw_p36, List.forall_mem_cons.mpr ⟨lw_p37, List.forall_mem_cons.mpr ⟨lw_p38, List.forall_mem_cons.mpr ⟨lw_p39, List.forall_mem_cons.mpr ⟨lw_p40, List.forall_mem_cons.mpr ⟨lw_p41, List.forall_mem_cons.mpr ⟨lw_p42, List.forall_mem_cons.mpr ⟨lw_p43, List.forall_mem_cons.mpr ⟨lw_p44, List.forall_mem_cons.mpr ⟨lw_p45, List.forall_mem_cons.mpr ⟨lw_p46, List.forall_mem_cons.mpr ⟨lw_p47, fun _ h => absurd h List.not_mem_nil⟩⟩⟩⟩⟩⟩⟩⟩⟩⟩⟩⟩⟩⟩⟩⟩
theorem lw_p48 : lw_okq (⟨"ChordSpreadsModel", "laysFirst", "()Z"⟩, 23) := ⟨⟨by decide +kernel, by decide +kernel⟩, List.mem_of_getElem? (i := 593) (by decide +kernel), List.mem_of_getElem? (i := 828) (by decide +kernel), List.mem_of_getElem? (i := 829) (by decide +kernel)⟩
theorem lw_p49 : lw_okq (⟨"ChordSpreadsModel", "laysScore", "(III)I"⟩, 23) := ⟨⟨by decide +kernel, by decide +kernel⟩, List.mem_of_getElem? (i := 593) (by decide +kernel), List.mem_of_getElem? (i := 832) (by decide +kernel), List.mem_of_getElem? (i := 833) (by decide +kernel)⟩
theorem lw_p50 : lw_okq (⟨"ChordSpreadsModel", "leastBehind", "(III)I"⟩, 23) := ⟨⟨by decide +kernel, by decide +kernel⟩, List.mem_of_getElem? (i := 593) (by decide +kernel), List.mem_of_getElem? (i := 836) (by decide +kernel), List.mem_of_getElem? (i := 837) (by decide +kernel)⟩
theorem lw_p51 : lw_okq (⟨"ChordSpreadsModel", "movesOf", "(III)I"⟩, 23) := ⟨⟨by decide +kernel, by decide +kernel⟩, List.mem_of_getElem? (i := 593) (by decide +kernel), List.mem_of_getElem? (i := 840) (by decide +kernel), List.mem_of_getElem? (i := 841) (by decide +kernel)⟩
theorem lw_p52 : lw_okq (⟨"ChordSpreadsModel", "moveOf", "(III)I"⟩, 23) := ⟨⟨by decide +kernel, by decide +kernel⟩, List.mem_of_getElem? (i := 593) (by decide +kernel), List.mem_of_getElem? (i := 844) (by decide +kernel), List.mem_of_getElem? (i := 845) (by decide +kernel)⟩
theorem lw_p53 : lw_okq (⟨"ChordSpreadsModel", "playing", "(II)I"⟩, 23) := ⟨⟨by decide +kernel, by decide +kernel⟩, List.mem_of_getElem? (i := 593) (by decide +kernel), List.mem_of_getElem? (i := 848) (by decide +kernel), List.mem_of_getElem? (i := 849) (by decide +kernel)⟩
def lw_privs_4 : List (MethodName × Nat) := [(⟨"ChordSpreadsModel", "laysFirst", "()Z"⟩, 23), (⟨"ChordSpreadsModel", "laysScore", "(III)I"⟩, 23), (⟨"ChordSpreadsModel", "leastBehind", "(III)I"⟩, 23), (⟨"ChordSpreadsModel", "movesOf", "(III)I"⟩, 23), (⟨"ChordSpreadsModel", "moveOf", "(III)I"⟩, 23), (⟨"ChordSpreadsModel", "playing", "(II)I"⟩, 23)]
theorem lw_r4 : ∀ q ∈ lw_privs_4, lw_okq q := List.forall_mem_cons.mpr ⟨lw_p48, List.forall_mem_cons.mpr ⟨lw_p49, List.forall_mem_cons.mpr ⟨lw_p50, List.forall_mem_cons.mpr ⟨lw_p51, List.forall_mem_cons.mpr ⟨lw_p52, List.forall_mem_cons.mpr ⟨lw_p53, fun _ h => absurd h List.not_mem_nil⟩⟩⟩⟩⟩⟩
def lw_privs : List (MethodName × Nat) := lw_privs_1 ++ (lw_privs_2 ++ (lw_privs_3 ++ (lw_privs_4)))
def lw_tbl : List Cond := k2_sels lw_privs ++ tables_1
theorem lw_privs_ok : ∀ q ∈ lw_privs, lw_okq q := by
  show ∀ q ∈ lw_privs_1 ++ (lw_privs_2 ++ (lw_privs_3 ++ (lw_privs_4))), lw_okq q
  exact List.forall_mem_append.mpr ⟨lw_r1, List.forall_mem_append.mpr ⟨lw_r2, List.forall_mem_append.mpr ⟨lw_r3, lw_r4⟩⟩⟩
end
section
/-! ===== BEGIN words of one list among another's, by their places ===== -/
theorem goodIn_r {big : List Cond} (ws : List Cond) (ps : List Nat) (hp : ws = ps.filterMap (fun i => big[i]?)) (h : ws.all goodWord = true) : GoodIn big ws := by
  intro w hw
  have h1 := List.all_eq_true.mp h w hw
  rw [hp] at hw
  obtain ⟨i, -, hi⟩ := List.mem_filterMap.mp hw
  have hm : w ∈ big := by first | exact List.mem_of_getElem? hi | exact List.getElem?_mem hi
  exact ⟨hm, good_of_word h1⟩
theorem goodIn_app {big a b : List Cond} (ha : GoodIn big a) (hb : GoodIn big b) : GoodIn big (a ++ b) := fun w h => (List.mem_append.mp h).elim (ha w) (hb w)
theorem goodIn_ca {big a b : List Cond} {c : Cond} (ha : GoodIn big (c :: a)) (hb : GoodIn big b) : GoodIn big (c :: (a ++ b)) := fun w h => (List.mem_cons.mp h).elim (fun e => ha w (List.mem_cons.mpr (Or.inl e))) (fun h => (List.mem_append.mp h).elim (fun h => ha w (List.mem_cons.mpr (Or.inr h))) (hb w))
theorem goodIn_sub {big ws : List Cond} (hm : ∀ w ∈ ws, w ∈ big) (h : ws.all goodWord = true) : GoodIn big ws := fun w hw => ⟨hm w hw, good_of_word (List.all_eq_true.mp h w hw)⟩
/-! ===== END ===== -/
def RX0 : String := "ChordSpreads$Band"
def TX0 : u_T := fun k => match k with
  | 0 => ("ChordSpreads$Band", "size", "I", false)
  | 1 => ("ChordSpreads$Band", "bows", "I", false)
  | 2 => ("ChordSpreads$Band", "kind", "[I", true)
  | 3 => ("ChordSpreads$Band", "low", "[I", true)
  | 4 => ("ChordSpreads$Band", "high", "[I", true)
  | 5 => ("ChordSpreads$Band", "weight", "[I", true)
  | _ => ("ChordSpreads$Band", "width", "[I", true)
def tyX0 : Nat → FieldType := fun k => match k with
  | 0 => .int
  | 1 => .int
  | 2 => .array .int
  | 3 => .array .int
  | 4 => .array .int
  | 5 => .array .int
  | _ => .array .int
theorem nmX0 : ∀ a, a < 7 → ∀ b, b < 7 → a ≠ b → (TX0 a).2.1 ≠ (TX0 b).2.1 := by decide +kernel
theorem tyX0_ok : ∀ k, k < 7 → parseFieldDescriptor (TX0 k).2.2.1 = some (tyX0 k) := by decide +kernel
abbrev cX0_init : ByteArray := prog_2_method_1_code
def yX0_init : MethodName := ⟨RX0, "<init>", "()V"⟩
abbrev cX0_empty : ByteArray := prog_2_method_2_code
def yX0_empty : MethodName := ⟨RX0, "empty", "()V"⟩
abbrev cX0_hasRoomFor : ByteArray := prog_2_method_3_code
def yX0_hasRoomFor : MethodName := ⟨RX0, "hasRoomFor", "(I)Z"⟩
abbrev cX0_add : ByteArray := prog_2_method_4_code
def yX0_add : MethodName := ⟨RX0, "add", "(IIIII)V"⟩
abbrev cX0_become : ByteArray := prog_2_method_5_code
def yX0_become : MethodName := ⟨RX0, "become", "(LChordSpreads$Band;)V"⟩
abbrev cX0_manages : ByteArray := prog_2_method_6_code
def yX0_manages : MethodName := ⟨RX0, "manages", "(ILChordSpreads$Piece;II)Z"⟩
abbrev cX0_strength : ByteArray := prog_2_method_7_code
def yX0_strength : MethodName := ⟨RX0, "strength", "(II)I"⟩
def RX1 : String := "ChordSpreads$Piece"
def TX1 : u_T := fun k => match k with
  | 0 => ("ChordSpreads$Piece", "size", "I", false)
  | 1 => ("ChordSpreads$Piece", "in", "I", false)
  | 2 => ("ChordSpreads$Piece", "rest", "I", false)
  | 3 => ("ChordSpreads$Piece", "balance", "I", false)
  | _ => ("ChordSpreads$Piece", "notes", "[I", true)
def tyX1 : Nat → FieldType := fun k => match k with
  | 0 => .int
  | 1 => .int
  | 2 => .int
  | 3 => .int
  | _ => .array .int
theorem nmX1 : ∀ a, a < 5 → ∀ b, b < 5 → a ≠ b → (TX1 a).2.1 ≠ (TX1 b).2.1 := by decide +kernel
theorem tyX1_ok : ∀ k, k < 5 → parseFieldDescriptor (TX1 k).2.2.1 = some (tyX1 k) := by decide +kernel
abbrev cX1_init : ByteArray := prog_3_method_1_code
def yX1_init : MethodName := ⟨RX1, "<init>", "()V"⟩
abbrev cX1_empty : ByteArray := prog_3_method_2_code
def yX1_empty : MethodName := ⟨RX1, "empty", "()V"⟩
abbrev cX1_noteAt : ByteArray := prog_3_method_3_code
def yX1_noteAt : MethodName := ⟨RX1, "noteAt", "(II)I"⟩
abbrev cX1_notesOf : ByteArray := prog_3_method_4_code
def yX1_notesOf : MethodName := ⟨RX1, "notesOf", "(I)I"⟩
abbrev cX1_isThat : ByteArray := prog_3_method_5_code
def yX1_isThat : MethodName := ⟨RX1, "isThat", "(IIII)Z"⟩
abbrev cX1_put : ByteArray := prog_3_method_6_code
def yX1_put : MethodName := ⟨RX1, "put", "(IIII)V"⟩
abbrev cX1_take : ByteArray := prog_3_method_7_code
def yX1_take : MethodName := ⟨RX1, "take", "(I)V"⟩
abbrev cX1_lowestOf : ByteArray := prog_3_method_8_code
def yX1_lowestOf : MethodName := ⟨RX1, "lowestOf", "(II)I"⟩
abbrev cX1_highestOf : ByteArray := prog_3_method_9_code
def yX1_highestOf : MethodName := ⟨RX1, "highestOf", "(II)I"⟩
abbrev cX1_become : ByteArray := prog_3_method_10_code
def yX1_become : MethodName := ⟨RX1, "become", "(LChordSpreads$Piece;)V"⟩
def RX2 : String := "ChordSpreads$Reader"
def TX2 : u_T := fun k => match k with
  | 0 => ("ChordSpreads$Reader", "players", "LChordSpreads$Band;", true)
  | 1 => ("ChordSpreads$Reader", "piece", "LChordSpreads$Piece;", true)
  | 2 => ("ChordSpreads$Reader", "length", "I", false)
  | 3 => ("ChordSpreads$Reader", "text", "[I", true)
  | 4 => ("ChordSpreads$Reader", "chordNotes", "[I", true)
  | 5 => ("ChordSpreads$Reader", "at", "I", false)
  | 6 => ("ChordSpreads$Reader", "start", "I", false)
  | 7 => ("ChordSpreads$Reader", "token", "I", false)
  | 8 => ("ChordSpreads$Reader", "value", "I", false)
  | _ => ("ChordSpreads$Reader", "ruled", "Z", false)
def tyX2 : Nat → FieldType := fun k => match k with
  | 0 => .object "ChordSpreads$Band"
  | 1 => .object "ChordSpreads$Piece"
  | 2 => .int
  | 3 => .array .int
  | 4 => .array .int
  | 5 => .int
  | 6 => .int
  | 7 => .int
  | 8 => .int
  | _ => .boolean
theorem nmX2 : ∀ a, a < 10 → ∀ b, b < 10 → a ≠ b → (TX2 a).2.1 ≠ (TX2 b).2.1 := by decide +kernel
theorem tyX2_ok : ∀ k, k < 10 → parseFieldDescriptor (TX2 k).2.2.1 = some (tyX2 k) := by decide +kernel
abbrev cX2_init : ByteArray := prog_4_method_1_code
def yX2_init : MethodName := ⟨RX2, "<init>", "()V"⟩
abbrev cX2_add : ByteArray := prog_4_method_2_code
def yX2_add : MethodName := ⟨RX2, "add", "(I)V"⟩
abbrev cX2_read : ByteArray := prog_4_method_3_code
def yX2_read : MethodName := ⟨RX2, "read", "()I"⟩
abbrev cX2_readItem : ByteArray := prog_4_method_4_code
def yX2_readItem : MethodName := ⟨RX2, "readItem", "()Z"⟩
abbrev cX2_readPlayer : ByteArray := prog_4_method_5_code
def yX2_readPlayer : MethodName := ⟨RX2, "readPlayer", "(I)Z"⟩
abbrev cX2_readChord : ByteArray := prog_4_method_6_code
def yX2_readChord : MethodName := ⟨RX2, "readChord", "()Z"⟩
abbrev cX2_readRules : ByteArray := prog_4_method_7_code
def yX2_readRules : MethodName := ⟨RX2, "readRules", "()Z"⟩
abbrev cX2_nextIsNumber : ByteArray := prog_4_method_8_code
def yX2_nextIsNumber : MethodName := ⟨RX2, "nextIsNumber", "(II)Z"⟩
abbrev cX2_isNumber : ByteArray := prog_4_method_9_code
def yX2_isNumber : MethodName := ⟨RX2, "isNumber", "(II)Z"⟩
abbrev cX2_nextEndsItem : ByteArray := prog_4_method_10_code
def yX2_nextEndsItem : MethodName := ⟨RX2, "nextEndsItem", "()Z"⟩
abbrev cX2_next : ByteArray := prog_4_method_11_code
def yX2_next : MethodName := ⟨RX2, "next", "()V"⟩
abbrev cX2_nextNumber : ByteArray := prog_4_method_12_code
def yX2_nextNumber : MethodName := ⟨RX2, "nextNumber", "()V"⟩
abbrev cX2_isFigure : ByteArray := prog_4_method_13_code
def yX2_isFigure : MethodName := ⟨RX2, "isFigure", "(I)Z"⟩
def RX3 : String := "ChordSpreads$Search"
def TX3 : u_T := fun k => match k with
  | 0 => ("ChordSpreads$Search", "players", "LChordSpreads$Band;", true)
  | 1 => ("ChordSpreads$Search", "piece", "LChordSpreads$Piece;", true)
  | 2 => ("ChordSpreads$Search", "least", "I", false)
  | 3 => ("ChordSpreads$Search", "choices", "[[I", true)
  | 4 => ("ChordSpreads$Search", "choiceCount", "[I", true)
  | 5 => ("ChordSpreads$Search", "costs", "[[I", true)
  | 6 => ("ChordSpreads$Search", "gaps", "[I", true)
  | 7 => ("ChordSpreads$Search", "adds", "[I", true)
  | 8 => ("ChordSpreads$Search", "row", "[I", false)
  | 9 => ("ChordSpreads$Search", "spare", "[I", false)
  | 10 => ("ChordSpreads$Search", "need", "[I", true)
  | _ => ("ChordSpreads$Search", "chosen", "[I", true)
def tyX3 : Nat → FieldType := fun k => match k with
  | 0 => .object "ChordSpreads$Band"
  | 1 => .object "ChordSpreads$Piece"
  | 2 => .int
  | 3 => .array (.array .int)
  | 4 => .array .int
  | 5 => .array (.array .int)
  | 6 => .array .int
  | 7 => .array .int
  | 8 => .array .int
  | 9 => .array .int
  | 10 => .array .int
  | _ => .array .int
theorem nmX3 : ∀ a, a < 12 → ∀ b, b < 12 → a ≠ b → (TX3 a).2.1 ≠ (TX3 b).2.1 := by decide +kernel
theorem tyX3_ok : ∀ k, k < 12 → parseFieldDescriptor (TX3 k).2.2.1 = some (tyX3 k) := by decide +kernel
abbrev cX3_init : ByteArray := prog_5_method_1_code
def yX3_init : MethodName := ⟨RX3, "<init>", "()V"⟩
abbrev cX3_evenSpreads : ByteArray := prog_5_method_2_code
def yX3_evenSpreads : MethodName := ⟨RX3, "evenSpreads", "(II)I"⟩
abbrev cX3_offer : ByteArray := prog_5_method_3_code
def yX3_offer : MethodName := ⟨RX3, "offer", "(II)V"⟩
abbrev cX3_findGaps : ByteArray := prog_5_method_4_code
def yX3_findGaps : MethodName := ⟨RX3, "findGaps", "(I)I"⟩
abbrev cX3_packedLoud : ByteArray := prog_5_method_5_code
def yX3_packedLoud : MethodName := ⟨RX3, "packedLoud", "(II)I"⟩
abbrev cX3_gapOf : ByteArray := prog_5_method_6_code
def yX3_gapOf : MethodName := ⟨RX3, "gapOf", "(II)I"⟩
abbrev cX3_widen : ByteArray := prog_5_method_7_code
def yX3_widen : MethodName := ⟨RX3, "widen", "([III)I"⟩
abbrev cX3_way : ByteArray := prog_5_method_8_code
def yX3_way : MethodName := ⟨RX3, "way", "(IIIII)I"⟩
abbrev cX3_carry : ByteArray := prog_5_method_9_code
def yX3_carry : MethodName := ⟨RX3, "carry", "(IIZ)V"⟩
abbrev cX3_carryPlayer : ByteArray := prog_5_method_10_code
def yX3_carryPlayer : MethodName := ⟨RX3, "carryPlayer", "(IIIIZ)V"⟩
abbrev cX3_lower : ByteArray := prog_5_method_11_code
def yX3_lower : MethodName := ⟨RX3, "lower", "(IIIII)V"⟩
abbrev cX3_fill : ByteArray := prog_5_method_12_code
def yX3_fill : MethodName := ⟨RX3, "fill", "([III)V"⟩
abbrev cX3_measure : ByteArray := prog_5_method_13_code
def yX3_measure : MethodName := ⟨RX3, "measure", "(I)V"⟩
abbrev cX3_needed : ByteArray := prog_5_method_14_code
def yX3_needed : MethodName := ⟨RX3, "needed", "(I)I"⟩
abbrev cX3_solve : ByteArray := prog_5_method_15_code
def yX3_solve : MethodName := ⟨RX3, "solve", "()V"⟩
abbrev cX3_findCosts : ByteArray := prog_5_method_16_code
def yX3_findCosts : MethodName := ⟨RX3, "findCosts", "()V"⟩
abbrev cX3_firstBest : ByteArray := prog_5_method_17_code
def yX3_firstBest : MethodName := ⟨RX3, "firstBest", "(I)I"⟩
abbrev cX3_choose : ByteArray := prog_5_method_18_code
def yX3_choose : MethodName := ⟨RX3, "choose", "(II)V"⟩
abbrev cX3_handIn : ByteArray := prog_5_method_19_code
def yX3_handIn : MethodName := ⟨RX3, "handIn", "(II)I"⟩
abbrev cX3_handsThatPlay : ByteArray := prog_5_method_20_code
def yX3_handsThatPlay : MethodName := ⟨RX3, "handsThatPlay", "()I"⟩
abbrev cX3_doubledNotes : ByteArray := prog_5_method_21_code
def yX3_doubledNotes : MethodName := ⟨RX3, "doubledNotes", "()I"⟩
abbrev cX3_playersOf : ByteArray := prog_5_method_22_code
def yX3_playersOf : MethodName := ⟨RX3, "playersOf", "(II)I"⟩
abbrev cX3_loudWithout : ByteArray := prog_5_method_23_code
def yX3_loudWithout : MethodName := ⟨RX3, "loudWithout", "(III)I"⟩
abbrev cX3_isEvenWithout : ByteArray := prog_5_method_24_code
def yX3_isEvenWithout : MethodName := ⟨RX3, "isEvenWithout", "(II)Z"⟩
def RX4 : String := "ChordSpreads"
def TX4 : u_T := fun k => match k with
  | 0 => ("ChordSpreads", "reader", "LChordSpreads$Reader;", true)
  | 1 => ("ChordSpreads", "search", "LChordSpreads$Search;", true)
  | 2 => ("ChordSpreads", "players", "LChordSpreads$Band;", true)
  | 3 => ("ChordSpreads", "now", "LChordSpreads$Piece;", true)
  | 4 => ("ChordSpreads", "past", "[LChordSpreads$Piece;", true)
  | 5 => ("ChordSpreads", "known", "I", false)
  | 6 => ("ChordSpreads", "images", "[LChordSpreads$Piece;", true)
  | 7 => ("ChordSpreads", "kept", "[Z", true)
  | 8 => ("ChordSpreads", "heardChord", "[I", true)
  | 9 => ("ChordSpreads", "heardIs", "[I", true)
  | 10 => ("ChordSpreads", "heard", "I", false)
  | _ => ("ChordSpreads", "solved", "Z", false)
def tyX4 : Nat → FieldType := fun k => match k with
  | 0 => .object "ChordSpreads$Reader"
  | 1 => .object "ChordSpreads$Search"
  | 2 => .object "ChordSpreads$Band"
  | 3 => .object "ChordSpreads$Piece"
  | 4 => .array (.object "ChordSpreads$Piece")
  | 5 => .int
  | 6 => .array (.object "ChordSpreads$Piece")
  | 7 => .array .boolean
  | 8 => .array .int
  | 9 => .array .int
  | 10 => .int
  | _ => .boolean
theorem nmX4 : ∀ a, a < 12 → ∀ b, b < 12 → a ≠ b → (TX4 a).2.1 ≠ (TX4 b).2.1 := by decide +kernel
theorem tyX4_ok : ∀ k, k < 12 → parseFieldDescriptor (TX4 k).2.2.1 = some (tyX4 k) := by decide +kernel
abbrev cX4_init : ByteArray := prog_1_method_1_code
def yX4_init : MethodName := ⟨RX4, "<init>", "()V"⟩
abbrev cX4_type : ByteArray := prog_1_method_2_code
def yX4_type : MethodName := ⟨RX4, "type", "(I)I"⟩
abbrev cX4_clear : ByteArray := prog_1_method_3_code
def yX4_clear : MethodName := ⟨RX4, "clear", "()I"⟩
abbrev cX4_band : ByteArray := prog_1_method_4_code
def yX4_band : MethodName := ⟨RX4, "band", "()I"⟩
abbrev cX4_player : ByteArray := prog_1_method_5_code
def yX4_player : MethodName := ⟨RX4, "player", "(II)I"⟩
abbrev cX4_span : ByteArray := prog_1_method_6_code
def yX4_span : MethodName := ⟨RX4, "span", "(I)I"⟩
abbrev cX4_chord : ByteArray := prog_1_method_7_code
def yX4_chord : MethodName := ⟨RX4, "chord", "(II)I"⟩
abbrev cX4_puts : ByteArray := prog_1_method_8_code
def yX4_puts : MethodName := ⟨RX4, "puts", "(IIII)I"⟩
abbrev cX4_takes : ByteArray := prog_1_method_9_code
def yX4_takes : MethodName := ⟨RX4, "takes", "(I)I"⟩
abbrev cX4_calls : ByteArray := prog_1_method_10_code
def yX4_calls : MethodName := ⟨RX4, "calls", "(I)I"⟩
abbrev cX4_tells : ByteArray := prog_1_method_11_code
def yX4_tells : MethodName := ⟨RX4, "tells", "(II)I"⟩
abbrev cX4_undo : ByteArray := prog_1_method_12_code
def yX4_undo : MethodName := ⟨RX4, "undo", "()I"⟩
abbrev cX4_could : ByteArray := prog_1_method_13_code
def yX4_could : MethodName := ⟨RX4, "could", "(III)I"⟩
abbrev cX4_spreads : ByteArray := prog_1_method_14_code
def yX4_spreads : MethodName := ⟨RX4, "spreads", "(I)I"⟩
abbrev cX4_score : ByteArray := prog_1_method_15_code
def yX4_score : MethodName := ⟨RX4, "score", "(I)I"⟩
abbrev cX4_hand : ByteArray := prog_1_method_16_code
def yX4_hand : MethodName := ⟨RX4, "hand", "(II)I"⟩
abbrev cX4_loud : ByteArray := prog_1_method_17_code
def yX4_loud : MethodName := ⟨RX4, "loud", "(II)I"⟩
abbrev cX4_couldRest : ByteArray := prog_1_method_18_code
def yX4_couldRest : MethodName := ⟨RX4, "couldRest", "(I)I"⟩
abbrev cX4_move : ByteArray := prog_1_method_19_code
def yX4_move : MethodName := ⟨RX4, "move", "(II)I"⟩
abbrev cX4_reach : ByteArray := prog_1_method_20_code
def yX4_reach : MethodName := ⟨RX4, "reach", "()I"⟩
abbrev cX4_fewest : ByteArray := prog_1_method_21_code
def yX4_fewest : MethodName := ⟨RX4, "fewest", "()I"⟩
abbrev cX4_bear : ByteArray := prog_1_method_22_code
def yX4_bear : MethodName := ⟨RX4, "bear", "()I"⟩
abbrev cX4_hears : ByteArray := prog_1_method_23_code
def yX4_hears : MethodName := ⟨RX4, "hears", "(II)I"⟩
abbrev cX4_forget : ByteArray := prog_1_method_24_code
def yX4_forget : MethodName := ⟨RX4, "forget", "()I"⟩
abbrev cX4_ill : ByteArray := prog_1_method_25_code
def yX4_ill : MethodName := ⟨RX4, "ill", "()I"⟩
abbrev cX4_keep : ByteArray := prog_1_method_26_code
def yX4_keep : MethodName := ⟨RX4, "keep", "(I)I"⟩
abbrev cX4_back : ByteArray := prog_1_method_27_code
def yX4_back : MethodName := ⟨RX4, "back", "(I)I"⟩
abbrev cX4_count : ByteArray := prog_1_method_28_code
def yX4_count : MethodName := ⟨RX4, "count", "(I)I"⟩
abbrev cX4_isWithin : ByteArray := prog_1_method_29_code
def yX4_isWithin : MethodName := ⟨RX4, "isWithin", "(III)Z"⟩
abbrev cX4_isPlayer : ByteArray := prog_1_method_30_code
def yX4_isPlayer : MethodName := ⟨RX4, "isPlayer", "(I)Z"⟩
abbrev cX4_isChord : ByteArray := prog_1_method_31_code
def yX4_isChord : MethodName := ⟨RX4, "isChord", "(I)Z"⟩
abbrev cX4_areNotes : ByteArray := prog_1_method_32_code
def yX4_areNotes : MethodName := ⟨RX4, "areNotes", "(III)Z"⟩
abbrev cX4_remember : ByteArray := prog_1_method_33_code
def yX4_remember : MethodName := ⟨RX4, "remember", "()V"⟩
abbrev cX4_forgetOldest : ByteArray := prog_1_method_34_code
def yX4_forgetOldest : MethodName := ⟨RX4, "forgetOldest", "()V"⟩
abbrev cX4_isThereAScore : ByteArray := prog_1_method_35_code
def yX4_isThereAScore : MethodName := ⟨RX4, "isThereAScore", "()Z"⟩
abbrev cX4_canPlayAll : ByteArray := prog_1_method_36_code
def yX4_canPlayAll : MethodName := ⟨RX4, "canPlayAll", "(I)Z"⟩
abbrev cX4_fitsAllHeard : ByteArray := prog_1_method_37_code
def yX4_fitsAllHeard : MethodName := ⟨RX4, "fitsAllHeard", "(I)Z"⟩
def RX5 : String := "ChordSpreadsModel"
def TX5 : u_T := fun k => match k with
  | 0 => ("ChordSpreadsModel", "players", "I", false)
  | 1 => ("ChordSpreadsModel", "told", "[I", true)
  | 2 => ("ChordSpreadsModel", "s", "[I", true)
  | 3 => ("ChordSpreadsModel", "undos", "I", false)
  | 4 => ("ChordSpreadsModel", "past", "[I", true)
  | 5 => ("ChordSpreadsModel", "isKept", "[Z", true)
  | 6 => ("ChordSpreadsModel", "kept", "[I", true)
  | 7 => ("ChordSpreadsModel", "heard", "I", false)
  | 8 => ("ChordSpreadsModel", "heardAt", "[I", true)
  | 9 => ("ChordSpreadsModel", "heardIs", "[I", true)
  | 10 => ("ChordSpreadsModel", "newPlayers", "I", false)
  | 11 => ("ChordSpreadsModel", "newTold", "[I", true)
  | 12 => ("ChordSpreadsModel", "fresh", "[I", true)
  | 13 => ("ChordSpreadsModel", "letters", "I", false)
  | 14 => ("ChordSpreadsModel", "text", "[I", true)
  | 15 => ("ChordSpreadsModel", "at", "I", false)
  | 16 => ("ChordSpreadsModel", "number", "I", false)
  | 17 => ("ChordSpreadsModel", "isQuiet", "Z", false)
  | 18 => ("ChordSpreadsModel", "spread", "[I", true)
  | 19 => ("ChordSpreadsModel", "many", "[I", true)
  | 20 => ("ChordSpreadsModel", "toPay", "[I", true)
  | 21 => ("ChordSpreadsModel", "score", "[I", true)
  | _ => ("ChordSpreadsModel", "cost", "I", false)
def tyX5 : Nat → FieldType := fun k => match k with
  | 0 => .int
  | 1 => .array .int
  | 2 => .array .int
  | 3 => .int
  | 4 => .array .int
  | 5 => .array .boolean
  | 6 => .array .int
  | 7 => .int
  | 8 => .array .int
  | 9 => .array .int
  | 10 => .int
  | 11 => .array .int
  | 12 => .array .int
  | 13 => .int
  | 14 => .array .int
  | 15 => .int
  | 16 => .int
  | 17 => .boolean
  | 18 => .array .int
  | 19 => .array .int
  | 20 => .array .int
  | 21 => .array .int
  | _ => .int
theorem nmX5 : ∀ a, a < 23 → ∀ b, b < 23 → a ≠ b → (TX5 a).2.1 ≠ (TX5 b).2.1 := by decide +kernel
theorem tyX5_ok : ∀ k, k < 23 → parseFieldDescriptor (TX5 k).2.2.1 = some (tyX5 k) := by decide +kernel
abbrev cX5_in : ByteArray := prog_7_method_1_code
def yX5_in : MethodName := ⟨RX5, "in", "(III)Z"⟩
abbrev cX5_init : ByteArray := prog_7_method_2_code
def yX5_init : MethodName := ⟨RX5, "<init>", "()V"⟩
abbrev cX5_begins : ByteArray := prog_7_method_3_code
def yX5_begins : MethodName := ⟨RX5, "begins", "()V"⟩
abbrev cX5_becomes : ByteArray := prog_7_method_4_code
def yX5_becomes : MethodName := ⟨RX5, "becomes", "()V"⟩
abbrev cX5_type : ByteArray := prog_7_method_5_code
def yX5_type : MethodName := ⟨RX5, "type", "(I)I"⟩
abbrev cX5_clear : ByteArray := prog_7_method_6_code
def yX5_clear : MethodName := ⟨RX5, "clear", "()I"⟩
abbrev cX5_here : ByteArray := prog_7_method_7_code
def yX5_here : MethodName := ⟨RX5, "here", "()I"⟩
abbrev cX5_reads : ByteArray := prog_7_method_8_code
def yX5_reads : MethodName := ⟨RX5, "reads", "(II)Z"⟩
abbrev cX5_bows : ByteArray := prog_7_method_9_code
def yX5_bows : MethodName := ⟨RX5, "bows", "()I"⟩
abbrev cX5_readsPlayer : ByteArray := prog_7_method_10_code
def yX5_readsPlayer : MethodName := ⟨RX5, "readsPlayer", "(I)Z"⟩
abbrev cX5_readsChord : ByteArray := prog_7_method_11_code
def yX5_readsChord : MethodName := ⟨RX5, "readsChord", "()Z"⟩
abbrev cX5_readsQuiet : ByteArray := prog_7_method_12_code
def yX5_readsQuiet : MethodName := ⟨RX5, "readsQuiet", "()Z"⟩
abbrev cX5_item : ByteArray := prog_7_method_13_code
def yX5_item : MethodName := ⟨RX5, "item", "()Z"⟩
abbrev cX5_band : ByteArray := prog_7_method_14_code
def yX5_band : MethodName := ⟨RX5, "band", "()I"⟩
abbrev cX5_isPlayer : ByteArray := prog_7_method_15_code
def yX5_isPlayer : MethodName := ⟨RX5, "isPlayer", "(I)Z"⟩
abbrev cX5_isChord : ByteArray := prog_7_method_16_code
def yX5_isChord : MethodName := ⟨RX5, "isChord", "(I)Z"⟩
abbrev cX5_kind : ByteArray := prog_7_method_17_code
def yX5_kind : MethodName := ⟨RX5, "kind", "(I)I"⟩
abbrev cX5_isIn : ByteArray := prog_7_method_18_code
def yX5_isIn : MethodName := ⟨RX5, "isIn", "(I)Z"⟩
abbrev cX5_notes : ByteArray := prog_7_method_19_code
def yX5_notes : MethodName := ⟨RX5, "notes", "(I)I"⟩
abbrev cX5_note : ByteArray := prog_7_method_20_code
def yX5_note : MethodName := ⟨RX5, "note", "(II)I"⟩
abbrev cX5_player : ByteArray := prog_7_method_21_code
def yX5_player : MethodName := ⟨RX5, "player", "(II)I"⟩
abbrev cX5_span : ByteArray := prog_7_method_22_code
def yX5_span : MethodName := ⟨RX5, "span", "(I)I"⟩
abbrev cX5_chord : ByteArray := prog_7_method_23_code
def yX5_chord : MethodName := ⟨RX5, "chord", "(II)I"⟩
abbrev cX5_remembers : ByteArray := prog_7_method_24_code
def yX5_remembers : MethodName := ⟨RX5, "remembers", "()V"⟩
abbrev cX5_areNotes : ByteArray := prog_7_method_25_code
def yX5_areNotes : MethodName := ⟨RX5, "areNotes", "(III)Z"⟩
abbrev cX5_puts : ByteArray := prog_7_method_26_code
def yX5_puts : MethodName := ⟨RX5, "puts", "(IIII)I"⟩
abbrev cX5_takes : ByteArray := prog_7_method_27_code
def yX5_takes : MethodName := ⟨RX5, "takes", "(I)I"⟩
abbrev cX5_calls : ByteArray := prog_7_method_28_code
def yX5_calls : MethodName := ⟨RX5, "calls", "(I)I"⟩
abbrev cX5_tells : ByteArray := prog_7_method_29_code
def yX5_tells : MethodName := ⟨RX5, "tells", "(II)I"⟩
abbrev cX5_undo : ByteArray := prog_7_method_30_code
def yX5_undo : MethodName := ⟨RX5, "undo", "()I"⟩
abbrev cX5_ones : ByteArray := prog_7_method_31_code
def yX5_ones : MethodName := ⟨RX5, "ones", "(I)I"⟩
abbrev cX5_lowest : ByteArray := prog_7_method_32_code
def yX5_lowest : MethodName := ⟨RX5, "lowest", "(I)I"⟩
abbrev cX5_highest : ByteArray := prog_7_method_33_code
def yX5_highest : MethodName := ⟨RX5, "highest", "(I)I"⟩
abbrev cX5_isHand : ByteArray := prog_7_method_34_code
def yX5_isHand : MethodName := ⟨RX5, "isHand", "(III)Z"⟩
abbrev cX5_could : ByteArray := prog_7_method_35_code
def yX5_could : MethodName := ⟨RX5, "could", "(III)I"⟩
abbrev cX5_handOf : ByteArray := prog_7_method_36_code
def yX5_handOf : MethodName := ⟨RX5, "handOf", "(II)I"⟩
abbrev cX5_loudOf : ByteArray := prog_7_method_37_code
def yX5_loudOf : MethodName := ⟨RX5, "loudOf", "(II)I"⟩
abbrev cX5_isEven : ByteArray := prog_7_method_38_code
def yX5_isEven : MethodName := ⟨RX5, "isEven", "(III)Z"⟩
abbrev cX5_isSpread : ByteArray := prog_7_method_39_code
def yX5_isSpread : MethodName := ⟨RX5, "isSpread", "(IIII)Z"⟩
abbrev cX5_laysSpreads : ByteArray := prog_7_method_40_code
def yX5_laysSpreads : MethodName := ⟨RX5, "laysSpreads", "(III)V"⟩
abbrev cX5_spreads : ByteArray := prog_7_method_41_code
def yX5_spreads : MethodName := ⟨RX5, "spreads", "(I)I"⟩
abbrev cX5_moveOf : ByteArray := prog_7_method_42_code
def yX5_moveOf : MethodName := ⟨RX5, "moveOf", "(III)I"⟩
abbrev cX5_movesOf : ByteArray := prog_7_method_43_code
def yX5_movesOf : MethodName := ⟨RX5, "movesOf", "(III)I"⟩
abbrev cX5_leastBehind : ByteArray := prog_7_method_44_code
def yX5_leastBehind : MethodName := ⟨RX5, "leastBehind", "(III)I"⟩
abbrev cX5_laysScore : ByteArray := prog_7_method_45_code
def yX5_laysScore : MethodName := ⟨RX5, "laysScore", "(III)I"⟩
abbrev cX5_laysFirst : ByteArray := prog_7_method_46_code
def yX5_laysFirst : MethodName := ⟨RX5, "laysFirst", "()Z"⟩
abbrev cX5_playing : ByteArray := prog_7_method_47_code
def yX5_playing : MethodName := ⟨RX5, "playing", "(II)I"⟩
abbrev cX5_score : ByteArray := prog_7_method_48_code
def yX5_score : MethodName := ⟨RX5, "score", "(I)I"⟩
abbrev cX5_hand : ByteArray := prog_7_method_49_code
def yX5_hand : MethodName := ⟨RX5, "hand", "(II)I"⟩
abbrev cX5_loud : ByteArray := prog_7_method_50_code
def yX5_loud : MethodName := ⟨RX5, "loud", "(II)I"⟩
abbrev cX5_couldRest : ByteArray := prog_7_method_51_code
def yX5_couldRest : MethodName := ⟨RX5, "couldRest", "(I)I"⟩
abbrev cX5_move : ByteArray := prog_7_method_52_code
def yX5_move : MethodName := ⟨RX5, "move", "(II)I"⟩
abbrev cX5_reach : ByteArray := prog_7_method_53_code
def yX5_reach : MethodName := ⟨RX5, "reach", "()I"⟩
abbrev cX5_bits : ByteArray := prog_7_method_54_code
def yX5_bits : MethodName := ⟨RX5, "bits", "(I)I"⟩
abbrev cX5_fewest : ByteArray := prog_7_method_55_code
def yX5_fewest : MethodName := ⟨RX5, "fewest", "()I"⟩
abbrev cX5_bear : ByteArray := prog_7_method_56_code
def yX5_bear : MethodName := ⟨RX5, "bear", "()I"⟩
abbrev cX5_hears : ByteArray := prog_7_method_57_code
def yX5_hears : MethodName := ⟨RX5, "hears", "(II)I"⟩
abbrev cX5_forget : ByteArray := prog_7_method_58_code
def yX5_forget : MethodName := ⟨RX5, "forget", "()I"⟩
abbrev cX5_ill : ByteArray := prog_7_method_59_code
def yX5_ill : MethodName := ⟨RX5, "ill", "()I"⟩
abbrev cX5_keep : ByteArray := prog_7_method_60_code
def yX5_keep : MethodName := ⟨RX5, "keep", "(I)I"⟩
abbrev cX5_back : ByteArray := prog_7_method_61_code
def yX5_back : MethodName := ⟨RX5, "back", "(I)I"⟩
abbrev cX5_count : ByteArray := prog_7_method_62_code
def yX5_count : MethodName := ⟨RX5, "count", "(I)I"⟩
def RJ6 : String := "java/lang/Integer"
def TJ6 : u_T := fun k => match k with
  | _ => ("", "", "", false)
def tyJ6 : Nat → FieldType := fun k => match k with
  | _ => .int
theorem nmJ6 : ∀ a, a < 0 → ∀ b, b < 0 → a ≠ b → (TJ6 a).2.1 ≠ (TJ6 b).2.1 := by decide +kernel
theorem tyJ6_ok : ∀ k, k < 0 → parseFieldDescriptor (TJ6 k).2.2.1 = some (tyJ6 k) := by decide +kernel
abbrev cJ6_bitCount_0f7a4 : ByteArray := prog_8_method_49_code
def yJ6_bitCount_0f7a4 : MethodName := ⟨RJ6, "bitCount", "(I)I"⟩
def RJ9 : String := "java/lang/Math"
def TJ9 : u_T := fun k => match k with
  | _ => ("", "", "", false)
def tyJ9 : Nat → FieldType := fun k => match k with
  | _ => .int
theorem nmJ9 : ∀ a, a < 0 → ∀ b, b < 0 → a ≠ b → (TJ9 a).2.1 ≠ (TJ9 b).2.1 := by decide +kernel
theorem tyJ9_ok : ∀ k, k < 0 → parseFieldDescriptor (TJ9 k).2.2.1 = some (tyJ9 k) := by decide +kernel
abbrev cJ9_abs_0f7a4 : ByteArray := prog_9_method_59_code
def yJ9_abs_0f7a4 : MethodName := ⟨RJ9, "abs", "(I)I"⟩
abbrev cJ9_max_7cf53 : ByteArray := prog_9_method_65_code
def yJ9_max_7cf53 : MethodName := ⟨RJ9, "max", "(II)I"⟩
abbrev cJ9_min_7cf53 : ByteArray := prog_9_method_69_code
def yJ9_min_7cf53 : MethodName := ⟨RJ9, "min", "(II)I"⟩
def RL : String := "ChordSpreadsLaw"
abbrev cL_law : ByteArray := code
def yL_law : MethodName := ⟨RL, "law", "([I)Z"⟩
abbrev vwCl : List vw_C := [(RX0, TX0, 7), (RX1, TX1, 5), (RX2, TX2, 10), (RX3, TX3, 12), (RX4, TX4, 12), (RX5, TX5, 23)]
end
section
theorem dX0_init_0 : decode cX0_init 0 = .ok (.aload_n 0, 1) := by decide +kernel
theorem dX0_init_1 : decode cX0_init 1 = .ok (.invokespecial 3, 3) := by decide +kernel
theorem dX0_init_4 : decode cX0_init 4 = .ok (.aload_n 0, 1) := by decide +kernel
theorem dX0_init_5 : decode cX0_init 5 = .ok (.iconst 0, 1) := by decide +kernel
theorem dX0_init_6 : decode cX0_init 6 = .ok (.putfield 9, 3) := by decide +kernel
theorem dX0_init_9 : decode cX0_init 9 = .ok (.aload_n 0, 1) := by decide +kernel
theorem dX0_init_10 : decode cX0_init 10 = .ok (.iconst 0, 1) := by decide +kernel
theorem dX0_init_11 : decode cX0_init 11 = .ok (.putfield 15, 3) := by decide +kernel
theorem dX0_init_14 : decode cX0_init 14 = .ok (.aload_n 0, 1) := by decide +kernel
theorem dX0_init_15 : decode cX0_init 15 = .ok (.iconst 4, 1) := by decide +kernel
theorem dX0_init_16 : decode cX0_init 16 = .ok (.newarray .int, 2) := by decide +kernel
theorem dX0_init_18 : decode cX0_init 18 = .ok (.putfield 18, 3) := by decide +kernel
theorem dX0_init_21 : decode cX0_init 21 = .ok (.aload_n 0, 1) := by decide +kernel
theorem dX0_init_22 : decode cX0_init 22 = .ok (.iconst 4, 1) := by decide +kernel
theorem dX0_init_23 : decode cX0_init 23 = .ok (.newarray .int, 2) := by decide +kernel
theorem dX0_init_25 : decode cX0_init 25 = .ok (.putfield 22, 3) := by decide +kernel
theorem dX0_init_28 : decode cX0_init 28 = .ok (.aload_n 0, 1) := by decide +kernel
theorem dX0_init_29 : decode cX0_init 29 = .ok (.iconst 4, 1) := by decide +kernel
theorem dX0_init_30 : decode cX0_init 30 = .ok (.newarray .int, 2) := by decide +kernel
theorem dX0_init_32 : decode cX0_init 32 = .ok (.putfield 25, 3) := by decide +kernel
theorem dX0_init_35 : decode cX0_init 35 = .ok (.aload_n 0, 1) := by decide +kernel
theorem dX0_init_36 : decode cX0_init 36 = .ok (.iconst 4, 1) := by decide +kernel
theorem dX0_init_37 : decode cX0_init 37 = .ok (.newarray .int, 2) := by decide +kernel
theorem dX0_init_39 : decode cX0_init 39 = .ok (.putfield 28, 3) := by decide +kernel
theorem dX0_init_42 : decode cX0_init 42 = .ok (.aload_n 0, 1) := by decide +kernel
theorem dX0_init_43 : decode cX0_init 43 = .ok (.iconst 4, 1) := by decide +kernel
theorem dX0_init_44 : decode cX0_init 44 = .ok (.newarray .int, 2) := by decide +kernel
theorem dX0_init_46 : decode cX0_init 46 = .ok (.putfield 31, 3) := by decide +kernel
theorem dX0_init_49 : decode cX0_init 49 = .ok (.return_, 1) := by decide +kernel
theorem dX0_empty_0 : decode cX0_empty 0 = .ok (.aload_n 0, 1) := by decide +kernel
theorem dX0_empty_1 : decode cX0_empty 1 = .ok (.iconst 0, 1) := by decide +kernel
theorem dX0_empty_2 : decode cX0_empty 2 = .ok (.putfield 9, 3) := by decide +kernel
theorem dX0_empty_5 : decode cX0_empty 5 = .ok (.aload_n 0, 1) := by decide +kernel
theorem dX0_empty_6 : decode cX0_empty 6 = .ok (.iconst 0, 1) := by decide +kernel
theorem dX0_empty_7 : decode cX0_empty 7 = .ok (.putfield 15, 3) := by decide +kernel
theorem dX0_empty_10 : decode cX0_empty 10 = .ok (.return_, 1) := by decide +kernel
theorem dX0_hasRoomFor_0 : decode cX0_hasRoomFor 0 = .ok (.aload_n 0, 1) := by decide +kernel
theorem dX0_hasRoomFor_1 : decode cX0_hasRoomFor 1 = .ok (.getfield 9, 3) := by decide +kernel
theorem dX0_hasRoomFor_4 : decode cX0_hasRoomFor 4 = .ok (.iconst 4, 1) := by decide +kernel
theorem dX0_hasRoomFor_5 : decode cX0_hasRoomFor 5 = .ok (.if_icmp .ge 20, 3) := by decide +kernel
theorem dX0_hasRoomFor_8 : decode cX0_hasRoomFor 8 = .ok (.iload_n 1, 1) := by decide +kernel
theorem dX0_hasRoomFor_9 : decode cX0_hasRoomFor 9 = .ok (.iconst 1, 1) := by decide +kernel
theorem dX0_hasRoomFor_10 : decode cX0_hasRoomFor 10 = .ok (.if_icmp .ne 11, 3) := by decide +kernel
theorem dX0_hasRoomFor_13 : decode cX0_hasRoomFor 13 = .ok (.aload_n 0, 1) := by decide +kernel
theorem dX0_hasRoomFor_14 : decode cX0_hasRoomFor 14 = .ok (.getfield 15, 3) := by decide +kernel
theorem dX0_hasRoomFor_17 : decode cX0_hasRoomFor 17 = .ok (.iconst 2, 1) := by decide +kernel
theorem dX0_hasRoomFor_18 : decode cX0_hasRoomFor 18 = .ok (.if_icmp .ge 7, 3) := by decide +kernel
theorem dX0_hasRoomFor_21 : decode cX0_hasRoomFor 21 = .ok (.iconst 1, 1) := by decide +kernel
theorem dX0_hasRoomFor_22 : decode cX0_hasRoomFor 22 = .ok (.goto 4, 3) := by decide +kernel
theorem dX0_hasRoomFor_25 : decode cX0_hasRoomFor 25 = .ok (.iconst 0, 1) := by decide +kernel
theorem dX0_hasRoomFor_26 : decode cX0_hasRoomFor 26 = .ok (.ireturn, 1) := by decide +kernel
theorem dX0_add_0 : decode cX0_add 0 = .ok (.aload_n 0, 1) := by decide +kernel
theorem dX0_add_1 : decode cX0_add 1 = .ok (.iload_n 1, 1) := by decide +kernel
theorem dX0_add_2 : decode cX0_add 2 = .ok (.invokevirtual 34, 3) := by decide +kernel
theorem dX0_add_5 : decode cX0_add 5 = .ok (.ifCond .ne 4, 3) := by decide +kernel
theorem dX0_add_8 : decode cX0_add 8 = .ok (.return_, 1) := by decide +kernel
theorem dX0_add_9 : decode cX0_add 9 = .ok (.aload_n 0, 1) := by decide +kernel
theorem dX0_add_10 : decode cX0_add 10 = .ok (.getfield 18, 3) := by decide +kernel
theorem dX0_add_13 : decode cX0_add 13 = .ok (.aload_n 0, 1) := by decide +kernel
theorem dX0_add_14 : decode cX0_add 14 = .ok (.getfield 9, 3) := by decide +kernel
theorem dX0_add_17 : decode cX0_add 17 = .ok (.iload_n 1, 1) := by decide +kernel
theorem dX0_add_18 : decode cX0_add 18 = .ok (.iastore, 1) := by decide +kernel
theorem dX0_add_19 : decode cX0_add 19 = .ok (.aload_n 0, 1) := by decide +kernel
theorem dX0_add_20 : decode cX0_add 20 = .ok (.getfield 22, 3) := by decide +kernel
theorem dX0_add_23 : decode cX0_add 23 = .ok (.aload_n 0, 1) := by decide +kernel
theorem dX0_add_24 : decode cX0_add 24 = .ok (.getfield 9, 3) := by decide +kernel
theorem dX0_add_27 : decode cX0_add 27 = .ok (.iload_n 2, 1) := by decide +kernel
theorem dX0_add_28 : decode cX0_add 28 = .ok (.iastore, 1) := by decide +kernel
theorem dX0_add_29 : decode cX0_add 29 = .ok (.aload_n 0, 1) := by decide +kernel
theorem dX0_add_30 : decode cX0_add 30 = .ok (.getfield 25, 3) := by decide +kernel
theorem dX0_add_33 : decode cX0_add 33 = .ok (.aload_n 0, 1) := by decide +kernel
theorem dX0_add_34 : decode cX0_add 34 = .ok (.getfield 9, 3) := by decide +kernel
theorem dX0_add_37 : decode cX0_add 37 = .ok (.iload_n 3, 1) := by decide +kernel
theorem dX0_add_38 : decode cX0_add 38 = .ok (.iastore, 1) := by decide +kernel
theorem dX0_add_39 : decode cX0_add 39 = .ok (.aload_n 0, 1) := by decide +kernel
theorem dX0_add_40 : decode cX0_add 40 = .ok (.getfield 28, 3) := by decide +kernel
theorem dX0_add_43 : decode cX0_add 43 = .ok (.aload_n 0, 1) := by decide +kernel
theorem dX0_add_44 : decode cX0_add 44 = .ok (.getfield 9, 3) := by decide +kernel
theorem dX0_add_47 : decode cX0_add 47 = .ok (.iload 4, 2) := by decide +kernel
theorem dX0_add_49 : decode cX0_add 49 = .ok (.iastore, 1) := by decide +kernel
theorem dX0_add_50 : decode cX0_add 50 = .ok (.aload_n 0, 1) := by decide +kernel
theorem dX0_add_51 : decode cX0_add 51 = .ok (.getfield 31, 3) := by decide +kernel
theorem dX0_add_54 : decode cX0_add 54 = .ok (.aload_n 0, 1) := by decide +kernel
theorem dX0_add_55 : decode cX0_add 55 = .ok (.getfield 9, 3) := by decide +kernel
theorem dX0_add_58 : decode cX0_add 58 = .ok (.iload 5, 2) := by decide +kernel
theorem dX0_add_60 : decode cX0_add 60 = .ok (.iastore, 1) := by decide +kernel
theorem dX0_add_61 : decode cX0_add 61 = .ok (.aload_n 0, 1) := by decide +kernel
theorem dX0_add_62 : decode cX0_add 62 = .ok (.dup, 1) := by decide +kernel
theorem dX0_add_63 : decode cX0_add 63 = .ok (.getfield 9, 3) := by decide +kernel
theorem dX0_add_66 : decode cX0_add 66 = .ok (.iconst 1, 1) := by decide +kernel
theorem dX0_add_67 : decode cX0_add 67 = .ok (.iadd, 1) := by decide +kernel
theorem dX0_add_68 : decode cX0_add 68 = .ok (.putfield 9, 3) := by decide +kernel
theorem dX0_add_71 : decode cX0_add 71 = .ok (.iload_n 1, 1) := by decide +kernel
theorem dX0_add_72 : decode cX0_add 72 = .ok (.iconst 1, 1) := by decide +kernel
theorem dX0_add_73 : decode cX0_add 73 = .ok (.if_icmp .ne 13, 3) := by decide +kernel
theorem dX0_add_76 : decode cX0_add 76 = .ok (.aload_n 0, 1) := by decide +kernel
theorem dX0_add_77 : decode cX0_add 77 = .ok (.dup, 1) := by decide +kernel
theorem dX0_add_78 : decode cX0_add 78 = .ok (.getfield 15, 3) := by decide +kernel
theorem dX0_add_81 : decode cX0_add 81 = .ok (.iconst 1, 1) := by decide +kernel
theorem dX0_add_82 : decode cX0_add 82 = .ok (.iadd, 1) := by decide +kernel
theorem dX0_add_83 : decode cX0_add 83 = .ok (.putfield 15, 3) := by decide +kernel
theorem dX0_add_86 : decode cX0_add 86 = .ok (.return_, 1) := by decide +kernel
theorem dX0_become_0 : decode cX0_become 0 = .ok (.aload_n 0, 1) := by decide +kernel
theorem dX0_become_1 : decode cX0_become 1 = .ok (.invokevirtual 38, 3) := by decide +kernel
theorem dX0_become_4 : decode cX0_become 4 = .ok (.iconst 0, 1) := by decide +kernel
theorem dX0_become_5 : decode cX0_become 5 = .ok (.istore_n 2, 1) := by decide +kernel
theorem dX0_become_6 : decode cX0_become 6 = .ok (.iload_n 2, 1) := by decide +kernel
theorem dX0_become_7 : decode cX0_become 7 = .ok (.aload_n 1, 1) := by decide +kernel
theorem dX0_become_8 : decode cX0_become 8 = .ok (.getfield 9, 3) := by decide +kernel
theorem dX0_become_11 : decode cX0_become 11 = .ok (.if_icmp .ge 43, 3) := by decide +kernel
theorem dX0_become_14 : decode cX0_become 14 = .ok (.aload_n 0, 1) := by decide +kernel
theorem dX0_become_15 : decode cX0_become 15 = .ok (.aload_n 1, 1) := by decide +kernel
theorem dX0_become_16 : decode cX0_become 16 = .ok (.getfield 18, 3) := by decide +kernel
theorem dX0_become_19 : decode cX0_become 19 = .ok (.iload_n 2, 1) := by decide +kernel
theorem dX0_become_20 : decode cX0_become 20 = .ok (.iaload, 1) := by decide +kernel
theorem dX0_become_21 : decode cX0_become 21 = .ok (.aload_n 1, 1) := by decide +kernel
theorem dX0_become_22 : decode cX0_become 22 = .ok (.getfield 22, 3) := by decide +kernel
theorem dX0_become_25 : decode cX0_become 25 = .ok (.iload_n 2, 1) := by decide +kernel
theorem dX0_become_26 : decode cX0_become 26 = .ok (.iaload, 1) := by decide +kernel
theorem dX0_become_27 : decode cX0_become 27 = .ok (.aload_n 1, 1) := by decide +kernel
theorem dX0_become_28 : decode cX0_become 28 = .ok (.getfield 25, 3) := by decide +kernel
theorem dX0_become_31 : decode cX0_become 31 = .ok (.iload_n 2, 1) := by decide +kernel
theorem dX0_become_32 : decode cX0_become 32 = .ok (.iaload, 1) := by decide +kernel
theorem dX0_become_33 : decode cX0_become 33 = .ok (.aload_n 1, 1) := by decide +kernel
theorem dX0_become_34 : decode cX0_become 34 = .ok (.getfield 28, 3) := by decide +kernel
theorem dX0_become_37 : decode cX0_become 37 = .ok (.iload_n 2, 1) := by decide +kernel
theorem dX0_become_38 : decode cX0_become 38 = .ok (.iaload, 1) := by decide +kernel
theorem dX0_become_39 : decode cX0_become 39 = .ok (.aload_n 1, 1) := by decide +kernel
theorem dX0_become_40 : decode cX0_become 40 = .ok (.getfield 31, 3) := by decide +kernel
theorem dX0_become_43 : decode cX0_become 43 = .ok (.iload_n 2, 1) := by decide +kernel
theorem dX0_become_44 : decode cX0_become 44 = .ok (.iaload, 1) := by decide +kernel
theorem dX0_become_45 : decode cX0_become 45 = .ok (.invokevirtual 41, 3) := by decide +kernel
theorem dX0_become_48 : decode cX0_become 48 = .ok (.iinc 2 1, 3) := by decide +kernel
theorem dX0_become_51 : decode cX0_become 51 = .ok (.goto (-45), 3) := by decide +kernel
theorem dX0_become_54 : decode cX0_become 54 = .ok (.return_, 1) := by decide +kernel
theorem dX0_manages_0 : decode cX0_manages 0 = .ok (.iload 4, 2) := by decide +kernel
theorem dX0_manages_2 : decode cX0_manages 2 = .ok (.invokestatic 45, 3) := by decide +kernel
theorem dX0_manages_5 : decode cX0_manages 5 = .ok (.istore 5, 2) := by decide +kernel
theorem dX0_manages_7 : decode cX0_manages 7 = .ok (.iload 5, 2) := by decide +kernel
theorem dX0_manages_9 : decode cX0_manages 9 = .ok (.ifCond .ne 5, 3) := by decide +kernel
theorem dX0_manages_12 : decode cX0_manages 12 = .ok (.iconst 1, 1) := by decide +kernel
theorem dX0_manages_13 : decode cX0_manages 13 = .ok (.ireturn, 1) := by decide +kernel
theorem dX0_manages_14 : decode cX0_manages 14 = .ok (.iload 5, 2) := by decide +kernel
theorem dX0_manages_16 : decode cX0_manages 16 = .ok (.aload_n 0, 1) := by decide +kernel
theorem dX0_manages_17 : decode cX0_manages 17 = .ok (.getfield 18, 3) := by decide +kernel
theorem dX0_manages_20 : decode cX0_manages 20 = .ok (.iload_n 1, 1) := by decide +kernel
theorem dX0_manages_21 : decode cX0_manages 21 = .ok (.iaload, 1) := by decide +kernel
theorem dX0_manages_22 : decode cX0_manages 22 = .ok (.iconst 1, 1) := by decide +kernel
theorem dX0_manages_23 : decode cX0_manages 23 = .ok (.if_icmp .ne 7, 3) := by decide +kernel
theorem dX0_manages_26 : decode cX0_manages 26 = .ok (.iconst 2, 1) := by decide +kernel
theorem dX0_manages_27 : decode cX0_manages 27 = .ok (.goto 4, 3) := by decide +kernel
theorem dX0_manages_30 : decode cX0_manages 30 = .ok (.iconst 1, 1) := by decide +kernel
theorem dX0_manages_31 : decode cX0_manages 31 = .ok (.if_icmp .le 5, 3) := by decide +kernel
theorem dX0_manages_34 : decode cX0_manages 34 = .ok (.iconst 0, 1) := by decide +kernel
theorem dX0_manages_35 : decode cX0_manages 35 = .ok (.ireturn, 1) := by decide +kernel
theorem dX0_manages_36 : decode cX0_manages 36 = .ok (.aload_n 2, 1) := by decide +kernel
theorem dX0_manages_37 : decode cX0_manages 37 = .ok (.iload_n 3, 1) := by decide +kernel
theorem dX0_manages_38 : decode cX0_manages 38 = .ok (.iload 4, 2) := by decide +kernel
theorem dX0_manages_40 : decode cX0_manages 40 = .ok (.invokevirtual 51, 3) := by decide +kernel
theorem dX0_manages_43 : decode cX0_manages 43 = .ok (.istore 6, 2) := by decide +kernel
theorem dX0_manages_45 : decode cX0_manages 45 = .ok (.aload_n 2, 1) := by decide +kernel
theorem dX0_manages_46 : decode cX0_manages 46 = .ok (.iload_n 3, 1) := by decide +kernel
theorem dX0_manages_47 : decode cX0_manages 47 = .ok (.iload 4, 2) := by decide +kernel
theorem dX0_manages_49 : decode cX0_manages 49 = .ok (.invokevirtual 57, 3) := by decide +kernel
theorem dX0_manages_52 : decode cX0_manages 52 = .ok (.istore 7, 2) := by decide +kernel
theorem dX0_manages_54 : decode cX0_manages 54 = .ok (.iload 6, 2) := by decide +kernel
theorem dX0_manages_56 : decode cX0_manages 56 = .ok (.aload_n 0, 1) := by decide +kernel
theorem dX0_manages_57 : decode cX0_manages 57 = .ok (.getfield 22, 3) := by decide +kernel
theorem dX0_manages_60 : decode cX0_manages 60 = .ok (.iload_n 1, 1) := by decide +kernel
theorem dX0_manages_61 : decode cX0_manages 61 = .ok (.iaload, 1) := by decide +kernel
theorem dX0_manages_62 : decode cX0_manages 62 = .ok (.if_icmp .lt 38, 3) := by decide +kernel
theorem dX0_manages_65 : decode cX0_manages 65 = .ok (.iload 7, 2) := by decide +kernel
theorem dX0_manages_67 : decode cX0_manages 67 = .ok (.aload_n 0, 1) := by decide +kernel
theorem dX0_manages_68 : decode cX0_manages 68 = .ok (.getfield 25, 3) := by decide +kernel
theorem dX0_manages_71 : decode cX0_manages 71 = .ok (.iload_n 1, 1) := by decide +kernel
theorem dX0_manages_72 : decode cX0_manages 72 = .ok (.iaload, 1) := by decide +kernel
theorem dX0_manages_73 : decode cX0_manages 73 = .ok (.if_icmp .gt 27, 3) := by decide +kernel
theorem dX0_manages_76 : decode cX0_manages 76 = .ok (.iload 5, 2) := by decide +kernel
theorem dX0_manages_78 : decode cX0_manages 78 = .ok (.iconst 1, 1) := by decide +kernel
theorem dX0_manages_79 : decode cX0_manages 79 = .ok (.if_icmp .eq 17, 3) := by decide +kernel
theorem dX0_manages_82 : decode cX0_manages 82 = .ok (.iload 7, 2) := by decide +kernel
theorem dX0_manages_84 : decode cX0_manages 84 = .ok (.iload 6, 2) := by decide +kernel
theorem dX0_manages_86 : decode cX0_manages 86 = .ok (.isub, 1) := by decide +kernel
theorem dX0_manages_87 : decode cX0_manages 87 = .ok (.aload_n 0, 1) := by decide +kernel
theorem dX0_manages_88 : decode cX0_manages 88 = .ok (.getfield 31, 3) := by decide +kernel
theorem dX0_manages_91 : decode cX0_manages 91 = .ok (.iload_n 1, 1) := by decide +kernel
theorem dX0_manages_92 : decode cX0_manages 92 = .ok (.iaload, 1) := by decide +kernel
theorem dX0_manages_93 : decode cX0_manages 93 = .ok (.if_icmp .gt 7, 3) := by decide +kernel
theorem dX0_manages_96 : decode cX0_manages 96 = .ok (.iconst 1, 1) := by decide +kernel
theorem dX0_manages_97 : decode cX0_manages 97 = .ok (.goto 4, 3) := by decide +kernel
theorem dX0_manages_100 : decode cX0_manages 100 = .ok (.iconst 0, 1) := by decide +kernel
theorem dX0_manages_101 : decode cX0_manages 101 = .ok (.ireturn, 1) := by decide +kernel
theorem dX0_strength_0 : decode cX0_strength 0 = .ok (.iload_n 2, 1) := by decide +kernel
theorem dX0_strength_1 : decode cX0_strength 1 = .ok (.invokestatic 45, 3) := by decide +kernel
theorem dX0_strength_4 : decode cX0_strength 4 = .ok (.iconst 2, 1) := by decide +kernel
theorem dX0_strength_5 : decode cX0_strength 5 = .ok (.if_icmp .ne 14, 3) := by decide +kernel
theorem dX0_strength_8 : decode cX0_strength 8 = .ok (.aload_n 0, 1) := by decide +kernel
theorem dX0_strength_9 : decode cX0_strength 9 = .ok (.getfield 28, 3) := by decide +kernel
theorem dX0_strength_12 : decode cX0_strength 12 = .ok (.iload_n 1, 1) := by decide +kernel
theorem dX0_strength_13 : decode cX0_strength 13 = .ok (.iaload, 1) := by decide +kernel
theorem dX0_strength_14 : decode cX0_strength 14 = .ok (.iconst 1, 1) := by decide +kernel
theorem dX0_strength_15 : decode cX0_strength 15 = .ok (.ishr, 1) := by decide +kernel
theorem dX0_strength_16 : decode cX0_strength 16 = .ok (.goto 9, 3) := by decide +kernel
theorem dX0_strength_19 : decode cX0_strength 19 = .ok (.aload_n 0, 1) := by decide +kernel
theorem dX0_strength_20 : decode cX0_strength 20 = .ok (.getfield 28, 3) := by decide +kernel
theorem dX0_strength_23 : decode cX0_strength 23 = .ok (.iload_n 1, 1) := by decide +kernel
theorem dX0_strength_24 : decode cX0_strength 24 = .ok (.iaload, 1) := by decide +kernel
theorem dX0_strength_25 : decode cX0_strength 25 = .ok (.ireturn, 1) := by decide +kernel
theorem dX1_init_0 : decode cX1_init 0 = .ok (.aload_n 0, 1) := by decide +kernel
theorem dX1_init_1 : decode cX1_init 1 = .ok (.invokespecial 3, 3) := by decide +kernel
theorem dX1_init_4 : decode cX1_init 4 = .ok (.aload_n 0, 1) := by decide +kernel
theorem dX1_init_5 : decode cX1_init 5 = .ok (.iconst 0, 1) := by decide +kernel
theorem dX1_init_6 : decode cX1_init 6 = .ok (.putfield 9, 3) := by decide +kernel
theorem dX1_init_9 : decode cX1_init 9 = .ok (.aload_n 0, 1) := by decide +kernel
theorem dX1_init_10 : decode cX1_init 10 = .ok (.iconst 0, 1) := by decide +kernel
theorem dX1_init_11 : decode cX1_init 11 = .ok (.putfield 15, 3) := by decide +kernel
theorem dX1_init_14 : decode cX1_init 14 = .ok (.aload_n 0, 1) := by decide +kernel
theorem dX1_init_15 : decode cX1_init 15 = .ok (.iconst 5, 1) := by decide +kernel
theorem dX1_init_16 : decode cX1_init 16 = .ok (.putfield 18, 3) := by decide +kernel
theorem dX1_init_19 : decode cX1_init 19 = .ok (.aload_n 0, 1) := by decide +kernel
theorem dX1_init_20 : decode cX1_init 20 = .ok (.bipush 9, 2) := by decide +kernel
theorem dX1_init_22 : decode cX1_init 22 = .ok (.putfield 21, 3) := by decide +kernel
theorem dX1_init_25 : decode cX1_init 25 = .ok (.aload_n 0, 1) := by decide +kernel
theorem dX1_init_26 : decode cX1_init 26 = .ok (.bipush 24, 2) := by decide +kernel
theorem dX1_init_28 : decode cX1_init 28 = .ok (.newarray .int, 2) := by decide +kernel
theorem dX1_init_30 : decode cX1_init 30 = .ok (.putfield 24, 3) := by decide +kernel
theorem dX1_init_33 : decode cX1_init 33 = .ok (.return_, 1) := by decide +kernel
theorem dX1_empty_0 : decode cX1_empty 0 = .ok (.aload_n 0, 1) := by decide +kernel
theorem dX1_empty_1 : decode cX1_empty 1 = .ok (.iconst 0, 1) := by decide +kernel
theorem dX1_empty_2 : decode cX1_empty 2 = .ok (.putfield 9, 3) := by decide +kernel
theorem dX1_empty_5 : decode cX1_empty 5 = .ok (.aload_n 0, 1) := by decide +kernel
theorem dX1_empty_6 : decode cX1_empty 6 = .ok (.iconst 0, 1) := by decide +kernel
theorem dX1_empty_7 : decode cX1_empty 7 = .ok (.putfield 15, 3) := by decide +kernel
theorem dX1_empty_10 : decode cX1_empty 10 = .ok (.aload_n 0, 1) := by decide +kernel
theorem dX1_empty_11 : decode cX1_empty 11 = .ok (.iconst 5, 1) := by decide +kernel
theorem dX1_empty_12 : decode cX1_empty 12 = .ok (.putfield 18, 3) := by decide +kernel
theorem dX1_empty_15 : decode cX1_empty 15 = .ok (.aload_n 0, 1) := by decide +kernel
theorem dX1_empty_16 : decode cX1_empty 16 = .ok (.bipush 9, 2) := by decide +kernel
theorem dX1_empty_18 : decode cX1_empty 18 = .ok (.putfield 21, 3) := by decide +kernel
theorem dX1_empty_21 : decode cX1_empty 21 = .ok (.return_, 1) := by decide +kernel
theorem dX1_noteAt_0 : decode cX1_noteAt 0 = .ok (.aload_n 0, 1) := by decide +kernel
theorem dX1_noteAt_1 : decode cX1_noteAt 1 = .ok (.getfield 24, 3) := by decide +kernel
theorem dX1_noteAt_4 : decode cX1_noteAt 4 = .ok (.iload_n 1, 1) := by decide +kernel
theorem dX1_noteAt_5 : decode cX1_noteAt 5 = .ok (.iconst 3, 1) := by decide +kernel
theorem dX1_noteAt_6 : decode cX1_noteAt 6 = .ok (.imul, 1) := by decide +kernel
theorem dX1_noteAt_7 : decode cX1_noteAt 7 = .ok (.iload_n 2, 1) := by decide +kernel
theorem dX1_noteAt_8 : decode cX1_noteAt 8 = .ok (.iadd, 1) := by decide +kernel
theorem dX1_noteAt_9 : decode cX1_noteAt 9 = .ok (.iaload, 1) := by decide +kernel
theorem dX1_noteAt_10 : decode cX1_noteAt 10 = .ok (.ireturn, 1) := by decide +kernel
theorem dX1_notesOf_0 : decode cX1_notesOf 0 = .ok (.iconst 0, 1) := by decide +kernel
theorem dX1_notesOf_1 : decode cX1_notesOf 1 = .ok (.istore_n 2, 1) := by decide +kernel
theorem dX1_notesOf_2 : decode cX1_notesOf 2 = .ok (.iload_n 2, 1) := by decide +kernel
theorem dX1_notesOf_3 : decode cX1_notesOf 3 = .ok (.iconst 3, 1) := by decide +kernel
theorem dX1_notesOf_4 : decode cX1_notesOf 4 = .ok (.if_icmp .ge 19, 3) := by decide +kernel
theorem dX1_notesOf_7 : decode cX1_notesOf 7 = .ok (.aload_n 0, 1) := by decide +kernel
theorem dX1_notesOf_8 : decode cX1_notesOf 8 = .ok (.iload_n 1, 1) := by decide +kernel
theorem dX1_notesOf_9 : decode cX1_notesOf 9 = .ok (.iload_n 2, 1) := by decide +kernel
theorem dX1_notesOf_10 : decode cX1_notesOf 10 = .ok (.invokevirtual 28, 3) := by decide +kernel
theorem dX1_notesOf_13 : decode cX1_notesOf 13 = .ok (.iconst (-1), 1) := by decide +kernel
theorem dX1_notesOf_14 : decode cX1_notesOf 14 = .ok (.if_icmp .eq 9, 3) := by decide +kernel
theorem dX1_notesOf_17 : decode cX1_notesOf 17 = .ok (.iinc 2 1, 3) := by decide +kernel
theorem dX1_notesOf_20 : decode cX1_notesOf 20 = .ok (.goto (-18), 3) := by decide +kernel
theorem dX1_notesOf_23 : decode cX1_notesOf 23 = .ok (.iload_n 2, 1) := by decide +kernel
theorem dX1_notesOf_24 : decode cX1_notesOf 24 = .ok (.ireturn, 1) := by decide +kernel
theorem dX1_isThat_0 : decode cX1_isThat 0 = .ok (.aload_n 0, 1) := by decide +kernel
theorem dX1_isThat_1 : decode cX1_isThat 1 = .ok (.iload_n 1, 1) := by decide +kernel
theorem dX1_isThat_2 : decode cX1_isThat 2 = .ok (.iconst 0, 1) := by decide +kernel
theorem dX1_isThat_3 : decode cX1_isThat 3 = .ok (.invokevirtual 28, 3) := by decide +kernel
theorem dX1_isThat_6 : decode cX1_isThat 6 = .ok (.iload_n 2, 1) := by decide +kernel
theorem dX1_isThat_7 : decode cX1_isThat 7 = .ok (.if_icmp .ne 28, 3) := by decide +kernel
theorem dX1_isThat_10 : decode cX1_isThat 10 = .ok (.aload_n 0, 1) := by decide +kernel
theorem dX1_isThat_11 : decode cX1_isThat 11 = .ok (.iload_n 1, 1) := by decide +kernel
theorem dX1_isThat_12 : decode cX1_isThat 12 = .ok (.iconst 1, 1) := by decide +kernel
theorem dX1_isThat_13 : decode cX1_isThat 13 = .ok (.invokevirtual 28, 3) := by decide +kernel
theorem dX1_isThat_16 : decode cX1_isThat 16 = .ok (.iload_n 3, 1) := by decide +kernel
theorem dX1_isThat_17 : decode cX1_isThat 17 = .ok (.if_icmp .ne 18, 3) := by decide +kernel
theorem dX1_isThat_20 : decode cX1_isThat 20 = .ok (.aload_n 0, 1) := by decide +kernel
theorem dX1_isThat_21 : decode cX1_isThat 21 = .ok (.iload_n 1, 1) := by decide +kernel
theorem dX1_isThat_22 : decode cX1_isThat 22 = .ok (.iconst 2, 1) := by decide +kernel
theorem dX1_isThat_23 : decode cX1_isThat 23 = .ok (.invokevirtual 28, 3) := by decide +kernel
theorem dX1_isThat_26 : decode cX1_isThat 26 = .ok (.iload 4, 2) := by decide +kernel
theorem dX1_isThat_28 : decode cX1_isThat 28 = .ok (.if_icmp .ne 7, 3) := by decide +kernel
theorem dX1_isThat_31 : decode cX1_isThat 31 = .ok (.iconst 1, 1) := by decide +kernel
theorem dX1_isThat_32 : decode cX1_isThat 32 = .ok (.goto 4, 3) := by decide +kernel
theorem dX1_isThat_35 : decode cX1_isThat 35 = .ok (.iconst 0, 1) := by decide +kernel
theorem dX1_isThat_36 : decode cX1_isThat 36 = .ok (.ireturn, 1) := by decide +kernel
theorem dX1_put_0 : decode cX1_put 0 = .ok (.iload_n 1, 1) := by decide +kernel
theorem dX1_put_1 : decode cX1_put 1 = .ok (.ifCond .lt 17, 3) := by decide +kernel
theorem dX1_put_4 : decode cX1_put 4 = .ok (.iload_n 1, 1) := by decide +kernel
theorem dX1_put_5 : decode cX1_put 5 = .ok (.aload_n 0, 1) := by decide +kernel
theorem dX1_put_6 : decode cX1_put 6 = .ok (.getfield 9, 3) := by decide +kernel
theorem dX1_put_9 : decode cX1_put 9 = .ok (.if_icmp .gt 9, 3) := by decide +kernel
theorem dX1_put_12 : decode cX1_put 12 = .ok (.iload_n 1, 1) := by decide +kernel
theorem dX1_put_13 : decode cX1_put 13 = .ok (.bipush 8, 2) := by decide +kernel
theorem dX1_put_15 : decode cX1_put 15 = .ok (.if_icmp .lt 4, 3) := by decide +kernel
theorem dX1_put_18 : decode cX1_put 18 = .ok (.return_, 1) := by decide +kernel
theorem dX1_put_19 : decode cX1_put 19 = .ok (.aload_n 0, 1) := by decide +kernel
theorem dX1_put_20 : decode cX1_put 20 = .ok (.getfield 24, 3) := by decide +kernel
theorem dX1_put_23 : decode cX1_put 23 = .ok (.iload_n 1, 1) := by decide +kernel
theorem dX1_put_24 : decode cX1_put 24 = .ok (.iconst 3, 1) := by decide +kernel
theorem dX1_put_25 : decode cX1_put 25 = .ok (.imul, 1) := by decide +kernel
theorem dX1_put_26 : decode cX1_put 26 = .ok (.iload_n 2, 1) := by decide +kernel
theorem dX1_put_27 : decode cX1_put 27 = .ok (.iastore, 1) := by decide +kernel
theorem dX1_put_28 : decode cX1_put 28 = .ok (.aload_n 0, 1) := by decide +kernel
theorem dX1_put_29 : decode cX1_put 29 = .ok (.getfield 24, 3) := by decide +kernel
theorem dX1_put_32 : decode cX1_put 32 = .ok (.iload_n 1, 1) := by decide +kernel
theorem dX1_put_33 : decode cX1_put 33 = .ok (.iconst 3, 1) := by decide +kernel
theorem dX1_put_34 : decode cX1_put 34 = .ok (.imul, 1) := by decide +kernel
theorem dX1_put_35 : decode cX1_put 35 = .ok (.iconst 1, 1) := by decide +kernel
theorem dX1_put_36 : decode cX1_put 36 = .ok (.iadd, 1) := by decide +kernel
theorem dX1_put_37 : decode cX1_put 37 = .ok (.iload_n 3, 1) := by decide +kernel
theorem dX1_put_38 : decode cX1_put 38 = .ok (.iastore, 1) := by decide +kernel
theorem dX1_put_39 : decode cX1_put 39 = .ok (.aload_n 0, 1) := by decide +kernel
theorem dX1_put_40 : decode cX1_put 40 = .ok (.getfield 24, 3) := by decide +kernel
theorem dX1_put_43 : decode cX1_put 43 = .ok (.iload_n 1, 1) := by decide +kernel
theorem dX1_put_44 : decode cX1_put 44 = .ok (.iconst 3, 1) := by decide +kernel
theorem dX1_put_45 : decode cX1_put 45 = .ok (.imul, 1) := by decide +kernel
theorem dX1_put_46 : decode cX1_put 46 = .ok (.iconst 2, 1) := by decide +kernel
theorem dX1_put_47 : decode cX1_put 47 = .ok (.iadd, 1) := by decide +kernel
theorem dX1_put_48 : decode cX1_put 48 = .ok (.iload 4, 2) := by decide +kernel
theorem dX1_put_50 : decode cX1_put 50 = .ok (.iastore, 1) := by decide +kernel
theorem dX1_put_51 : decode cX1_put 51 = .ok (.iload_n 1, 1) := by decide +kernel
theorem dX1_put_52 : decode cX1_put 52 = .ok (.aload_n 0, 1) := by decide +kernel
theorem dX1_put_53 : decode cX1_put 53 = .ok (.getfield 9, 3) := by decide +kernel
theorem dX1_put_56 : decode cX1_put 56 = .ok (.if_icmp .ne 13, 3) := by decide +kernel
theorem dX1_put_59 : decode cX1_put 59 = .ok (.aload_n 0, 1) := by decide +kernel
theorem dX1_put_60 : decode cX1_put 60 = .ok (.dup, 1) := by decide +kernel
theorem dX1_put_61 : decode cX1_put 61 = .ok (.getfield 9, 3) := by decide +kernel
theorem dX1_put_64 : decode cX1_put 64 = .ok (.iconst 1, 1) := by decide +kernel
theorem dX1_put_65 : decode cX1_put 65 = .ok (.iadd, 1) := by decide +kernel
theorem dX1_put_66 : decode cX1_put 66 = .ok (.putfield 9, 3) := by decide +kernel
theorem dX1_put_69 : decode cX1_put 69 = .ok (.return_, 1) := by decide +kernel
theorem dX1_take_0 : decode cX1_take 0 = .ok (.iload_n 1, 1) := by decide +kernel
theorem dX1_take_1 : decode cX1_take 1 = .ok (.iconst 3, 1) := by decide +kernel
theorem dX1_take_2 : decode cX1_take 2 = .ok (.imul, 1) := by decide +kernel
theorem dX1_take_3 : decode cX1_take 3 = .ok (.istore_n 2, 1) := by decide +kernel
theorem dX1_take_4 : decode cX1_take 4 = .ok (.iload_n 2, 1) := by decide +kernel
theorem dX1_take_5 : decode cX1_take 5 = .ok (.aload_n 0, 1) := by decide +kernel
theorem dX1_take_6 : decode cX1_take 6 = .ok (.getfield 9, 3) := by decide +kernel
theorem dX1_take_9 : decode cX1_take 9 = .ok (.iconst 1, 1) := by decide +kernel
theorem dX1_take_10 : decode cX1_take 10 = .ok (.isub, 1) := by decide +kernel
theorem dX1_take_11 : decode cX1_take 11 = .ok (.iconst 3, 1) := by decide +kernel
theorem dX1_take_12 : decode cX1_take 12 = .ok (.imul, 1) := by decide +kernel
theorem dX1_take_13 : decode cX1_take 13 = .ok (.if_icmp .ge 23, 3) := by decide +kernel
theorem dX1_take_16 : decode cX1_take 16 = .ok (.aload_n 0, 1) := by decide +kernel
theorem dX1_take_17 : decode cX1_take 17 = .ok (.getfield 24, 3) := by decide +kernel
theorem dX1_take_20 : decode cX1_take 20 = .ok (.iload_n 2, 1) := by decide +kernel
theorem dX1_take_21 : decode cX1_take 21 = .ok (.aload_n 0, 1) := by decide +kernel
theorem dX1_take_22 : decode cX1_take 22 = .ok (.getfield 24, 3) := by decide +kernel
theorem dX1_take_25 : decode cX1_take 25 = .ok (.iload_n 2, 1) := by decide +kernel
theorem dX1_take_26 : decode cX1_take 26 = .ok (.iconst 3, 1) := by decide +kernel
theorem dX1_take_27 : decode cX1_take 27 = .ok (.iadd, 1) := by decide +kernel
theorem dX1_take_28 : decode cX1_take 28 = .ok (.iaload, 1) := by decide +kernel
theorem dX1_take_29 : decode cX1_take 29 = .ok (.iastore, 1) := by decide +kernel
theorem dX1_take_30 : decode cX1_take 30 = .ok (.iinc 2 1, 3) := by decide +kernel
theorem dX1_take_33 : decode cX1_take 33 = .ok (.goto (-29), 3) := by decide +kernel
theorem dX1_take_36 : decode cX1_take 36 = .ok (.aload_n 0, 1) := by decide +kernel
theorem dX1_take_37 : decode cX1_take 37 = .ok (.dup, 1) := by decide +kernel
theorem dX1_take_38 : decode cX1_take 38 = .ok (.getfield 9, 3) := by decide +kernel
theorem dX1_take_41 : decode cX1_take 41 = .ok (.iconst 1, 1) := by decide +kernel
theorem dX1_take_42 : decode cX1_take 42 = .ok (.isub, 1) := by decide +kernel
theorem dX1_take_43 : decode cX1_take 43 = .ok (.putfield 9, 3) := by decide +kernel
theorem dX1_take_46 : decode cX1_take 46 = .ok (.return_, 1) := by decide +kernel
theorem dX1_lowestOf_0 : decode cX1_lowestOf 0 = .ok (.iconst 0, 1) := by decide +kernel
theorem dX1_lowestOf_1 : decode cX1_lowestOf 1 = .ok (.istore_n 3, 1) := by decide +kernel
theorem dX1_lowestOf_2 : decode cX1_lowestOf 2 = .ok (.iload_n 3, 1) := by decide +kernel
theorem dX1_lowestOf_3 : decode cX1_lowestOf 3 = .ok (.iconst 3, 1) := by decide +kernel
theorem dX1_lowestOf_4 : decode cX1_lowestOf 4 = .ok (.if_icmp .ge 25, 3) := by decide +kernel
theorem dX1_lowestOf_7 : decode cX1_lowestOf 7 = .ok (.iload_n 2, 1) := by decide +kernel
theorem dX1_lowestOf_8 : decode cX1_lowestOf 8 = .ok (.iload_n 3, 1) := by decide +kernel
theorem dX1_lowestOf_9 : decode cX1_lowestOf 9 = .ok (.ishr, 1) := by decide +kernel
theorem dX1_lowestOf_10 : decode cX1_lowestOf 10 = .ok (.iconst 1, 1) := by decide +kernel
theorem dX1_lowestOf_11 : decode cX1_lowestOf 11 = .ok (.iand, 1) := by decide +kernel
theorem dX1_lowestOf_12 : decode cX1_lowestOf 12 = .ok (.iconst 1, 1) := by decide +kernel
theorem dX1_lowestOf_13 : decode cX1_lowestOf 13 = .ok (.if_icmp .ne 10, 3) := by decide +kernel
theorem dX1_lowestOf_16 : decode cX1_lowestOf 16 = .ok (.aload_n 0, 1) := by decide +kernel
theorem dX1_lowestOf_17 : decode cX1_lowestOf 17 = .ok (.iload_n 1, 1) := by decide +kernel
theorem dX1_lowestOf_18 : decode cX1_lowestOf 18 = .ok (.iload_n 3, 1) := by decide +kernel
theorem dX1_lowestOf_19 : decode cX1_lowestOf 19 = .ok (.invokevirtual 28, 3) := by decide +kernel
theorem dX1_lowestOf_22 : decode cX1_lowestOf 22 = .ok (.ireturn, 1) := by decide +kernel
theorem dX1_lowestOf_23 : decode cX1_lowestOf 23 = .ok (.iinc 3 1, 3) := by decide +kernel
theorem dX1_lowestOf_26 : decode cX1_lowestOf 26 = .ok (.goto (-24), 3) := by decide +kernel
theorem dX1_lowestOf_29 : decode cX1_lowestOf 29 = .ok (.iconst (-1), 1) := by decide +kernel
theorem dX1_lowestOf_30 : decode cX1_lowestOf 30 = .ok (.ireturn, 1) := by decide +kernel
theorem dX1_highestOf_0 : decode cX1_highestOf 0 = .ok (.iconst 2, 1) := by decide +kernel
theorem dX1_highestOf_1 : decode cX1_highestOf 1 = .ok (.istore_n 3, 1) := by decide +kernel
theorem dX1_highestOf_2 : decode cX1_highestOf 2 = .ok (.iload_n 3, 1) := by decide +kernel
theorem dX1_highestOf_3 : decode cX1_highestOf 3 = .ok (.ifCond .lt 25, 3) := by decide +kernel
theorem dX1_highestOf_6 : decode cX1_highestOf 6 = .ok (.iload_n 2, 1) := by decide +kernel
theorem dX1_highestOf_7 : decode cX1_highestOf 7 = .ok (.iload_n 3, 1) := by decide +kernel
theorem dX1_highestOf_8 : decode cX1_highestOf 8 = .ok (.ishr, 1) := by decide +kernel
theorem dX1_highestOf_9 : decode cX1_highestOf 9 = .ok (.iconst 1, 1) := by decide +kernel
theorem dX1_highestOf_10 : decode cX1_highestOf 10 = .ok (.iand, 1) := by decide +kernel
theorem dX1_highestOf_11 : decode cX1_highestOf 11 = .ok (.iconst 1, 1) := by decide +kernel
theorem dX1_highestOf_12 : decode cX1_highestOf 12 = .ok (.if_icmp .ne 10, 3) := by decide +kernel
theorem dX1_highestOf_15 : decode cX1_highestOf 15 = .ok (.aload_n 0, 1) := by decide +kernel
theorem dX1_highestOf_16 : decode cX1_highestOf 16 = .ok (.iload_n 1, 1) := by decide +kernel
theorem dX1_highestOf_17 : decode cX1_highestOf 17 = .ok (.iload_n 3, 1) := by decide +kernel
theorem dX1_highestOf_18 : decode cX1_highestOf 18 = .ok (.invokevirtual 28, 3) := by decide +kernel
theorem dX1_highestOf_21 : decode cX1_highestOf 21 = .ok (.ireturn, 1) := by decide +kernel
theorem dX1_highestOf_22 : decode cX1_highestOf 22 = .ok (.iinc 3 (-1), 3) := by decide +kernel
theorem dX1_highestOf_25 : decode cX1_highestOf 25 = .ok (.goto (-23), 3) := by decide +kernel
theorem dX1_highestOf_28 : decode cX1_highestOf 28 = .ok (.iconst (-1), 1) := by decide +kernel
theorem dX1_highestOf_29 : decode cX1_highestOf 29 = .ok (.ireturn, 1) := by decide +kernel
theorem dX1_become_0 : decode cX1_become 0 = .ok (.aload_n 0, 1) := by decide +kernel
theorem dX1_become_1 : decode cX1_become 1 = .ok (.aload_n 1, 1) := by decide +kernel
theorem dX1_become_2 : decode cX1_become 2 = .ok (.getfield 9, 3) := by decide +kernel
theorem dX1_become_5 : decode cX1_become 5 = .ok (.putfield 9, 3) := by decide +kernel
theorem dX1_become_8 : decode cX1_become 8 = .ok (.aload_n 0, 1) := by decide +kernel
theorem dX1_become_9 : decode cX1_become 9 = .ok (.aload_n 1, 1) := by decide +kernel
theorem dX1_become_10 : decode cX1_become 10 = .ok (.getfield 15, 3) := by decide +kernel
theorem dX1_become_13 : decode cX1_become 13 = .ok (.putfield 15, 3) := by decide +kernel
theorem dX1_become_16 : decode cX1_become 16 = .ok (.aload_n 0, 1) := by decide +kernel
theorem dX1_become_17 : decode cX1_become 17 = .ok (.aload_n 1, 1) := by decide +kernel
theorem dX1_become_18 : decode cX1_become 18 = .ok (.getfield 18, 3) := by decide +kernel
theorem dX1_become_21 : decode cX1_become 21 = .ok (.putfield 18, 3) := by decide +kernel
theorem dX1_become_24 : decode cX1_become 24 = .ok (.aload_n 0, 1) := by decide +kernel
theorem dX1_become_25 : decode cX1_become 25 = .ok (.aload_n 1, 1) := by decide +kernel
theorem dX1_become_26 : decode cX1_become 26 = .ok (.getfield 21, 3) := by decide +kernel
theorem dX1_become_29 : decode cX1_become 29 = .ok (.putfield 21, 3) := by decide +kernel
theorem dX1_become_32 : decode cX1_become 32 = .ok (.iconst 0, 1) := by decide +kernel
theorem dX1_become_33 : decode cX1_become 33 = .ok (.istore_n 2, 1) := by decide +kernel
theorem dX1_become_34 : decode cX1_become 34 = .ok (.iload_n 2, 1) := by decide +kernel
theorem dX1_become_35 : decode cX1_become 35 = .ok (.aload_n 0, 1) := by decide +kernel
theorem dX1_become_36 : decode cX1_become 36 = .ok (.getfield 9, 3) := by decide +kernel
theorem dX1_become_39 : decode cX1_become 39 = .ok (.iconst 3, 1) := by decide +kernel
theorem dX1_become_40 : decode cX1_become 40 = .ok (.imul, 1) := by decide +kernel
theorem dX1_become_41 : decode cX1_become 41 = .ok (.if_icmp .ge 21, 3) := by decide +kernel
theorem dX1_become_44 : decode cX1_become 44 = .ok (.aload_n 0, 1) := by decide +kernel
theorem dX1_become_45 : decode cX1_become 45 = .ok (.getfield 24, 3) := by decide +kernel
theorem dX1_become_48 : decode cX1_become 48 = .ok (.iload_n 2, 1) := by decide +kernel
theorem dX1_become_49 : decode cX1_become 49 = .ok (.aload_n 1, 1) := by decide +kernel
theorem dX1_become_50 : decode cX1_become 50 = .ok (.getfield 24, 3) := by decide +kernel
theorem dX1_become_53 : decode cX1_become 53 = .ok (.iload_n 2, 1) := by decide +kernel
theorem dX1_become_54 : decode cX1_become 54 = .ok (.iaload, 1) := by decide +kernel
theorem dX1_become_55 : decode cX1_become 55 = .ok (.iastore, 1) := by decide +kernel
theorem dX1_become_56 : decode cX1_become 56 = .ok (.iinc 2 1, 3) := by decide +kernel
theorem dX1_become_59 : decode cX1_become 59 = .ok (.goto (-25), 3) := by decide +kernel
theorem dX1_become_62 : decode cX1_become 62 = .ok (.return_, 1) := by decide +kernel
theorem dX2_init_0 : decode cX2_init 0 = .ok (.aload_n 0, 1) := by decide +kernel
theorem dX2_init_1 : decode cX2_init 1 = .ok (.invokespecial 3, 3) := by decide +kernel
theorem dX2_init_4 : decode cX2_init 4 = .ok (.aload_n 0, 1) := by decide +kernel
theorem dX2_init_5 : decode cX2_init 5 = .ok (.new 9, 3) := by decide +kernel
theorem dX2_init_8 : decode cX2_init 8 = .ok (.dup, 1) := by decide +kernel
theorem dX2_init_9 : decode cX2_init 9 = .ok (.invokespecial 11, 3) := by decide +kernel
theorem dX2_init_12 : decode cX2_init 12 = .ok (.putfield 12, 3) := by decide +kernel
theorem dX2_init_15 : decode cX2_init 15 = .ok (.aload_n 0, 1) := by decide +kernel
theorem dX2_init_16 : decode cX2_init 16 = .ok (.new 18, 3) := by decide +kernel
theorem dX2_init_19 : decode cX2_init 19 = .ok (.dup, 1) := by decide +kernel
theorem dX2_init_20 : decode cX2_init 20 = .ok (.invokespecial 20, 3) := by decide +kernel
theorem dX2_init_23 : decode cX2_init 23 = .ok (.putfield 21, 3) := by decide +kernel
theorem dX2_init_26 : decode cX2_init 26 = .ok (.aload_n 0, 1) := by decide +kernel
theorem dX2_init_27 : decode cX2_init 27 = .ok (.iconst 0, 1) := by decide +kernel
theorem dX2_init_28 : decode cX2_init 28 = .ok (.putfield 25, 3) := by decide +kernel
theorem dX2_init_31 : decode cX2_init 31 = .ok (.aload_n 0, 1) := by decide +kernel
theorem dX2_init_32 : decode cX2_init 32 = .ok (.sipush 150, 3) := by decide +kernel
theorem dX2_init_35 : decode cX2_init 35 = .ok (.newarray .int, 2) := by decide +kernel
theorem dX2_init_37 : decode cX2_init 37 = .ok (.putfield 29, 3) := by decide +kernel
theorem dX2_init_40 : decode cX2_init 40 = .ok (.aload_n 0, 1) := by decide +kernel
theorem dX2_init_41 : decode cX2_init 41 = .ok (.iconst 3, 1) := by decide +kernel
theorem dX2_init_42 : decode cX2_init 42 = .ok (.newarray .int, 2) := by decide +kernel
theorem dX2_init_44 : decode cX2_init 44 = .ok (.putfield 33, 3) := by decide +kernel
theorem dX2_init_47 : decode cX2_init 47 = .ok (.aload_n 0, 1) := by decide +kernel
theorem dX2_init_48 : decode cX2_init 48 = .ok (.iconst 0, 1) := by decide +kernel
theorem dX2_init_49 : decode cX2_init 49 = .ok (.putfield 36, 3) := by decide +kernel
theorem dX2_init_52 : decode cX2_init 52 = .ok (.aload_n 0, 1) := by decide +kernel
theorem dX2_init_53 : decode cX2_init 53 = .ok (.iconst 0, 1) := by decide +kernel
theorem dX2_init_54 : decode cX2_init 54 = .ok (.putfield 39, 3) := by decide +kernel
theorem dX2_init_57 : decode cX2_init 57 = .ok (.aload_n 0, 1) := by decide +kernel
theorem dX2_init_58 : decode cX2_init 58 = .ok (.iconst (-1), 1) := by decide +kernel
theorem dX2_init_59 : decode cX2_init 59 = .ok (.putfield 42, 3) := by decide +kernel
theorem dX2_init_62 : decode cX2_init 62 = .ok (.aload_n 0, 1) := by decide +kernel
theorem dX2_init_63 : decode cX2_init 63 = .ok (.iconst 0, 1) := by decide +kernel
theorem dX2_init_64 : decode cX2_init 64 = .ok (.putfield 45, 3) := by decide +kernel
theorem dX2_init_67 : decode cX2_init 67 = .ok (.aload_n 0, 1) := by decide +kernel
theorem dX2_init_68 : decode cX2_init 68 = .ok (.iconst 0, 1) := by decide +kernel
theorem dX2_init_69 : decode cX2_init 69 = .ok (.putfield 48, 3) := by decide +kernel
theorem dX2_init_72 : decode cX2_init 72 = .ok (.return_, 1) := by decide +kernel
theorem dX2_add_0 : decode cX2_add 0 = .ok (.aload_n 0, 1) := by decide +kernel
theorem dX2_add_1 : decode cX2_add 1 = .ok (.getfield 25, 3) := by decide +kernel
theorem dX2_add_4 : decode cX2_add 4 = .ok (.sipush 150, 3) := by decide +kernel
theorem dX2_add_7 : decode cX2_add 7 = .ok (.if_icmp .ge 23, 3) := by decide +kernel
theorem dX2_add_10 : decode cX2_add 10 = .ok (.aload_n 0, 1) := by decide +kernel
theorem dX2_add_11 : decode cX2_add 11 = .ok (.getfield 29, 3) := by decide +kernel
theorem dX2_add_14 : decode cX2_add 14 = .ok (.aload_n 0, 1) := by decide +kernel
theorem dX2_add_15 : decode cX2_add 15 = .ok (.getfield 25, 3) := by decide +kernel
theorem dX2_add_18 : decode cX2_add 18 = .ok (.iload_n 1, 1) := by decide +kernel
theorem dX2_add_19 : decode cX2_add 19 = .ok (.iastore, 1) := by decide +kernel
theorem dX2_add_20 : decode cX2_add 20 = .ok (.aload_n 0, 1) := by decide +kernel
theorem dX2_add_21 : decode cX2_add 21 = .ok (.dup, 1) := by decide +kernel
theorem dX2_add_22 : decode cX2_add 22 = .ok (.getfield 25, 3) := by decide +kernel
theorem dX2_add_25 : decode cX2_add 25 = .ok (.iconst 1, 1) := by decide +kernel
theorem dX2_add_26 : decode cX2_add 26 = .ok (.iadd, 1) := by decide +kernel
theorem dX2_add_27 : decode cX2_add 27 = .ok (.putfield 25, 3) := by decide +kernel
theorem dX2_add_30 : decode cX2_add 30 = .ok (.return_, 1) := by decide +kernel
theorem dX2_read_0 : decode cX2_read 0 = .ok (.aload_n 0, 1) := by decide +kernel
theorem dX2_read_1 : decode cX2_read 1 = .ok (.iconst 0, 1) := by decide +kernel
theorem dX2_read_2 : decode cX2_read 2 = .ok (.putfield 36, 3) := by decide +kernel
theorem dX2_read_5 : decode cX2_read 5 = .ok (.aload_n 0, 1) := by decide +kernel
theorem dX2_read_6 : decode cX2_read 6 = .ok (.iconst 0, 1) := by decide +kernel
theorem dX2_read_7 : decode cX2_read 7 = .ok (.putfield 48, 3) := by decide +kernel
theorem dX2_read_10 : decode cX2_read 10 = .ok (.aload_n 0, 1) := by decide +kernel
theorem dX2_read_11 : decode cX2_read 11 = .ok (.getfield 12, 3) := by decide +kernel
theorem dX2_read_14 : decode cX2_read 14 = .ok (.invokevirtual 52, 3) := by decide +kernel
theorem dX2_read_17 : decode cX2_read 17 = .ok (.aload_n 0, 1) := by decide +kernel
theorem dX2_read_18 : decode cX2_read 18 = .ok (.getfield 21, 3) := by decide +kernel
theorem dX2_read_21 : decode cX2_read 21 = .ok (.invokevirtual 55, 3) := by decide +kernel
theorem dX2_read_24 : decode cX2_read 24 = .ok (.iconst 0, 1) := by decide +kernel
theorem dX2_read_25 : decode cX2_read 25 = .ok (.istore_n 1, 1) := by decide +kernel
theorem dX2_read_26 : decode cX2_read 26 = .ok (.aload_n 0, 1) := by decide +kernel
theorem dX2_read_27 : decode cX2_read 27 = .ok (.invokevirtual 56, 3) := by decide +kernel
theorem dX2_read_30 : decode cX2_read 30 = .ok (.aload_n 0, 1) := by decide +kernel
theorem dX2_read_31 : decode cX2_read 31 = .ok (.getfield 42, 3) := by decide +kernel
theorem dX2_read_34 : decode cX2_read 34 = .ok (.iconst (-1), 1) := by decide +kernel
theorem dX2_read_35 : decode cX2_read 35 = .ok (.if_icmp .eq 35, 3) := by decide +kernel
theorem dX2_read_38 : decode cX2_read 38 = .ok (.iload_n 1, 1) := by decide +kernel
theorem dX2_read_39 : decode cX2_read 39 = .ok (.sipush 150, 3) := by decide +kernel
theorem dX2_read_42 : decode cX2_read 42 = .ok (.if_icmp .ge 28, 3) := by decide +kernel
theorem dX2_read_45 : decode cX2_read 45 = .ok (.aload_n 0, 1) := by decide +kernel
theorem dX2_read_46 : decode cX2_read 46 = .ok (.invokevirtual 59, 3) := by decide +kernel
theorem dX2_read_49 : decode cX2_read 49 = .ok (.ifCond .ne 11, 3) := by decide +kernel
theorem dX2_read_52 : decode cX2_read 52 = .ok (.bipush (-10), 2) := by decide +kernel
theorem dX2_read_54 : decode cX2_read 54 = .ok (.aload_n 0, 1) := by decide +kernel
theorem dX2_read_55 : decode cX2_read 55 = .ok (.getfield 39, 3) := by decide +kernel
theorem dX2_read_58 : decode cX2_read 58 = .ok (.isub, 1) := by decide +kernel
theorem dX2_read_59 : decode cX2_read 59 = .ok (.ireturn, 1) := by decide +kernel
theorem dX2_read_60 : decode cX2_read 60 = .ok (.iinc 1 1, 3) := by decide +kernel
theorem dX2_read_63 : decode cX2_read 63 = .ok (.aload_n 0, 1) := by decide +kernel
theorem dX2_read_64 : decode cX2_read 64 = .ok (.invokevirtual 56, 3) := by decide +kernel
theorem dX2_read_67 : decode cX2_read 67 = .ok (.goto (-37), 3) := by decide +kernel
theorem dX2_read_70 : decode cX2_read 70 = .ok (.aload_n 0, 1) := by decide +kernel
theorem dX2_read_71 : decode cX2_read 71 = .ok (.getfield 21, 3) := by decide +kernel
theorem dX2_read_74 : decode cX2_read 74 = .ok (.iconst 1, 1) := by decide +kernel
theorem dX2_read_75 : decode cX2_read 75 = .ok (.aload_n 0, 1) := by decide +kernel
theorem dX2_read_76 : decode cX2_read 76 = .ok (.getfield 12, 3) := by decide +kernel
theorem dX2_read_79 : decode cX2_read 79 = .ok (.getfield 63, 3) := by decide +kernel
theorem dX2_read_82 : decode cX2_read 82 = .ok (.ishl, 1) := by decide +kernel
theorem dX2_read_83 : decode cX2_read 83 = .ok (.iconst 1, 1) := by decide +kernel
theorem dX2_read_84 : decode cX2_read 84 = .ok (.isub, 1) := by decide +kernel
theorem dX2_read_85 : decode cX2_read 85 = .ok (.putfield 66, 3) := by decide +kernel
theorem dX2_read_88 : decode cX2_read 88 = .ok (.iload_n 1, 1) := by decide +kernel
theorem dX2_read_89 : decode cX2_read 89 = .ok (.ireturn, 1) := by decide +kernel
theorem dX2_readItem_0 : decode cX2_readItem 0 = .ok (.aload_n 0, 1) := by decide +kernel
theorem dX2_readItem_1 : decode cX2_readItem 1 = .ok (.getfield 42, 3) := by decide +kernel
theorem dX2_readItem_4 : decode cX2_readItem 4 = .ok (.lookupswitch 80 #[(98, 58), (103, 64), (110, 70), (113, 75), (114, 52)], 52) := by decide +kernel
theorem dX2_readItem_56 : decode cX2_readItem 56 = .ok (.aload_n 0, 1) := by decide +kernel
theorem dX2_readItem_57 : decode cX2_readItem 57 = .ok (.iconst 0, 1) := by decide +kernel
theorem dX2_readItem_58 : decode cX2_readItem 58 = .ok (.invokevirtual 69, 3) := by decide +kernel
theorem dX2_readItem_61 : decode cX2_readItem 61 = .ok (.ireturn, 1) := by decide +kernel
theorem dX2_readItem_62 : decode cX2_readItem 62 = .ok (.aload_n 0, 1) := by decide +kernel
theorem dX2_readItem_63 : decode cX2_readItem 63 = .ok (.iconst 1, 1) := by decide +kernel
theorem dX2_readItem_64 : decode cX2_readItem 64 = .ok (.invokevirtual 69, 3) := by decide +kernel
theorem dX2_readItem_67 : decode cX2_readItem 67 = .ok (.ireturn, 1) := by decide +kernel
theorem dX2_readItem_68 : decode cX2_readItem 68 = .ok (.aload_n 0, 1) := by decide +kernel
theorem dX2_readItem_69 : decode cX2_readItem 69 = .ok (.iconst 2, 1) := by decide +kernel
theorem dX2_readItem_70 : decode cX2_readItem 70 = .ok (.invokevirtual 69, 3) := by decide +kernel
theorem dX2_readItem_73 : decode cX2_readItem 73 = .ok (.ireturn, 1) := by decide +kernel
theorem dX2_readItem_74 : decode cX2_readItem 74 = .ok (.aload_n 0, 1) := by decide +kernel
theorem dX2_readItem_75 : decode cX2_readItem 75 = .ok (.invokevirtual 73, 3) := by decide +kernel
theorem dX2_readItem_78 : decode cX2_readItem 78 = .ok (.ireturn, 1) := by decide +kernel
theorem dX2_readItem_79 : decode cX2_readItem 79 = .ok (.aload_n 0, 1) := by decide +kernel
theorem dX2_readItem_80 : decode cX2_readItem 80 = .ok (.invokevirtual 76, 3) := by decide +kernel
theorem dX2_readItem_83 : decode cX2_readItem 83 = .ok (.ireturn, 1) := by decide +kernel
theorem dX2_readItem_84 : decode cX2_readItem 84 = .ok (.iconst 0, 1) := by decide +kernel
theorem dX2_readItem_85 : decode cX2_readItem 85 = .ok (.ireturn, 1) := by decide +kernel
theorem dX2_readPlayer_0 : decode cX2_readPlayer 0 = .ok (.aload_n 0, 1) := by decide +kernel
theorem dX2_readPlayer_1 : decode cX2_readPlayer 1 = .ok (.getfield 12, 3) := by decide +kernel
theorem dX2_readPlayer_4 : decode cX2_readPlayer 4 = .ok (.iload_n 1, 1) := by decide +kernel
theorem dX2_readPlayer_5 : decode cX2_readPlayer 5 = .ok (.invokevirtual 79, 3) := by decide +kernel
theorem dX2_readPlayer_8 : decode cX2_readPlayer 8 = .ok (.ifCond .eq 13, 3) := by decide +kernel
theorem dX2_readPlayer_11 : decode cX2_readPlayer 11 = .ok (.aload_n 0, 1) := by decide +kernel
theorem dX2_readPlayer_12 : decode cX2_readPlayer 12 = .ok (.iconst 0, 1) := by decide +kernel
theorem dX2_readPlayer_13 : decode cX2_readPlayer 13 = .ok (.bipush 60, 2) := by decide +kernel
theorem dX2_readPlayer_15 : decode cX2_readPlayer 15 = .ok (.invokevirtual 82, 3) := by decide +kernel
theorem dX2_readPlayer_18 : decode cX2_readPlayer 18 = .ok (.ifCond .ne 5, 3) := by decide +kernel
theorem dX2_readPlayer_21 : decode cX2_readPlayer 21 = .ok (.iconst 0, 1) := by decide +kernel
theorem dX2_readPlayer_22 : decode cX2_readPlayer 22 = .ok (.ireturn, 1) := by decide +kernel
theorem dX2_readPlayer_23 : decode cX2_readPlayer 23 = .ok (.aload_n 0, 1) := by decide +kernel
theorem dX2_readPlayer_24 : decode cX2_readPlayer 24 = .ok (.getfield 45, 3) := by decide +kernel
theorem dX2_readPlayer_27 : decode cX2_readPlayer 27 = .ok (.istore_n 2, 1) := by decide +kernel
theorem dX2_readPlayer_28 : decode cX2_readPlayer 28 = .ok (.aload_n 0, 1) := by decide +kernel
theorem dX2_readPlayer_29 : decode cX2_readPlayer 29 = .ok (.iload_n 2, 1) := by decide +kernel
theorem dX2_readPlayer_30 : decode cX2_readPlayer 30 = .ok (.bipush 60, 2) := by decide +kernel
theorem dX2_readPlayer_32 : decode cX2_readPlayer 32 = .ok (.invokevirtual 82, 3) := by decide +kernel
theorem dX2_readPlayer_35 : decode cX2_readPlayer 35 = .ok (.ifCond .ne 5, 3) := by decide +kernel
theorem dX2_readPlayer_38 : decode cX2_readPlayer 38 = .ok (.iconst 0, 1) := by decide +kernel
theorem dX2_readPlayer_39 : decode cX2_readPlayer 39 = .ok (.ireturn, 1) := by decide +kernel
theorem dX2_readPlayer_40 : decode cX2_readPlayer 40 = .ok (.aload_n 0, 1) := by decide +kernel
theorem dX2_readPlayer_41 : decode cX2_readPlayer 41 = .ok (.getfield 45, 3) := by decide +kernel
theorem dX2_readPlayer_44 : decode cX2_readPlayer 44 = .ok (.istore_n 3, 1) := by decide +kernel
theorem dX2_readPlayer_45 : decode cX2_readPlayer 45 = .ok (.aload_n 0, 1) := by decide +kernel
theorem dX2_readPlayer_46 : decode cX2_readPlayer 46 = .ok (.iconst 2, 1) := by decide +kernel
theorem dX2_readPlayer_47 : decode cX2_readPlayer 47 = .ok (.bipush 9, 2) := by decide +kernel
theorem dX2_readPlayer_49 : decode cX2_readPlayer 49 = .ok (.invokevirtual 82, 3) := by decide +kernel
theorem dX2_readPlayer_52 : decode cX2_readPlayer 52 = .ok (.ifCond .ne 5, 3) := by decide +kernel
theorem dX2_readPlayer_55 : decode cX2_readPlayer 55 = .ok (.iconst 0, 1) := by decide +kernel
theorem dX2_readPlayer_56 : decode cX2_readPlayer 56 = .ok (.ireturn, 1) := by decide +kernel
theorem dX2_readPlayer_57 : decode cX2_readPlayer 57 = .ok (.aload_n 0, 1) := by decide +kernel
theorem dX2_readPlayer_58 : decode cX2_readPlayer 58 = .ok (.getfield 45, 3) := by decide +kernel
theorem dX2_readPlayer_61 : decode cX2_readPlayer 61 = .ok (.istore 4, 2) := by decide +kernel
theorem dX2_readPlayer_63 : decode cX2_readPlayer 63 = .ok (.iconst 0, 1) := by decide +kernel
theorem dX2_readPlayer_64 : decode cX2_readPlayer 64 = .ok (.istore 5, 2) := by decide +kernel
theorem dX2_readPlayer_66 : decode cX2_readPlayer 66 = .ok (.iload_n 1, 1) := by decide +kernel
theorem dX2_readPlayer_67 : decode cX2_readPlayer 67 = .ok (.iconst 1, 1) := by decide +kernel
theorem dX2_readPlayer_68 : decode cX2_readPlayer 68 = .ok (.if_icmp .ne 21, 3) := by decide +kernel
theorem dX2_readPlayer_71 : decode cX2_readPlayer 71 = .ok (.aload_n 0, 1) := by decide +kernel
theorem dX2_readPlayer_72 : decode cX2_readPlayer 72 = .ok (.iconst 0, 1) := by decide +kernel
theorem dX2_readPlayer_73 : decode cX2_readPlayer 73 = .ok (.bipush 12, 2) := by decide +kernel
theorem dX2_readPlayer_75 : decode cX2_readPlayer 75 = .ok (.invokevirtual 82, 3) := by decide +kernel
theorem dX2_readPlayer_78 : decode cX2_readPlayer 78 = .ok (.ifCond .ne 5, 3) := by decide +kernel
theorem dX2_readPlayer_81 : decode cX2_readPlayer 81 = .ok (.iconst 0, 1) := by decide +kernel
theorem dX2_readPlayer_82 : decode cX2_readPlayer 82 = .ok (.ireturn, 1) := by decide +kernel
theorem dX2_readPlayer_83 : decode cX2_readPlayer 83 = .ok (.aload_n 0, 1) := by decide +kernel
theorem dX2_readPlayer_84 : decode cX2_readPlayer 84 = .ok (.getfield 45, 3) := by decide +kernel
theorem dX2_readPlayer_87 : decode cX2_readPlayer 87 = .ok (.istore 5, 2) := by decide +kernel
theorem dX2_readPlayer_89 : decode cX2_readPlayer 89 = .ok (.aload_n 0, 1) := by decide +kernel
theorem dX2_readPlayer_90 : decode cX2_readPlayer 90 = .ok (.getfield 12, 3) := by decide +kernel
theorem dX2_readPlayer_93 : decode cX2_readPlayer 93 = .ok (.iload_n 1, 1) := by decide +kernel
theorem dX2_readPlayer_94 : decode cX2_readPlayer 94 = .ok (.iload_n 2, 1) := by decide +kernel
theorem dX2_readPlayer_95 : decode cX2_readPlayer 95 = .ok (.iload_n 3, 1) := by decide +kernel
theorem dX2_readPlayer_96 : decode cX2_readPlayer 96 = .ok (.iload 4, 2) := by decide +kernel
theorem dX2_readPlayer_98 : decode cX2_readPlayer 98 = .ok (.iload 5, 2) := by decide +kernel
theorem dX2_readPlayer_100 : decode cX2_readPlayer 100 = .ok (.invokevirtual 86, 3) := by decide +kernel
theorem dX2_readPlayer_103 : decode cX2_readPlayer 103 = .ok (.aload_n 0, 1) := by decide +kernel
theorem dX2_readPlayer_104 : decode cX2_readPlayer 104 = .ok (.invokevirtual 90, 3) := by decide +kernel
theorem dX2_readPlayer_107 : decode cX2_readPlayer 107 = .ok (.ireturn, 1) := by decide +kernel
theorem dX2_readChord_0 : decode cX2_readChord 0 = .ok (.aload_n 0, 1) := by decide +kernel
theorem dX2_readChord_1 : decode cX2_readChord 1 = .ok (.getfield 21, 3) := by decide +kernel
theorem dX2_readChord_4 : decode cX2_readChord 4 = .ok (.getfield 93, 3) := by decide +kernel
theorem dX2_readChord_7 : decode cX2_readChord 7 = .ok (.bipush 8, 2) := by decide +kernel
theorem dX2_readChord_9 : decode cX2_readChord 9 = .ok (.if_icmp .ge 13, 3) := by decide +kernel
theorem dX2_readChord_12 : decode cX2_readChord 12 = .ok (.aload_n 0, 1) := by decide +kernel
theorem dX2_readChord_13 : decode cX2_readChord 13 = .ok (.iconst 0, 1) := by decide +kernel
theorem dX2_readChord_14 : decode cX2_readChord 14 = .ok (.bipush 60, 2) := by decide +kernel
theorem dX2_readChord_16 : decode cX2_readChord 16 = .ok (.invokevirtual 82, 3) := by decide +kernel
theorem dX2_readChord_19 : decode cX2_readChord 19 = .ok (.ifCond .ne 5, 3) := by decide +kernel
theorem dX2_readChord_22 : decode cX2_readChord 22 = .ok (.iconst 0, 1) := by decide +kernel
theorem dX2_readChord_23 : decode cX2_readChord 23 = .ok (.ireturn, 1) := by decide +kernel
theorem dX2_readChord_24 : decode cX2_readChord 24 = .ok (.aload_n 0, 1) := by decide +kernel
theorem dX2_readChord_25 : decode cX2_readChord 25 = .ok (.getfield 33, 3) := by decide +kernel
theorem dX2_readChord_28 : decode cX2_readChord 28 = .ok (.iconst 0, 1) := by decide +kernel
theorem dX2_readChord_29 : decode cX2_readChord 29 = .ok (.aload_n 0, 1) := by decide +kernel
theorem dX2_readChord_30 : decode cX2_readChord 30 = .ok (.getfield 45, 3) := by decide +kernel
theorem dX2_readChord_33 : decode cX2_readChord 33 = .ok (.iastore, 1) := by decide +kernel
theorem dX2_readChord_34 : decode cX2_readChord 34 = .ok (.aload_n 0, 1) := by decide +kernel
theorem dX2_readChord_35 : decode cX2_readChord 35 = .ok (.getfield 33, 3) := by decide +kernel
theorem dX2_readChord_38 : decode cX2_readChord 38 = .ok (.iconst 1, 1) := by decide +kernel
theorem dX2_readChord_39 : decode cX2_readChord 39 = .ok (.iconst (-1), 1) := by decide +kernel
theorem dX2_readChord_40 : decode cX2_readChord 40 = .ok (.iastore, 1) := by decide +kernel
theorem dX2_readChord_41 : decode cX2_readChord 41 = .ok (.aload_n 0, 1) := by decide +kernel
theorem dX2_readChord_42 : decode cX2_readChord 42 = .ok (.getfield 33, 3) := by decide +kernel
theorem dX2_readChord_45 : decode cX2_readChord 45 = .ok (.iconst 2, 1) := by decide +kernel
theorem dX2_readChord_46 : decode cX2_readChord 46 = .ok (.iconst (-1), 1) := by decide +kernel
theorem dX2_readChord_47 : decode cX2_readChord 47 = .ok (.iastore, 1) := by decide +kernel
theorem dX2_readChord_48 : decode cX2_readChord 48 = .ok (.iconst 1, 1) := by decide +kernel
theorem dX2_readChord_49 : decode cX2_readChord 49 = .ok (.istore_n 1, 1) := by decide +kernel
theorem dX2_readChord_50 : decode cX2_readChord 50 = .ok (.iload_n 1, 1) := by decide +kernel
theorem dX2_readChord_51 : decode cX2_readChord 51 = .ok (.iconst 3, 1) := by decide +kernel
theorem dX2_readChord_52 : decode cX2_readChord 52 = .ok (.if_icmp .gt 92, 3) := by decide +kernel
theorem dX2_readChord_55 : decode cX2_readChord 55 = .ok (.aload_n 0, 1) := by decide +kernel
theorem dX2_readChord_56 : decode cX2_readChord 56 = .ok (.invokevirtual 56, 3) := by decide +kernel
theorem dX2_readChord_59 : decode cX2_readChord 59 = .ok (.aload_n 0, 1) := by decide +kernel
theorem dX2_readChord_60 : decode cX2_readChord 60 = .ok (.getfield 42, 3) := by decide +kernel
theorem dX2_readChord_63 : decode cX2_readChord 63 = .ok (.bipush 59, 2) := by decide +kernel
theorem dX2_readChord_65 : decode cX2_readChord 65 = .ok (.if_icmp .ne 37, 3) := by decide +kernel
theorem dX2_readChord_68 : decode cX2_readChord 68 = .ok (.aload_n 0, 1) := by decide +kernel
theorem dX2_readChord_69 : decode cX2_readChord 69 = .ok (.getfield 21, 3) := by decide +kernel
theorem dX2_readChord_72 : decode cX2_readChord 72 = .ok (.aload_n 0, 1) := by decide +kernel
theorem dX2_readChord_73 : decode cX2_readChord 73 = .ok (.getfield 21, 3) := by decide +kernel
theorem dX2_readChord_76 : decode cX2_readChord 76 = .ok (.getfield 93, 3) := by decide +kernel
theorem dX2_readChord_79 : decode cX2_readChord 79 = .ok (.aload_n 0, 1) := by decide +kernel
theorem dX2_readChord_80 : decode cX2_readChord 80 = .ok (.getfield 33, 3) := by decide +kernel
theorem dX2_readChord_83 : decode cX2_readChord 83 = .ok (.iconst 0, 1) := by decide +kernel
theorem dX2_readChord_84 : decode cX2_readChord 84 = .ok (.iaload, 1) := by decide +kernel
theorem dX2_readChord_85 : decode cX2_readChord 85 = .ok (.aload_n 0, 1) := by decide +kernel
theorem dX2_readChord_86 : decode cX2_readChord 86 = .ok (.getfield 33, 3) := by decide +kernel
theorem dX2_readChord_89 : decode cX2_readChord 89 = .ok (.iconst 1, 1) := by decide +kernel
theorem dX2_readChord_90 : decode cX2_readChord 90 = .ok (.iaload, 1) := by decide +kernel
theorem dX2_readChord_91 : decode cX2_readChord 91 = .ok (.aload_n 0, 1) := by decide +kernel
theorem dX2_readChord_92 : decode cX2_readChord 92 = .ok (.getfield 33, 3) := by decide +kernel
theorem dX2_readChord_95 : decode cX2_readChord 95 = .ok (.iconst 2, 1) := by decide +kernel
theorem dX2_readChord_96 : decode cX2_readChord 96 = .ok (.iaload, 1) := by decide +kernel
theorem dX2_readChord_97 : decode cX2_readChord 97 = .ok (.invokevirtual 94, 3) := by decide +kernel
theorem dX2_readChord_100 : decode cX2_readChord 100 = .ok (.iconst 1, 1) := by decide +kernel
theorem dX2_readChord_101 : decode cX2_readChord 101 = .ok (.ireturn, 1) := by decide +kernel
theorem dX2_readChord_102 : decode cX2_readChord 102 = .ok (.iload_n 1, 1) := by decide +kernel
theorem dX2_readChord_103 : decode cX2_readChord 103 = .ok (.iconst 3, 1) := by decide +kernel
theorem dX2_readChord_104 : decode cX2_readChord 104 = .ok (.if_icmp .eq 22, 3) := by decide +kernel
theorem dX2_readChord_107 : decode cX2_readChord 107 = .ok (.aload_n 0, 1) := by decide +kernel
theorem dX2_readChord_108 : decode cX2_readChord 108 = .ok (.aload_n 0, 1) := by decide +kernel
theorem dX2_readChord_109 : decode cX2_readChord 109 = .ok (.getfield 33, 3) := by decide +kernel
theorem dX2_readChord_112 : decode cX2_readChord 112 = .ok (.iload_n 1, 1) := by decide +kernel
theorem dX2_readChord_113 : decode cX2_readChord 113 = .ok (.iconst 1, 1) := by decide +kernel
theorem dX2_readChord_114 : decode cX2_readChord 114 = .ok (.isub, 1) := by decide +kernel
theorem dX2_readChord_115 : decode cX2_readChord 115 = .ok (.iaload, 1) := by decide +kernel
theorem dX2_readChord_116 : decode cX2_readChord 116 = .ok (.iconst 1, 1) := by decide +kernel
theorem dX2_readChord_117 : decode cX2_readChord 117 = .ok (.iadd, 1) := by decide +kernel
theorem dX2_readChord_118 : decode cX2_readChord 118 = .ok (.bipush 60, 2) := by decide +kernel
theorem dX2_readChord_120 : decode cX2_readChord 120 = .ok (.invokevirtual 98, 3) := by decide +kernel
theorem dX2_readChord_123 : decode cX2_readChord 123 = .ok (.ifCond .ne 5, 3) := by decide +kernel
theorem dX2_readChord_126 : decode cX2_readChord 126 = .ok (.iconst 0, 1) := by decide +kernel
theorem dX2_readChord_127 : decode cX2_readChord 127 = .ok (.ireturn, 1) := by decide +kernel
theorem dX2_readChord_128 : decode cX2_readChord 128 = .ok (.aload_n 0, 1) := by decide +kernel
theorem dX2_readChord_129 : decode cX2_readChord 129 = .ok (.getfield 33, 3) := by decide +kernel
theorem dX2_readChord_132 : decode cX2_readChord 132 = .ok (.iload_n 1, 1) := by decide +kernel
theorem dX2_readChord_133 : decode cX2_readChord 133 = .ok (.aload_n 0, 1) := by decide +kernel
theorem dX2_readChord_134 : decode cX2_readChord 134 = .ok (.getfield 45, 3) := by decide +kernel
theorem dX2_readChord_137 : decode cX2_readChord 137 = .ok (.iastore, 1) := by decide +kernel
theorem dX2_readChord_138 : decode cX2_readChord 138 = .ok (.iinc 1 1, 3) := by decide +kernel
theorem dX2_readChord_141 : decode cX2_readChord 141 = .ok (.goto (-91), 3) := by decide +kernel
theorem dX2_readChord_144 : decode cX2_readChord 144 = .ok (.iconst 0, 1) := by decide +kernel
theorem dX2_readChord_145 : decode cX2_readChord 145 = .ok (.ireturn, 1) := by decide +kernel
theorem dX2_readRules_0 : decode cX2_readRules 0 = .ok (.aload_n 0, 1) := by decide +kernel
theorem dX2_readRules_1 : decode cX2_readRules 1 = .ok (.getfield 48, 3) := by decide +kernel
theorem dX2_readRules_4 : decode cX2_readRules 4 = .ok (.ifCond .ne 13, 3) := by decide +kernel
theorem dX2_readRules_7 : decode cX2_readRules 7 = .ok (.aload_n 0, 1) := by decide +kernel
theorem dX2_readRules_8 : decode cX2_readRules 8 = .ok (.iconst 0, 1) := by decide +kernel
theorem dX2_readRules_9 : decode cX2_readRules 9 = .ok (.bipush 20, 2) := by decide +kernel
theorem dX2_readRules_11 : decode cX2_readRules 11 = .ok (.invokevirtual 82, 3) := by decide +kernel
theorem dX2_readRules_14 : decode cX2_readRules 14 = .ok (.ifCond .ne 5, 3) := by decide +kernel
theorem dX2_readRules_17 : decode cX2_readRules 17 = .ok (.iconst 0, 1) := by decide +kernel
theorem dX2_readRules_18 : decode cX2_readRules 18 = .ok (.ireturn, 1) := by decide +kernel
theorem dX2_readRules_19 : decode cX2_readRules 19 = .ok (.aload_n 0, 1) := by decide +kernel
theorem dX2_readRules_20 : decode cX2_readRules 20 = .ok (.getfield 21, 3) := by decide +kernel
theorem dX2_readRules_23 : decode cX2_readRules 23 = .ok (.aload_n 0, 1) := by decide +kernel
theorem dX2_readRules_24 : decode cX2_readRules 24 = .ok (.getfield 45, 3) := by decide +kernel
theorem dX2_readRules_27 : decode cX2_readRules 27 = .ok (.putfield 101, 3) := by decide +kernel
theorem dX2_readRules_30 : decode cX2_readRules 30 = .ok (.aload_n 0, 1) := by decide +kernel
theorem dX2_readRules_31 : decode cX2_readRules 31 = .ok (.iconst 0, 1) := by decide +kernel
theorem dX2_readRules_32 : decode cX2_readRules 32 = .ok (.bipush 30, 2) := by decide +kernel
theorem dX2_readRules_34 : decode cX2_readRules 34 = .ok (.invokevirtual 82, 3) := by decide +kernel
theorem dX2_readRules_37 : decode cX2_readRules 37 = .ok (.ifCond .ne 5, 3) := by decide +kernel
theorem dX2_readRules_40 : decode cX2_readRules 40 = .ok (.iconst 0, 1) := by decide +kernel
theorem dX2_readRules_41 : decode cX2_readRules 41 = .ok (.ireturn, 1) := by decide +kernel
theorem dX2_readRules_42 : decode cX2_readRules 42 = .ok (.aload_n 0, 1) := by decide +kernel
theorem dX2_readRules_43 : decode cX2_readRules 43 = .ok (.getfield 21, 3) := by decide +kernel
theorem dX2_readRules_46 : decode cX2_readRules 46 = .ok (.aload_n 0, 1) := by decide +kernel
theorem dX2_readRules_47 : decode cX2_readRules 47 = .ok (.getfield 45, 3) := by decide +kernel
theorem dX2_readRules_50 : decode cX2_readRules 50 = .ok (.putfield 104, 3) := by decide +kernel
theorem dX2_readRules_53 : decode cX2_readRules 53 = .ok (.aload_n 0, 1) := by decide +kernel
theorem dX2_readRules_54 : decode cX2_readRules 54 = .ok (.iconst 1, 1) := by decide +kernel
theorem dX2_readRules_55 : decode cX2_readRules 55 = .ok (.putfield 48, 3) := by decide +kernel
theorem dX2_readRules_58 : decode cX2_readRules 58 = .ok (.aload_n 0, 1) := by decide +kernel
theorem dX2_readRules_59 : decode cX2_readRules 59 = .ok (.invokevirtual 90, 3) := by decide +kernel
theorem dX2_readRules_62 : decode cX2_readRules 62 = .ok (.ireturn, 1) := by decide +kernel
theorem dX2_nextIsNumber_0 : decode cX2_nextIsNumber 0 = .ok (.aload_n 0, 1) := by decide +kernel
theorem dX2_nextIsNumber_1 : decode cX2_nextIsNumber 1 = .ok (.invokevirtual 56, 3) := by decide +kernel
theorem dX2_nextIsNumber_4 : decode cX2_nextIsNumber 4 = .ok (.aload_n 0, 1) := by decide +kernel
theorem dX2_nextIsNumber_5 : decode cX2_nextIsNumber 5 = .ok (.iload_n 1, 1) := by decide +kernel
theorem dX2_nextIsNumber_6 : decode cX2_nextIsNumber 6 = .ok (.iload_n 2, 1) := by decide +kernel
theorem dX2_nextIsNumber_7 : decode cX2_nextIsNumber 7 = .ok (.invokevirtual 98, 3) := by decide +kernel
theorem dX2_nextIsNumber_10 : decode cX2_nextIsNumber 10 = .ok (.ireturn, 1) := by decide +kernel
theorem dX2_isNumber_0 : decode cX2_isNumber 0 = .ok (.aload_n 0, 1) := by decide +kernel
theorem dX2_isNumber_1 : decode cX2_isNumber 1 = .ok (.getfield 42, 3) := by decide +kernel
theorem dX2_isNumber_4 : decode cX2_isNumber 4 = .ok (.bipush (-2), 2) := by decide +kernel
theorem dX2_isNumber_6 : decode cX2_isNumber 6 = .ok (.if_icmp .ne 19, 3) := by decide +kernel
theorem dX2_isNumber_9 : decode cX2_isNumber 9 = .ok (.aload_n 0, 1) := by decide +kernel
theorem dX2_isNumber_10 : decode cX2_isNumber 10 = .ok (.getfield 45, 3) := by decide +kernel
theorem dX2_isNumber_13 : decode cX2_isNumber 13 = .ok (.iload_n 1, 1) := by decide +kernel
theorem dX2_isNumber_14 : decode cX2_isNumber 14 = .ok (.iload_n 2, 1) := by decide +kernel
theorem dX2_isNumber_15 : decode cX2_isNumber 15 = .ok (.invokestatic 107, 3) := by decide +kernel
theorem dX2_isNumber_18 : decode cX2_isNumber 18 = .ok (.ifCond .eq 7, 3) := by decide +kernel
theorem dX2_isNumber_21 : decode cX2_isNumber 21 = .ok (.iconst 1, 1) := by decide +kernel
theorem dX2_isNumber_22 : decode cX2_isNumber 22 = .ok (.goto 4, 3) := by decide +kernel
theorem dX2_isNumber_25 : decode cX2_isNumber 25 = .ok (.iconst 0, 1) := by decide +kernel
theorem dX2_isNumber_26 : decode cX2_isNumber 26 = .ok (.ireturn, 1) := by decide +kernel
theorem dX2_nextEndsItem_0 : decode cX2_nextEndsItem 0 = .ok (.aload_n 0, 1) := by decide +kernel
theorem dX2_nextEndsItem_1 : decode cX2_nextEndsItem 1 = .ok (.invokevirtual 56, 3) := by decide +kernel
theorem dX2_nextEndsItem_4 : decode cX2_nextEndsItem 4 = .ok (.aload_n 0, 1) := by decide +kernel
theorem dX2_nextEndsItem_5 : decode cX2_nextEndsItem 5 = .ok (.getfield 42, 3) := by decide +kernel
theorem dX2_nextEndsItem_8 : decode cX2_nextEndsItem 8 = .ok (.bipush 59, 2) := by decide +kernel
theorem dX2_nextEndsItem_10 : decode cX2_nextEndsItem 10 = .ok (.if_icmp .ne 7, 3) := by decide +kernel
theorem dX2_nextEndsItem_13 : decode cX2_nextEndsItem 13 = .ok (.iconst 1, 1) := by decide +kernel
theorem dX2_nextEndsItem_14 : decode cX2_nextEndsItem 14 = .ok (.goto 4, 3) := by decide +kernel
theorem dX2_nextEndsItem_17 : decode cX2_nextEndsItem 17 = .ok (.iconst 0, 1) := by decide +kernel
theorem dX2_nextEndsItem_18 : decode cX2_nextEndsItem 18 = .ok (.ireturn, 1) := by decide +kernel
theorem dX2_next_0 : decode cX2_next 0 = .ok (.aload_n 0, 1) := by decide +kernel
theorem dX2_next_1 : decode cX2_next 1 = .ok (.getfield 36, 3) := by decide +kernel
theorem dX2_next_4 : decode cX2_next 4 = .ok (.aload_n 0, 1) := by decide +kernel
theorem dX2_next_5 : decode cX2_next 5 = .ok (.getfield 25, 3) := by decide +kernel
theorem dX2_next_8 : decode cX2_next 8 = .ok (.if_icmp .ge 30, 3) := by decide +kernel
theorem dX2_next_11 : decode cX2_next 11 = .ok (.aload_n 0, 1) := by decide +kernel
theorem dX2_next_12 : decode cX2_next 12 = .ok (.getfield 29, 3) := by decide +kernel
theorem dX2_next_15 : decode cX2_next 15 = .ok (.aload_n 0, 1) := by decide +kernel
theorem dX2_next_16 : decode cX2_next 16 = .ok (.getfield 36, 3) := by decide +kernel
theorem dX2_next_19 : decode cX2_next 19 = .ok (.iaload, 1) := by decide +kernel
theorem dX2_next_20 : decode cX2_next 20 = .ok (.bipush 32, 2) := by decide +kernel
theorem dX2_next_22 : decode cX2_next 22 = .ok (.if_icmp .ne 16, 3) := by decide +kernel
theorem dX2_next_25 : decode cX2_next 25 = .ok (.aload_n 0, 1) := by decide +kernel
theorem dX2_next_26 : decode cX2_next 26 = .ok (.dup, 1) := by decide +kernel
theorem dX2_next_27 : decode cX2_next 27 = .ok (.getfield 36, 3) := by decide +kernel
theorem dX2_next_30 : decode cX2_next 30 = .ok (.iconst 1, 1) := by decide +kernel
theorem dX2_next_31 : decode cX2_next 31 = .ok (.iadd, 1) := by decide +kernel
theorem dX2_next_32 : decode cX2_next 32 = .ok (.putfield 36, 3) := by decide +kernel
theorem dX2_next_35 : decode cX2_next 35 = .ok (.goto (-35), 3) := by decide +kernel
theorem dX2_next_38 : decode cX2_next 38 = .ok (.aload_n 0, 1) := by decide +kernel
theorem dX2_next_39 : decode cX2_next 39 = .ok (.aload_n 0, 1) := by decide +kernel
theorem dX2_next_40 : decode cX2_next 40 = .ok (.getfield 36, 3) := by decide +kernel
theorem dX2_next_43 : decode cX2_next 43 = .ok (.putfield 39, 3) := by decide +kernel
theorem dX2_next_46 : decode cX2_next 46 = .ok (.aload_n 0, 1) := by decide +kernel
theorem dX2_next_47 : decode cX2_next 47 = .ok (.getfield 36, 3) := by decide +kernel
theorem dX2_next_50 : decode cX2_next 50 = .ok (.aload_n 0, 1) := by decide +kernel
theorem dX2_next_51 : decode cX2_next 51 = .ok (.getfield 25, 3) := by decide +kernel
theorem dX2_next_54 : decode cX2_next 54 = .ok (.if_icmp .lt 11, 3) := by decide +kernel
theorem dX2_next_57 : decode cX2_next 57 = .ok (.aload_n 0, 1) := by decide +kernel
theorem dX2_next_58 : decode cX2_next 58 = .ok (.iconst (-1), 1) := by decide +kernel
theorem dX2_next_59 : decode cX2_next 59 = .ok (.putfield 42, 3) := by decide +kernel
theorem dX2_next_62 : decode cX2_next 62 = .ok (.goto 48, 3) := by decide +kernel
theorem dX2_next_65 : decode cX2_next 65 = .ok (.aload_n 0, 1) := by decide +kernel
theorem dX2_next_66 : decode cX2_next 66 = .ok (.getfield 29, 3) := by decide +kernel
theorem dX2_next_69 : decode cX2_next 69 = .ok (.aload_n 0, 1) := by decide +kernel
theorem dX2_next_70 : decode cX2_next 70 = .ok (.getfield 36, 3) := by decide +kernel
theorem dX2_next_73 : decode cX2_next 73 = .ok (.iaload, 1) := by decide +kernel
theorem dX2_next_74 : decode cX2_next 74 = .ok (.invokestatic 111, 3) := by decide +kernel
theorem dX2_next_77 : decode cX2_next 77 = .ok (.ifCond .eq 10, 3) := by decide +kernel
theorem dX2_next_80 : decode cX2_next 80 = .ok (.aload_n 0, 1) := by decide +kernel
theorem dX2_next_81 : decode cX2_next 81 = .ok (.invokevirtual 114, 3) := by decide +kernel
theorem dX2_next_84 : decode cX2_next 84 = .ok (.goto 26, 3) := by decide +kernel
theorem dX2_next_87 : decode cX2_next 87 = .ok (.aload_n 0, 1) := by decide +kernel
theorem dX2_next_88 : decode cX2_next 88 = .ok (.aload_n 0, 1) := by decide +kernel
theorem dX2_next_89 : decode cX2_next 89 = .ok (.getfield 29, 3) := by decide +kernel
theorem dX2_next_92 : decode cX2_next 92 = .ok (.aload_n 0, 1) := by decide +kernel
theorem dX2_next_93 : decode cX2_next 93 = .ok (.getfield 36, 3) := by decide +kernel
theorem dX2_next_96 : decode cX2_next 96 = .ok (.iaload, 1) := by decide +kernel
theorem dX2_next_97 : decode cX2_next 97 = .ok (.putfield 42, 3) := by decide +kernel
theorem dX2_next_100 : decode cX2_next 100 = .ok (.aload_n 0, 1) := by decide +kernel
theorem dX2_next_101 : decode cX2_next 101 = .ok (.dup, 1) := by decide +kernel
theorem dX2_next_102 : decode cX2_next 102 = .ok (.getfield 36, 3) := by decide +kernel
theorem dX2_next_105 : decode cX2_next 105 = .ok (.iconst 1, 1) := by decide +kernel
theorem dX2_next_106 : decode cX2_next 106 = .ok (.iadd, 1) := by decide +kernel
theorem dX2_next_107 : decode cX2_next 107 = .ok (.putfield 36, 3) := by decide +kernel
theorem dX2_next_110 : decode cX2_next 110 = .ok (.return_, 1) := by decide +kernel
theorem dX2_nextNumber_0 : decode cX2_nextNumber 0 = .ok (.aload_n 0, 1) := by decide +kernel
theorem dX2_nextNumber_1 : decode cX2_nextNumber 1 = .ok (.iconst 0, 1) := by decide +kernel
theorem dX2_nextNumber_2 : decode cX2_nextNumber 2 = .ok (.putfield 45, 3) := by decide +kernel
theorem dX2_nextNumber_5 : decode cX2_nextNumber 5 = .ok (.aload_n 0, 1) := by decide +kernel
theorem dX2_nextNumber_6 : decode cX2_nextNumber 6 = .ok (.getfield 36, 3) := by decide +kernel
theorem dX2_nextNumber_9 : decode cX2_nextNumber 9 = .ok (.aload_n 0, 1) := by decide +kernel
theorem dX2_nextNumber_10 : decode cX2_nextNumber 10 = .ok (.getfield 25, 3) := by decide +kernel
theorem dX2_nextNumber_13 : decode cX2_nextNumber 13 = .ok (.if_icmp .ge 75, 3) := by decide +kernel
theorem dX2_nextNumber_16 : decode cX2_nextNumber 16 = .ok (.aload_n 0, 1) := by decide +kernel
theorem dX2_nextNumber_17 : decode cX2_nextNumber 17 = .ok (.getfield 29, 3) := by decide +kernel
theorem dX2_nextNumber_20 : decode cX2_nextNumber 20 = .ok (.aload_n 0, 1) := by decide +kernel
theorem dX2_nextNumber_21 : decode cX2_nextNumber 21 = .ok (.getfield 36, 3) := by decide +kernel
theorem dX2_nextNumber_24 : decode cX2_nextNumber 24 = .ok (.iaload, 1) := by decide +kernel
theorem dX2_nextNumber_25 : decode cX2_nextNumber 25 = .ok (.invokestatic 111, 3) := by decide +kernel
theorem dX2_nextNumber_28 : decode cX2_nextNumber 28 = .ok (.ifCond .eq 60, 3) := by decide +kernel
theorem dX2_nextNumber_31 : decode cX2_nextNumber 31 = .ok (.aload_n 0, 1) := by decide +kernel
theorem dX2_nextNumber_32 : decode cX2_nextNumber 32 = .ok (.aload_n 0, 1) := by decide +kernel
theorem dX2_nextNumber_33 : decode cX2_nextNumber 33 = .ok (.getfield 36, 3) := by decide +kernel
theorem dX2_nextNumber_36 : decode cX2_nextNumber 36 = .ok (.aload_n 0, 1) := by decide +kernel
theorem dX2_nextNumber_37 : decode cX2_nextNumber 37 = .ok (.getfield 39, 3) := by decide +kernel
theorem dX2_nextNumber_40 : decode cX2_nextNumber 40 = .ok (.isub, 1) := by decide +kernel
theorem dX2_nextNumber_41 : decode cX2_nextNumber 41 = .ok (.iconst 2, 1) := by decide +kernel
theorem dX2_nextNumber_42 : decode cX2_nextNumber 42 = .ok (.if_icmp .ge 26, 3) := by decide +kernel
theorem dX2_nextNumber_45 : decode cX2_nextNumber 45 = .ok (.aload_n 0, 1) := by decide +kernel
theorem dX2_nextNumber_46 : decode cX2_nextNumber 46 = .ok (.getfield 45, 3) := by decide +kernel
theorem dX2_nextNumber_49 : decode cX2_nextNumber 49 = .ok (.bipush 10, 2) := by decide +kernel
theorem dX2_nextNumber_51 : decode cX2_nextNumber 51 = .ok (.imul, 1) := by decide +kernel
theorem dX2_nextNumber_52 : decode cX2_nextNumber 52 = .ok (.aload_n 0, 1) := by decide +kernel
theorem dX2_nextNumber_53 : decode cX2_nextNumber 53 = .ok (.getfield 29, 3) := by decide +kernel
theorem dX2_nextNumber_56 : decode cX2_nextNumber 56 = .ok (.aload_n 0, 1) := by decide +kernel
theorem dX2_nextNumber_57 : decode cX2_nextNumber 57 = .ok (.getfield 36, 3) := by decide +kernel
theorem dX2_nextNumber_60 : decode cX2_nextNumber 60 = .ok (.iaload, 1) := by decide +kernel
theorem dX2_nextNumber_61 : decode cX2_nextNumber 61 = .ok (.iadd, 1) := by decide +kernel
theorem dX2_nextNumber_62 : decode cX2_nextNumber 62 = .ok (.bipush 48, 2) := by decide +kernel
theorem dX2_nextNumber_64 : decode cX2_nextNumber 64 = .ok (.isub, 1) := by decide +kernel
theorem dX2_nextNumber_65 : decode cX2_nextNumber 65 = .ok (.goto 7, 3) := by decide +kernel
theorem dX2_nextNumber_68 : decode cX2_nextNumber 68 = .ok (.aload_n 0, 1) := by decide +kernel
theorem dX2_nextNumber_69 : decode cX2_nextNumber 69 = .ok (.getfield 45, 3) := by decide +kernel
theorem dX2_nextNumber_72 : decode cX2_nextNumber 72 = .ok (.putfield 45, 3) := by decide +kernel
theorem dX2_nextNumber_75 : decode cX2_nextNumber 75 = .ok (.aload_n 0, 1) := by decide +kernel
theorem dX2_nextNumber_76 : decode cX2_nextNumber 76 = .ok (.dup, 1) := by decide +kernel
theorem dX2_nextNumber_77 : decode cX2_nextNumber 77 = .ok (.getfield 36, 3) := by decide +kernel
theorem dX2_nextNumber_80 : decode cX2_nextNumber 80 = .ok (.iconst 1, 1) := by decide +kernel
theorem dX2_nextNumber_81 : decode cX2_nextNumber 81 = .ok (.iadd, 1) := by decide +kernel
theorem dX2_nextNumber_82 : decode cX2_nextNumber 82 = .ok (.putfield 36, 3) := by decide +kernel
theorem dX2_nextNumber_85 : decode cX2_nextNumber 85 = .ok (.goto (-80), 3) := by decide +kernel
theorem dX2_nextNumber_88 : decode cX2_nextNumber 88 = .ok (.aload_n 0, 1) := by decide +kernel
theorem dX2_nextNumber_89 : decode cX2_nextNumber 89 = .ok (.getfield 36, 3) := by decide +kernel
theorem dX2_nextNumber_92 : decode cX2_nextNumber 92 = .ok (.aload_n 0, 1) := by decide +kernel
theorem dX2_nextNumber_93 : decode cX2_nextNumber 93 = .ok (.getfield 39, 3) := by decide +kernel
theorem dX2_nextNumber_96 : decode cX2_nextNumber 96 = .ok (.isub, 1) := by decide +kernel
theorem dX2_nextNumber_97 : decode cX2_nextNumber 97 = .ok (.istore_n 1, 1) := by decide +kernel
theorem dX2_nextNumber_98 : decode cX2_nextNumber 98 = .ok (.iload_n 1, 1) := by decide +kernel
theorem dX2_nextNumber_99 : decode cX2_nextNumber 99 = .ok (.iconst 1, 1) := by decide +kernel
theorem dX2_nextNumber_100 : decode cX2_nextNumber 100 = .ok (.if_icmp .le 21, 3) := by decide +kernel
theorem dX2_nextNumber_103 : decode cX2_nextNumber 103 = .ok (.aload_n 0, 1) := by decide +kernel
theorem dX2_nextNumber_104 : decode cX2_nextNumber 104 = .ok (.getfield 29, 3) := by decide +kernel
theorem dX2_nextNumber_107 : decode cX2_nextNumber 107 = .ok (.aload_n 0, 1) := by decide +kernel
theorem dX2_nextNumber_108 : decode cX2_nextNumber 108 = .ok (.getfield 39, 3) := by decide +kernel
theorem dX2_nextNumber_111 : decode cX2_nextNumber 111 = .ok (.iaload, 1) := by decide +kernel
theorem dX2_nextNumber_112 : decode cX2_nextNumber 112 = .ok (.bipush 48, 2) := by decide +kernel
theorem dX2_nextNumber_114 : decode cX2_nextNumber 114 = .ok (.if_icmp .ne 7, 3) := by decide +kernel
theorem dX2_nextNumber_117 : decode cX2_nextNumber 117 = .ok (.iconst 1, 1) := by decide +kernel
theorem dX2_nextNumber_118 : decode cX2_nextNumber 118 = .ok (.goto 4, 3) := by decide +kernel
theorem dX2_nextNumber_121 : decode cX2_nextNumber 121 = .ok (.iconst 0, 1) := by decide +kernel
theorem dX2_nextNumber_122 : decode cX2_nextNumber 122 = .ok (.istore_n 2, 1) := by decide +kernel
theorem dX2_nextNumber_123 : decode cX2_nextNumber 123 = .ok (.aload_n 0, 1) := by decide +kernel
theorem dX2_nextNumber_124 : decode cX2_nextNumber 124 = .ok (.iload_n 1, 1) := by decide +kernel
theorem dX2_nextNumber_125 : decode cX2_nextNumber 125 = .ok (.iconst 2, 1) := by decide +kernel
theorem dX2_nextNumber_126 : decode cX2_nextNumber 126 = .ok (.if_icmp .gt 7, 3) := by decide +kernel
theorem dX2_nextNumber_129 : decode cX2_nextNumber 129 = .ok (.iload_n 2, 1) := by decide +kernel
theorem dX2_nextNumber_130 : decode cX2_nextNumber 130 = .ok (.ifCond .eq 8, 3) := by decide +kernel
theorem dX2_nextNumber_133 : decode cX2_nextNumber 133 = .ok (.bipush (-3), 2) := by decide +kernel
theorem dX2_nextNumber_135 : decode cX2_nextNumber 135 = .ok (.goto 5, 3) := by decide +kernel
theorem dX2_nextNumber_138 : decode cX2_nextNumber 138 = .ok (.bipush (-2), 2) := by decide +kernel
theorem dX2_nextNumber_140 : decode cX2_nextNumber 140 = .ok (.putfield 42, 3) := by decide +kernel
theorem dX2_nextNumber_143 : decode cX2_nextNumber 143 = .ok (.return_, 1) := by decide +kernel
theorem dX2_isFigure_0 : decode cX2_isFigure 0 = .ok (.iload_n 0, 1) := by decide +kernel
theorem dX2_isFigure_1 : decode cX2_isFigure 1 = .ok (.bipush 48, 2) := by decide +kernel
theorem dX2_isFigure_3 : decode cX2_isFigure 3 = .ok (.if_icmp .lt 13, 3) := by decide +kernel
theorem dX2_isFigure_6 : decode cX2_isFigure 6 = .ok (.iload_n 0, 1) := by decide +kernel
theorem dX2_isFigure_7 : decode cX2_isFigure 7 = .ok (.bipush 57, 2) := by decide +kernel
theorem dX2_isFigure_9 : decode cX2_isFigure 9 = .ok (.if_icmp .gt 7, 3) := by decide +kernel
theorem dX2_isFigure_12 : decode cX2_isFigure 12 = .ok (.iconst 1, 1) := by decide +kernel
theorem dX2_isFigure_13 : decode cX2_isFigure 13 = .ok (.goto 4, 3) := by decide +kernel
theorem dX2_isFigure_16 : decode cX2_isFigure 16 = .ok (.iconst 0, 1) := by decide +kernel
theorem dX2_isFigure_17 : decode cX2_isFigure 17 = .ok (.ireturn, 1) := by decide +kernel
theorem dX3_init_0 : decode cX3_init 0 = .ok (.aload_n 0, 1) := by decide +kernel
theorem dX3_init_1 : decode cX3_init 1 = .ok (.invokespecial 3, 3) := by decide +kernel
theorem dX3_init_4 : decode cX3_init 4 = .ok (.aload_n 0, 1) := by decide +kernel
theorem dX3_init_5 : decode cX3_init 5 = .ok (.new 9, 3) := by decide +kernel
theorem dX3_init_8 : decode cX3_init 8 = .ok (.dup, 1) := by decide +kernel
theorem dX3_init_9 : decode cX3_init 9 = .ok (.invokespecial 11, 3) := by decide +kernel
theorem dX3_init_12 : decode cX3_init 12 = .ok (.putfield 12, 3) := by decide +kernel
theorem dX3_init_15 : decode cX3_init 15 = .ok (.aload_n 0, 1) := by decide +kernel
theorem dX3_init_16 : decode cX3_init 16 = .ok (.new 18, 3) := by decide +kernel
theorem dX3_init_19 : decode cX3_init 19 = .ok (.dup, 1) := by decide +kernel
theorem dX3_init_20 : decode cX3_init 20 = .ok (.invokespecial 20, 3) := by decide +kernel
theorem dX3_init_23 : decode cX3_init 23 = .ok (.putfield 21, 3) := by decide +kernel
theorem dX3_init_26 : decode cX3_init 26 = .ok (.aload_n 0, 1) := by decide +kernel
theorem dX3_init_27 : decode cX3_init 27 = .ok (.iconst 0, 1) := by decide +kernel
theorem dX3_init_28 : decode cX3_init 28 = .ok (.putfield 25, 3) := by decide +kernel
theorem dX3_init_31 : decode cX3_init 31 = .ok (.aload_n 0, 1) := by decide +kernel
theorem dX3_init_32 : decode cX3_init 32 = .ok (.bipush 32, 2) := by decide +kernel
theorem dX3_init_34 : decode cX3_init 34 = .ok (.bipush 7, 2) := by decide +kernel
theorem dX3_init_36 : decode cX3_init 36 = .ok (.multianewarray 29 2, 4) := by decide +kernel
theorem dX3_init_40 : decode cX3_init 40 = .ok (.putfield 31, 3) := by decide +kernel
theorem dX3_init_43 : decode cX3_init 43 = .ok (.aload_n 0, 1) := by decide +kernel
theorem dX3_init_44 : decode cX3_init 44 = .ok (.bipush 32, 2) := by decide +kernel
theorem dX3_init_46 : decode cX3_init 46 = .ok (.newarray .int, 2) := by decide +kernel
theorem dX3_init_48 : decode cX3_init 48 = .ok (.putfield 34, 3) := by decide +kernel
theorem dX3_init_51 : decode cX3_init 51 = .ok (.aload_n 0, 1) := by decide +kernel
theorem dX3_init_52 : decode cX3_init 52 = .ok (.bipush 8, 2) := by decide +kernel
theorem dX3_init_54 : decode cX3_init 54 = .ok (.sipush 784, 3) := by decide +kernel
theorem dX3_init_57 : decode cX3_init 57 = .ok (.multianewarray 29 2, 4) := by decide +kernel
theorem dX3_init_61 : decode cX3_init 61 = .ok (.putfield 38, 3) := by decide +kernel
theorem dX3_init_64 : decode cX3_init 64 = .ok (.aload_n 0, 1) := by decide +kernel
theorem dX3_init_65 : decode cX3_init 65 = .ok (.sipush 784, 3) := by decide +kernel
theorem dX3_init_68 : decode cX3_init 68 = .ok (.newarray .int, 2) := by decide +kernel
theorem dX3_init_70 : decode cX3_init 70 = .ok (.putfield 41, 3) := by decide +kernel
theorem dX3_init_73 : decode cX3_init 73 = .ok (.aload_n 0, 1) := by decide +kernel
theorem dX3_init_74 : decode cX3_init 74 = .ok (.bipush 7, 2) := by decide +kernel
theorem dX3_init_76 : decode cX3_init 76 = .ok (.newarray .int, 2) := by decide +kernel
theorem dX3_init_78 : decode cX3_init 78 = .ok (.putfield 44, 3) := by decide +kernel
theorem dX3_init_81 : decode cX3_init 81 = .ok (.aload_n 0, 1) := by decide +kernel
theorem dX3_init_82 : decode cX3_init 82 = .ok (.sipush 784, 3) := by decide +kernel
theorem dX3_init_85 : decode cX3_init 85 = .ok (.newarray .int, 2) := by decide +kernel
theorem dX3_init_87 : decode cX3_init 87 = .ok (.putfield 47, 3) := by decide +kernel
theorem dX3_init_90 : decode cX3_init 90 = .ok (.aload_n 0, 1) := by decide +kernel
theorem dX3_init_91 : decode cX3_init 91 = .ok (.sipush 784, 3) := by decide +kernel
theorem dX3_init_94 : decode cX3_init 94 = .ok (.newarray .int, 2) := by decide +kernel
theorem dX3_init_96 : decode cX3_init 96 = .ok (.putfield 50, 3) := by decide +kernel
theorem dX3_init_99 : decode cX3_init 99 = .ok (.aload_n 0, 1) := by decide +kernel
theorem dX3_init_100 : decode cX3_init 100 = .ok (.bipush 9, 2) := by decide +kernel
theorem dX3_init_102 : decode cX3_init 102 = .ok (.newarray .int, 2) := by decide +kernel
theorem dX3_init_104 : decode cX3_init 104 = .ok (.putfield 53, 3) := by decide +kernel
theorem dX3_init_107 : decode cX3_init 107 = .ok (.aload_n 0, 1) := by decide +kernel
theorem dX3_init_108 : decode cX3_init 108 = .ok (.bipush 32, 2) := by decide +kernel
theorem dX3_init_110 : decode cX3_init 110 = .ok (.newarray .int, 2) := by decide +kernel
theorem dX3_init_112 : decode cX3_init 112 = .ok (.putfield 56, 3) := by decide +kernel
theorem dX3_init_115 : decode cX3_init 115 = .ok (.return_, 1) := by decide +kernel
theorem dX3_evenSpreads_0 : decode cX3_evenSpreads 0 = .ok (.aload_n 0, 1) := by decide +kernel
theorem dX3_evenSpreads_1 : decode cX3_evenSpreads 1 = .ok (.iload_n 1, 1) := by decide +kernel
theorem dX3_evenSpreads_2 : decode cX3_evenSpreads 2 = .ok (.iload_n 2, 1) := by decide +kernel
theorem dX3_evenSpreads_3 : decode cX3_evenSpreads 3 = .ok (.invokevirtual 59, 3) := by decide +kernel
theorem dX3_evenSpreads_6 : decode cX3_evenSpreads 6 = .ok (.aload_n 0, 1) := by decide +kernel
theorem dX3_evenSpreads_7 : decode cX3_evenSpreads 7 = .ok (.iload_n 1, 1) := by decide +kernel
theorem dX3_evenSpreads_8 : decode cX3_evenSpreads 8 = .ok (.invokevirtual 63, 3) := by decide +kernel
theorem dX3_evenSpreads_11 : decode cX3_evenSpreads 11 = .ok (.istore_n 3, 1) := by decide +kernel
theorem dX3_evenSpreads_12 : decode cX3_evenSpreads 12 = .ok (.iconst 0, 1) := by decide +kernel
theorem dX3_evenSpreads_13 : decode cX3_evenSpreads 13 = .ok (.istore 4, 2) := by decide +kernel
theorem dX3_evenSpreads_15 : decode cX3_evenSpreads 15 = .ok (.iconst 0, 1) := by decide +kernel
theorem dX3_evenSpreads_16 : decode cX3_evenSpreads 16 = .ok (.istore 5, 2) := by decide +kernel
theorem dX3_evenSpreads_18 : decode cX3_evenSpreads 18 = .ok (.iload 5, 2) := by decide +kernel
theorem dX3_evenSpreads_20 : decode cX3_evenSpreads 20 = .ok (.iload_n 3, 1) := by decide +kernel
theorem dX3_evenSpreads_21 : decode cX3_evenSpreads 21 = .ok (.if_icmp .ge 29, 3) := by decide +kernel
theorem dX3_evenSpreads_24 : decode cX3_evenSpreads 24 = .ok (.aload_n 0, 1) := by decide +kernel
theorem dX3_evenSpreads_25 : decode cX3_evenSpreads 25 = .ok (.getfield 41, 3) := by decide +kernel
theorem dX3_evenSpreads_28 : decode cX3_evenSpreads 28 = .ok (.iload 5, 2) := by decide +kernel
theorem dX3_evenSpreads_30 : decode cX3_evenSpreads 30 = .ok (.iaload, 1) := by decide +kernel
theorem dX3_evenSpreads_31 : decode cX3_evenSpreads 31 = .ok (.aload_n 0, 1) := by decide +kernel
theorem dX3_evenSpreads_32 : decode cX3_evenSpreads 32 = .ok (.getfield 21, 3) := by decide +kernel
theorem dX3_evenSpreads_35 : decode cX3_evenSpreads 35 = .ok (.getfield 67, 3) := by decide +kernel
theorem dX3_evenSpreads_38 : decode cX3_evenSpreads 38 = .ok (.if_icmp .gt 6, 3) := by decide +kernel
theorem dX3_evenSpreads_41 : decode cX3_evenSpreads 41 = .ok (.iinc 4 1, 3) := by decide +kernel
theorem dX3_evenSpreads_44 : decode cX3_evenSpreads 44 = .ok (.iinc 5 1, 3) := by decide +kernel
theorem dX3_evenSpreads_47 : decode cX3_evenSpreads 47 = .ok (.goto (-29), 3) := by decide +kernel
theorem dX3_evenSpreads_50 : decode cX3_evenSpreads 50 = .ok (.iload 4, 2) := by decide +kernel
theorem dX3_evenSpreads_52 : decode cX3_evenSpreads 52 = .ok (.ireturn, 1) := by decide +kernel
theorem dX3_offer_0 : decode cX3_offer 0 = .ok (.iconst 1, 1) := by decide +kernel
theorem dX3_offer_1 : decode cX3_offer 1 = .ok (.aload_n 0, 1) := by decide +kernel
theorem dX3_offer_2 : decode cX3_offer 2 = .ok (.getfield 21, 3) := by decide +kernel
theorem dX3_offer_5 : decode cX3_offer 5 = .ok (.iload_n 1, 1) := by decide +kernel
theorem dX3_offer_6 : decode cX3_offer 6 = .ok (.invokevirtual 70, 3) := by decide +kernel
theorem dX3_offer_9 : decode cX3_offer 9 = .ok (.ishl, 1) := by decide +kernel
theorem dX3_offer_10 : decode cX3_offer 10 = .ok (.bipush 7, 2) := by decide +kernel
theorem dX3_offer_12 : decode cX3_offer 12 = .ok (.invokestatic 73, 3) := by decide +kernel
theorem dX3_offer_15 : decode cX3_offer 15 = .ok (.istore_n 3, 1) := by decide +kernel
theorem dX3_offer_16 : decode cX3_offer 16 = .ok (.iconst 0, 1) := by decide +kernel
theorem dX3_offer_17 : decode cX3_offer 17 = .ok (.istore 4, 2) := by decide +kernel
theorem dX3_offer_19 : decode cX3_offer 19 = .ok (.iload 4, 2) := by decide +kernel
theorem dX3_offer_21 : decode cX3_offer 21 = .ok (.iconst 4, 1) := by decide +kernel
theorem dX3_offer_22 : decode cX3_offer 22 = .ok (.if_icmp .ge 110, 3) := by decide +kernel
theorem dX3_offer_25 : decode cX3_offer 25 = .ok (.iload_n 1, 1) := by decide +kernel
theorem dX3_offer_26 : decode cX3_offer 26 = .ok (.iconst 4, 1) := by decide +kernel
theorem dX3_offer_27 : decode cX3_offer 27 = .ok (.imul, 1) := by decide +kernel
theorem dX3_offer_28 : decode cX3_offer 28 = .ok (.iload 4, 2) := by decide +kernel
theorem dX3_offer_30 : decode cX3_offer 30 = .ok (.iadd, 1) := by decide +kernel
theorem dX3_offer_31 : decode cX3_offer 31 = .ok (.istore 5, 2) := by decide +kernel
theorem dX3_offer_33 : decode cX3_offer 33 = .ok (.iconst 1, 1) := by decide +kernel
theorem dX3_offer_34 : decode cX3_offer 34 = .ok (.istore 6, 2) := by decide +kernel
theorem dX3_offer_36 : decode cX3_offer 36 = .ok (.aload_n 0, 1) := by decide +kernel
theorem dX3_offer_37 : decode cX3_offer 37 = .ok (.getfield 31, 3) := by decide +kernel
theorem dX3_offer_40 : decode cX3_offer 40 = .ok (.iload 5, 2) := by decide +kernel
theorem dX3_offer_42 : decode cX3_offer 42 = .ok (.aaload, 1) := by decide +kernel
theorem dX3_offer_43 : decode cX3_offer 43 = .ok (.iconst 0, 1) := by decide +kernel
theorem dX3_offer_44 : decode cX3_offer 44 = .ok (.iconst 0, 1) := by decide +kernel
theorem dX3_offer_45 : decode cX3_offer 45 = .ok (.iastore, 1) := by decide +kernel
theorem dX3_offer_46 : decode cX3_offer 46 = .ok (.iload 4, 2) := by decide +kernel
theorem dX3_offer_48 : decode cX3_offer 48 = .ok (.aload_n 0, 1) := by decide +kernel
theorem dX3_offer_49 : decode cX3_offer 49 = .ok (.getfield 12, 3) := by decide +kernel
theorem dX3_offer_52 : decode cX3_offer 52 = .ok (.getfield 79, 3) := by decide +kernel
theorem dX3_offer_55 : decode cX3_offer 55 = .ok (.if_icmp .ge 62, 3) := by decide +kernel
theorem dX3_offer_58 : decode cX3_offer 58 = .ok (.iload_n 2, 1) := by decide +kernel
theorem dX3_offer_59 : decode cX3_offer 59 = .ok (.iload 4, 2) := by decide +kernel
theorem dX3_offer_61 : decode cX3_offer 61 = .ok (.ishr, 1) := by decide +kernel
theorem dX3_offer_62 : decode cX3_offer 62 = .ok (.iconst 1, 1) := by decide +kernel
theorem dX3_offer_63 : decode cX3_offer 63 = .ok (.iand, 1) := by decide +kernel
theorem dX3_offer_64 : decode cX3_offer 64 = .ok (.iconst 1, 1) := by decide +kernel
theorem dX3_offer_65 : decode cX3_offer 65 = .ok (.if_icmp .ne 52, 3) := by decide +kernel
theorem dX3_offer_68 : decode cX3_offer 68 = .ok (.iconst 1, 1) := by decide +kernel
theorem dX3_offer_69 : decode cX3_offer 69 = .ok (.istore 7, 2) := by decide +kernel
theorem dX3_offer_71 : decode cX3_offer 71 = .ok (.iload 7, 2) := by decide +kernel
theorem dX3_offer_73 : decode cX3_offer 73 = .ok (.iload_n 3, 1) := by decide +kernel
theorem dX3_offer_74 : decode cX3_offer 74 = .ok (.if_icmp .ge 43, 3) := by decide +kernel
theorem dX3_offer_77 : decode cX3_offer 77 = .ok (.aload_n 0, 1) := by decide +kernel
theorem dX3_offer_78 : decode cX3_offer 78 = .ok (.getfield 12, 3) := by decide +kernel
theorem dX3_offer_81 : decode cX3_offer 81 = .ok (.iload 4, 2) := by decide +kernel
theorem dX3_offer_83 : decode cX3_offer 83 = .ok (.aload_n 0, 1) := by decide +kernel
theorem dX3_offer_84 : decode cX3_offer 84 = .ok (.getfield 21, 3) := by decide +kernel
theorem dX3_offer_87 : decode cX3_offer 87 = .ok (.iload_n 1, 1) := by decide +kernel
theorem dX3_offer_88 : decode cX3_offer 88 = .ok (.iload 7, 2) := by decide +kernel
theorem dX3_offer_90 : decode cX3_offer 90 = .ok (.invokevirtual 82, 3) := by decide +kernel
theorem dX3_offer_93 : decode cX3_offer 93 = .ok (.ifCond .eq 18, 3) := by decide +kernel
theorem dX3_offer_96 : decode cX3_offer 96 = .ok (.aload_n 0, 1) := by decide +kernel
theorem dX3_offer_97 : decode cX3_offer 97 = .ok (.getfield 31, 3) := by decide +kernel
theorem dX3_offer_100 : decode cX3_offer 100 = .ok (.iload 5, 2) := by decide +kernel
theorem dX3_offer_102 : decode cX3_offer 102 = .ok (.aaload, 1) := by decide +kernel
theorem dX3_offer_103 : decode cX3_offer 103 = .ok (.iload 6, 2) := by decide +kernel
theorem dX3_offer_105 : decode cX3_offer 105 = .ok (.iload 7, 2) := by decide +kernel
theorem dX3_offer_107 : decode cX3_offer 107 = .ok (.iastore, 1) := by decide +kernel
theorem dX3_offer_108 : decode cX3_offer 108 = .ok (.iinc 6 1, 3) := by decide +kernel
theorem dX3_offer_111 : decode cX3_offer 111 = .ok (.iinc 7 1, 3) := by decide +kernel
theorem dX3_offer_114 : decode cX3_offer 114 = .ok (.goto (-43), 3) := by decide +kernel
theorem dX3_offer_117 : decode cX3_offer 117 = .ok (.aload_n 0, 1) := by decide +kernel
theorem dX3_offer_118 : decode cX3_offer 118 = .ok (.getfield 34, 3) := by decide +kernel
theorem dX3_offer_121 : decode cX3_offer 121 = .ok (.iload 5, 2) := by decide +kernel
theorem dX3_offer_123 : decode cX3_offer 123 = .ok (.iload 6, 2) := by decide +kernel
theorem dX3_offer_125 : decode cX3_offer 125 = .ok (.iastore, 1) := by decide +kernel
theorem dX3_offer_126 : decode cX3_offer 126 = .ok (.iinc 4 1, 3) := by decide +kernel
theorem dX3_offer_129 : decode cX3_offer 129 = .ok (.goto (-110), 3) := by decide +kernel
theorem dX3_offer_132 : decode cX3_offer 132 = .ok (.return_, 1) := by decide +kernel
theorem dX3_findGaps_0 : decode cX3_findGaps 0 = .ok (.iconst 1, 1) := by decide +kernel
theorem dX3_findGaps_1 : decode cX3_findGaps 1 = .ok (.istore_n 2, 1) := by decide +kernel
theorem dX3_findGaps_2 : decode cX3_findGaps 2 = .ok (.aload_n 0, 1) := by decide +kernel
theorem dX3_findGaps_3 : decode cX3_findGaps 3 = .ok (.getfield 41, 3) := by decide +kernel
theorem dX3_findGaps_6 : decode cX3_findGaps 6 = .ok (.iconst 0, 1) := by decide +kernel
theorem dX3_findGaps_7 : decode cX3_findGaps 7 = .ok (.iconst 0, 1) := by decide +kernel
theorem dX3_findGaps_8 : decode cX3_findGaps 8 = .ok (.iastore, 1) := by decide +kernel
theorem dX3_findGaps_9 : decode cX3_findGaps 9 = .ok (.iconst 0, 1) := by decide +kernel
theorem dX3_findGaps_10 : decode cX3_findGaps 10 = .ok (.istore_n 3, 1) := by decide +kernel
theorem dX3_findGaps_11 : decode cX3_findGaps 11 = .ok (.iload_n 3, 1) := by decide +kernel
theorem dX3_findGaps_12 : decode cX3_findGaps 12 = .ok (.iconst 4, 1) := by decide +kernel
theorem dX3_findGaps_13 : decode cX3_findGaps 13 = .ok (.if_icmp .ge 76, 3) := by decide +kernel
theorem dX3_findGaps_16 : decode cX3_findGaps 16 = .ok (.iload_n 1, 1) := by decide +kernel
theorem dX3_findGaps_17 : decode cX3_findGaps 17 = .ok (.iconst 4, 1) := by decide +kernel
theorem dX3_findGaps_18 : decode cX3_findGaps 18 = .ok (.imul, 1) := by decide +kernel
theorem dX3_findGaps_19 : decode cX3_findGaps 19 = .ok (.iload_n 3, 1) := by decide +kernel
theorem dX3_findGaps_20 : decode cX3_findGaps 20 = .ok (.iadd, 1) := by decide +kernel
theorem dX3_findGaps_21 : decode cX3_findGaps 21 = .ok (.istore 4, 2) := by decide +kernel
theorem dX3_findGaps_23 : decode cX3_findGaps 23 = .ok (.iconst 0, 1) := by decide +kernel
theorem dX3_findGaps_24 : decode cX3_findGaps 24 = .ok (.istore 5, 2) := by decide +kernel
theorem dX3_findGaps_26 : decode cX3_findGaps 26 = .ok (.iload 5, 2) := by decide +kernel
theorem dX3_findGaps_28 : decode cX3_findGaps 28 = .ok (.aload_n 0, 1) := by decide +kernel
theorem dX3_findGaps_29 : decode cX3_findGaps 29 = .ok (.getfield 34, 3) := by decide +kernel
theorem dX3_findGaps_32 : decode cX3_findGaps 32 = .ok (.iload 4, 2) := by decide +kernel
theorem dX3_findGaps_34 : decode cX3_findGaps 34 = .ok (.iaload, 1) := by decide +kernel
theorem dX3_findGaps_35 : decode cX3_findGaps 35 = .ok (.if_icmp .ge 31, 3) := by decide +kernel
theorem dX3_findGaps_38 : decode cX3_findGaps 38 = .ok (.aload_n 0, 1) := by decide +kernel
theorem dX3_findGaps_39 : decode cX3_findGaps 39 = .ok (.getfield 44, 3) := by decide +kernel
theorem dX3_findGaps_42 : decode cX3_findGaps 42 = .ok (.iload 5, 2) := by decide +kernel
theorem dX3_findGaps_44 : decode cX3_findGaps 44 = .ok (.aload_n 0, 1) := by decide +kernel
theorem dX3_findGaps_45 : decode cX3_findGaps 45 = .ok (.iload_n 3, 1) := by decide +kernel
theorem dX3_findGaps_46 : decode cX3_findGaps 46 = .ok (.aload_n 0, 1) := by decide +kernel
theorem dX3_findGaps_47 : decode cX3_findGaps 47 = .ok (.getfield 31, 3) := by decide +kernel
theorem dX3_findGaps_50 : decode cX3_findGaps 50 = .ok (.iload 4, 2) := by decide +kernel
theorem dX3_findGaps_52 : decode cX3_findGaps 52 = .ok (.aaload, 1) := by decide +kernel
theorem dX3_findGaps_53 : decode cX3_findGaps 53 = .ok (.iload 5, 2) := by decide +kernel
theorem dX3_findGaps_55 : decode cX3_findGaps 55 = .ok (.iaload, 1) := by decide +kernel
theorem dX3_findGaps_56 : decode cX3_findGaps 56 = .ok (.invokevirtual 86, 3) := by decide +kernel
theorem dX3_findGaps_59 : decode cX3_findGaps 59 = .ok (.iastore, 1) := by decide +kernel
theorem dX3_findGaps_60 : decode cX3_findGaps 60 = .ok (.iinc 5 1, 3) := by decide +kernel
theorem dX3_findGaps_63 : decode cX3_findGaps 63 = .ok (.goto (-37), 3) := by decide +kernel
theorem dX3_findGaps_66 : decode cX3_findGaps 66 = .ok (.aload_n 0, 1) := by decide +kernel
theorem dX3_findGaps_67 : decode cX3_findGaps 67 = .ok (.aload_n 0, 1) := by decide +kernel
theorem dX3_findGaps_68 : decode cX3_findGaps 68 = .ok (.getfield 41, 3) := by decide +kernel
theorem dX3_findGaps_71 : decode cX3_findGaps 71 = .ok (.iload_n 2, 1) := by decide +kernel
theorem dX3_findGaps_72 : decode cX3_findGaps 72 = .ok (.aload_n 0, 1) := by decide +kernel
theorem dX3_findGaps_73 : decode cX3_findGaps 73 = .ok (.getfield 34, 3) := by decide +kernel
theorem dX3_findGaps_76 : decode cX3_findGaps 76 = .ok (.iload 4, 2) := by decide +kernel
theorem dX3_findGaps_78 : decode cX3_findGaps 78 = .ok (.iaload, 1) := by decide +kernel
theorem dX3_findGaps_79 : decode cX3_findGaps 79 = .ok (.invokevirtual 89, 3) := by decide +kernel
theorem dX3_findGaps_82 : decode cX3_findGaps 82 = .ok (.istore_n 2, 1) := by decide +kernel
theorem dX3_findGaps_83 : decode cX3_findGaps 83 = .ok (.iinc 3 1, 3) := by decide +kernel
theorem dX3_findGaps_86 : decode cX3_findGaps 86 = .ok (.goto (-75), 3) := by decide +kernel
theorem dX3_findGaps_89 : decode cX3_findGaps 89 = .ok (.aload_n 0, 1) := by decide +kernel
theorem dX3_findGaps_90 : decode cX3_findGaps 90 = .ok (.getfield 21, 3) := by decide +kernel
theorem dX3_findGaps_93 : decode cX3_findGaps 93 = .ok (.iload_n 1, 1) := by decide +kernel
theorem dX3_findGaps_94 : decode cX3_findGaps 94 = .ok (.invokevirtual 70, 3) := by decide +kernel
theorem dX3_findGaps_97 : decode cX3_findGaps 97 = .ok (.istore_n 3, 1) := by decide +kernel
theorem dX3_findGaps_98 : decode cX3_findGaps 98 = .ok (.iconst 0, 1) := by decide +kernel
theorem dX3_findGaps_99 : decode cX3_findGaps 99 = .ok (.istore 4, 2) := by decide +kernel
theorem dX3_findGaps_101 : decode cX3_findGaps 101 = .ok (.iload 4, 2) := by decide +kernel
theorem dX3_findGaps_103 : decode cX3_findGaps 103 = .ok (.iload_n 2, 1) := by decide +kernel
theorem dX3_findGaps_104 : decode cX3_findGaps 104 = .ok (.if_icmp .ge 27, 3) := by decide +kernel
theorem dX3_findGaps_107 : decode cX3_findGaps 107 = .ok (.aload_n 0, 1) := by decide +kernel
theorem dX3_findGaps_108 : decode cX3_findGaps 108 = .ok (.getfield 41, 3) := by decide +kernel
theorem dX3_findGaps_111 : decode cX3_findGaps 111 = .ok (.iload 4, 2) := by decide +kernel
theorem dX3_findGaps_113 : decode cX3_findGaps 113 = .ok (.aload_n 0, 1) := by decide +kernel
theorem dX3_findGaps_114 : decode cX3_findGaps 114 = .ok (.getfield 41, 3) := by decide +kernel
theorem dX3_findGaps_117 : decode cX3_findGaps 117 = .ok (.iload 4, 2) := by decide +kernel
theorem dX3_findGaps_119 : decode cX3_findGaps 119 = .ok (.iaload, 1) := by decide +kernel
theorem dX3_findGaps_120 : decode cX3_findGaps 120 = .ok (.iload_n 3, 1) := by decide +kernel
theorem dX3_findGaps_121 : decode cX3_findGaps 121 = .ok (.invokestatic 93, 3) := by decide +kernel
theorem dX3_findGaps_124 : decode cX3_findGaps 124 = .ok (.iastore, 1) := by decide +kernel
theorem dX3_findGaps_125 : decode cX3_findGaps 125 = .ok (.iinc 4 1, 3) := by decide +kernel
theorem dX3_findGaps_128 : decode cX3_findGaps 128 = .ok (.goto (-27), 3) := by decide +kernel
theorem dX3_findGaps_131 : decode cX3_findGaps 131 = .ok (.iload_n 2, 1) := by decide +kernel
theorem dX3_findGaps_132 : decode cX3_findGaps 132 = .ok (.ireturn, 1) := by decide +kernel
theorem dX3_packedLoud_0 : decode cX3_packedLoud 0 = .ok (.aload_n 0, 1) := by decide +kernel
theorem dX3_packedLoud_1 : decode cX3_packedLoud 1 = .ok (.getfield 12, 3) := by decide +kernel
theorem dX3_packedLoud_4 : decode cX3_packedLoud 4 = .ok (.iload_n 1, 1) := by decide +kernel
theorem dX3_packedLoud_5 : decode cX3_packedLoud 5 = .ok (.iload_n 2, 1) := by decide +kernel
theorem dX3_packedLoud_6 : decode cX3_packedLoud 6 = .ok (.invokevirtual 96, 3) := by decide +kernel
theorem dX3_packedLoud_9 : decode cX3_packedLoud 9 = .ok (.istore_n 3, 1) := by decide +kernel
theorem dX3_packedLoud_10 : decode cX3_packedLoud 10 = .ok (.iconst 0, 1) := by decide +kernel
theorem dX3_packedLoud_11 : decode cX3_packedLoud 11 = .ok (.istore 4, 2) := by decide +kernel
theorem dX3_packedLoud_13 : decode cX3_packedLoud 13 = .ok (.iconst 0, 1) := by decide +kernel
theorem dX3_packedLoud_14 : decode cX3_packedLoud 14 = .ok (.istore 5, 2) := by decide +kernel
theorem dX3_packedLoud_16 : decode cX3_packedLoud 16 = .ok (.iload 5, 2) := by decide +kernel
theorem dX3_packedLoud_18 : decode cX3_packedLoud 18 = .ok (.iconst 3, 1) := by decide +kernel
theorem dX3_packedLoud_19 : decode cX3_packedLoud 19 = .ok (.if_icmp .ge 31, 3) := by decide +kernel
theorem dX3_packedLoud_22 : decode cX3_packedLoud 22 = .ok (.iload_n 2, 1) := by decide +kernel
theorem dX3_packedLoud_23 : decode cX3_packedLoud 23 = .ok (.iload 5, 2) := by decide +kernel
theorem dX3_packedLoud_25 : decode cX3_packedLoud 25 = .ok (.ishr, 1) := by decide +kernel
theorem dX3_packedLoud_26 : decode cX3_packedLoud 26 = .ok (.iconst 1, 1) := by decide +kernel
theorem dX3_packedLoud_27 : decode cX3_packedLoud 27 = .ok (.iand, 1) := by decide +kernel
theorem dX3_packedLoud_28 : decode cX3_packedLoud 28 = .ok (.iconst 1, 1) := by decide +kernel
theorem dX3_packedLoud_29 : decode cX3_packedLoud 29 = .ok (.if_icmp .ne 15, 3) := by decide +kernel
theorem dX3_packedLoud_32 : decode cX3_packedLoud 32 = .ok (.iload 4, 2) := by decide +kernel
theorem dX3_packedLoud_34 : decode cX3_packedLoud 34 = .ok (.iload_n 3, 1) := by decide +kernel
theorem dX3_packedLoud_35 : decode cX3_packedLoud 35 = .ok (.iload 5, 2) := by decide +kernel
theorem dX3_packedLoud_37 : decode cX3_packedLoud 37 = .ok (.bipush 8, 2) := by decide +kernel
theorem dX3_packedLoud_39 : decode cX3_packedLoud 39 = .ok (.imul, 1) := by decide +kernel
theorem dX3_packedLoud_40 : decode cX3_packedLoud 40 = .ok (.ishl, 1) := by decide +kernel
theorem dX3_packedLoud_41 : decode cX3_packedLoud 41 = .ok (.ior, 1) := by decide +kernel
theorem dX3_packedLoud_42 : decode cX3_packedLoud 42 = .ok (.istore 4, 2) := by decide +kernel
theorem dX3_packedLoud_44 : decode cX3_packedLoud 44 = .ok (.iinc 5 1, 3) := by decide +kernel
theorem dX3_packedLoud_47 : decode cX3_packedLoud 47 = .ok (.goto (-31), 3) := by decide +kernel
theorem dX3_packedLoud_50 : decode cX3_packedLoud 50 = .ok (.iload 4, 2) := by decide +kernel
theorem dX3_packedLoud_52 : decode cX3_packedLoud 52 = .ok (.ireturn, 1) := by decide +kernel
theorem dX3_gapOf_0 : decode cX3_gapOf 0 = .ok (.iconst 0, 1) := by decide +kernel
theorem dX3_gapOf_1 : decode cX3_gapOf 1 = .ok (.istore_n 2, 1) := by decide +kernel
theorem dX3_gapOf_2 : decode cX3_gapOf 2 = .ok (.ldc 99, 2) := by decide +kernel
theorem dX3_gapOf_4 : decode cX3_gapOf 4 = .ok (.istore_n 3, 1) := by decide +kernel
theorem dX3_gapOf_5 : decode cX3_gapOf 5 = .ok (.iconst 0, 1) := by decide +kernel
theorem dX3_gapOf_6 : decode cX3_gapOf 6 = .ok (.istore 4, 2) := by decide +kernel
theorem dX3_gapOf_8 : decode cX3_gapOf 8 = .ok (.iload 4, 2) := by decide +kernel
theorem dX3_gapOf_10 : decode cX3_gapOf 10 = .ok (.iload_n 1, 1) := by decide +kernel
theorem dX3_gapOf_11 : decode cX3_gapOf 11 = .ok (.if_icmp .ge 36, 3) := by decide +kernel
theorem dX3_gapOf_14 : decode cX3_gapOf 14 = .ok (.iload_n 0, 1) := by decide +kernel
theorem dX3_gapOf_15 : decode cX3_gapOf 15 = .ok (.iload 4, 2) := by decide +kernel
theorem dX3_gapOf_17 : decode cX3_gapOf 17 = .ok (.bipush 8, 2) := by decide +kernel
theorem dX3_gapOf_19 : decode cX3_gapOf 19 = .ok (.imul, 1) := by decide +kernel
theorem dX3_gapOf_20 : decode cX3_gapOf 20 = .ok (.ishr, 1) := by decide +kernel
theorem dX3_gapOf_21 : decode cX3_gapOf 21 = .ok (.sipush 255, 3) := by decide +kernel
theorem dX3_gapOf_24 : decode cX3_gapOf 24 = .ok (.iand, 1) := by decide +kernel
theorem dX3_gapOf_25 : decode cX3_gapOf 25 = .ok (.istore 5, 2) := by decide +kernel
theorem dX3_gapOf_27 : decode cX3_gapOf 27 = .ok (.iload_n 2, 1) := by decide +kernel
theorem dX3_gapOf_28 : decode cX3_gapOf 28 = .ok (.iload 5, 2) := by decide +kernel
theorem dX3_gapOf_30 : decode cX3_gapOf 30 = .ok (.invokestatic 100, 3) := by decide +kernel
theorem dX3_gapOf_33 : decode cX3_gapOf 33 = .ok (.istore_n 2, 1) := by decide +kernel
theorem dX3_gapOf_34 : decode cX3_gapOf 34 = .ok (.iload_n 3, 1) := by decide +kernel
theorem dX3_gapOf_35 : decode cX3_gapOf 35 = .ok (.iload 5, 2) := by decide +kernel
theorem dX3_gapOf_37 : decode cX3_gapOf 37 = .ok (.invokestatic 73, 3) := by decide +kernel
theorem dX3_gapOf_40 : decode cX3_gapOf 40 = .ok (.istore_n 3, 1) := by decide +kernel
theorem dX3_gapOf_41 : decode cX3_gapOf 41 = .ok (.iinc 4 1, 3) := by decide +kernel
theorem dX3_gapOf_44 : decode cX3_gapOf 44 = .ok (.goto (-36), 3) := by decide +kernel
theorem dX3_gapOf_47 : decode cX3_gapOf 47 = .ok (.iload_n 3, 1) := by decide +kernel
theorem dX3_gapOf_48 : decode cX3_gapOf 48 = .ok (.ifCond .ne 8, 3) := by decide +kernel
theorem dX3_gapOf_51 : decode cX3_gapOf 51 = .ok (.ldc 99, 2) := by decide +kernel
theorem dX3_gapOf_53 : decode cX3_gapOf 53 = .ok (.goto 6, 3) := by decide +kernel
theorem dX3_gapOf_56 : decode cX3_gapOf 56 = .ok (.iload_n 2, 1) := by decide +kernel
theorem dX3_gapOf_57 : decode cX3_gapOf 57 = .ok (.iload_n 3, 1) := by decide +kernel
theorem dX3_gapOf_58 : decode cX3_gapOf 58 = .ok (.isub, 1) := by decide +kernel
theorem dX3_gapOf_59 : decode cX3_gapOf 59 = .ok (.ireturn, 1) := by decide +kernel
theorem dX3_widen_0 : decode cX3_widen 0 = .ok (.iload_n 2, 1) := by decide +kernel
theorem dX3_widen_1 : decode cX3_widen 1 = .ok (.iconst 1, 1) := by decide +kernel
theorem dX3_widen_2 : decode cX3_widen 2 = .ok (.isub, 1) := by decide +kernel
theorem dX3_widen_3 : decode cX3_widen 3 = .ok (.istore 4, 2) := by decide +kernel
theorem dX3_widen_5 : decode cX3_widen 5 = .ok (.iload 4, 2) := by decide +kernel
theorem dX3_widen_7 : decode cX3_widen 7 = .ok (.ifCond .lt 50, 3) := by decide +kernel
theorem dX3_widen_10 : decode cX3_widen 10 = .ok (.aload_n 1, 1) := by decide +kernel
theorem dX3_widen_11 : decode cX3_widen 11 = .ok (.iload 4, 2) := by decide +kernel
theorem dX3_widen_13 : decode cX3_widen 13 = .ok (.iaload, 1) := by decide +kernel
theorem dX3_widen_14 : decode cX3_widen 14 = .ok (.istore 5, 2) := by decide +kernel
theorem dX3_widen_16 : decode cX3_widen 16 = .ok (.iload_n 3, 1) := by decide +kernel
theorem dX3_widen_17 : decode cX3_widen 17 = .ok (.iconst 1, 1) := by decide +kernel
theorem dX3_widen_18 : decode cX3_widen 18 = .ok (.isub, 1) := by decide +kernel
theorem dX3_widen_19 : decode cX3_widen 19 = .ok (.istore 6, 2) := by decide +kernel
theorem dX3_widen_21 : decode cX3_widen 21 = .ok (.iload 6, 2) := by decide +kernel
theorem dX3_widen_23 : decode cX3_widen 23 = .ok (.ifCond .lt 28, 3) := by decide +kernel
theorem dX3_widen_26 : decode cX3_widen 26 = .ok (.aload_n 1, 1) := by decide +kernel
theorem dX3_widen_27 : decode cX3_widen 27 = .ok (.iload 4, 2) := by decide +kernel
theorem dX3_widen_29 : decode cX3_widen 29 = .ok (.iload_n 3, 1) := by decide +kernel
theorem dX3_widen_30 : decode cX3_widen 30 = .ok (.imul, 1) := by decide +kernel
theorem dX3_widen_31 : decode cX3_widen 31 = .ok (.iload 6, 2) := by decide +kernel
theorem dX3_widen_33 : decode cX3_widen 33 = .ok (.iadd, 1) := by decide +kernel
theorem dX3_widen_34 : decode cX3_widen 34 = .ok (.iload 5, 2) := by decide +kernel
theorem dX3_widen_36 : decode cX3_widen 36 = .ok (.aload_n 0, 1) := by decide +kernel
theorem dX3_widen_37 : decode cX3_widen 37 = .ok (.getfield 44, 3) := by decide +kernel
theorem dX3_widen_40 : decode cX3_widen 40 = .ok (.iload 6, 2) := by decide +kernel
theorem dX3_widen_42 : decode cX3_widen 42 = .ok (.iaload, 1) := by decide +kernel
theorem dX3_widen_43 : decode cX3_widen 43 = .ok (.iadd, 1) := by decide +kernel
theorem dX3_widen_44 : decode cX3_widen 44 = .ok (.iastore, 1) := by decide +kernel
theorem dX3_widen_45 : decode cX3_widen 45 = .ok (.iinc 6 (-1), 3) := by decide +kernel
theorem dX3_widen_48 : decode cX3_widen 48 = .ok (.goto (-27), 3) := by decide +kernel
theorem dX3_widen_51 : decode cX3_widen 51 = .ok (.iinc 4 (-1), 3) := by decide +kernel
theorem dX3_widen_54 : decode cX3_widen 54 = .ok (.goto (-49), 3) := by decide +kernel
theorem dX3_widen_57 : decode cX3_widen 57 = .ok (.iload_n 2, 1) := by decide +kernel
theorem dX3_widen_58 : decode cX3_widen 58 = .ok (.iload_n 3, 1) := by decide +kernel
theorem dX3_widen_59 : decode cX3_widen 59 = .ok (.imul, 1) := by decide +kernel
theorem dX3_widen_60 : decode cX3_widen 60 = .ok (.ireturn, 1) := by decide +kernel
theorem dX3_way_0 : decode cX3_way 0 = .ok (.iload_n 3, 1) := by decide +kernel
theorem dX3_way_1 : decode cX3_way 1 = .ok (.ifCond .eq 8, 3) := by decide +kernel
theorem dX3_way_4 : decode cX3_way 4 = .ok (.iload 5, 2) := by decide +kernel
theorem dX3_way_6 : decode cX3_way 6 = .ok (.ifCond .ne 21, 3) := by decide +kernel
theorem dX3_way_9 : decode cX3_way 9 = .ok (.iload_n 3, 1) := by decide +kernel
theorem dX3_way_10 : decode cX3_way 10 = .ok (.iload 5, 2) := by decide +kernel
theorem dX3_way_12 : decode cX3_way 12 = .ok (.if_icmp .ne 7, 3) := by decide +kernel
theorem dX3_way_15 : decode cX3_way 15 = .ok (.iconst 0, 1) := by decide +kernel
theorem dX3_way_16 : decode cX3_way 16 = .ok (.goto 10, 3) := by decide +kernel
theorem dX3_way_19 : decode cX3_way 19 = .ok (.aload_n 0, 1) := by decide +kernel
theorem dX3_way_20 : decode cX3_way 20 = .ok (.getfield 21, 3) := by decide +kernel
theorem dX3_way_23 : decode cX3_way 23 = .ok (.getfield 103, 3) := by decide +kernel
theorem dX3_way_26 : decode cX3_way 26 = .ok (.ireturn, 1) := by decide +kernel
theorem dX3_way_27 : decode cX3_way 27 = .ok (.aload_n 0, 1) := by decide +kernel
theorem dX3_way_28 : decode cX3_way 28 = .ok (.getfield 21, 3) := by decide +kernel
theorem dX3_way_31 : decode cX3_way 31 = .ok (.iload_n 2, 1) := by decide +kernel
theorem dX3_way_32 : decode cX3_way 32 = .ok (.iload_n 3, 1) := by decide +kernel
theorem dX3_way_33 : decode cX3_way 33 = .ok (.invokevirtual 106, 3) := by decide +kernel
theorem dX3_way_36 : decode cX3_way 36 = .ok (.aload_n 0, 1) := by decide +kernel
theorem dX3_way_37 : decode cX3_way 37 = .ok (.getfield 21, 3) := by decide +kernel
theorem dX3_way_40 : decode cX3_way 40 = .ok (.iload 4, 2) := by decide +kernel
theorem dX3_way_42 : decode cX3_way 42 = .ok (.iload 5, 2) := by decide +kernel
theorem dX3_way_44 : decode cX3_way 44 = .ok (.invokevirtual 106, 3) := by decide +kernel
theorem dX3_way_47 : decode cX3_way 47 = .ok (.isub, 1) := by decide +kernel
theorem dX3_way_48 : decode cX3_way 48 = .ok (.invokestatic 109, 3) := by decide +kernel
theorem dX3_way_51 : decode cX3_way 51 = .ok (.istore 6, 2) := by decide +kernel
theorem dX3_way_53 : decode cX3_way 53 = .ok (.iload 6, 2) := by decide +kernel
theorem dX3_way_55 : decode cX3_way 55 = .ok (.ifCond .ne 19, 3) := by decide +kernel
theorem dX3_way_58 : decode cX3_way 58 = .ok (.aload_n 0, 1) := by decide +kernel
theorem dX3_way_59 : decode cX3_way 59 = .ok (.getfield 12, 3) := by decide +kernel
theorem dX3_way_62 : decode cX3_way 62 = .ok (.getfield 112, 3) := by decide +kernel
theorem dX3_way_65 : decode cX3_way 65 = .ok (.iload_n 1, 1) := by decide +kernel
theorem dX3_way_66 : decode cX3_way 66 = .ok (.iaload, 1) := by decide +kernel
theorem dX3_way_67 : decode cX3_way 67 = .ok (.iconst 2, 1) := by decide +kernel
theorem dX3_way_68 : decode cX3_way 68 = .ok (.if_icmp .ne 6, 3) := by decide +kernel
theorem dX3_way_71 : decode cX3_way 71 = .ok (.ldc 99, 2) := by decide +kernel
theorem dX3_way_73 : decode cX3_way 73 = .ok (.ireturn, 1) := by decide +kernel
theorem dX3_way_74 : decode cX3_way 74 = .ok (.iload_n 3, 1) := by decide +kernel
theorem dX3_way_75 : decode cX3_way 75 = .ok (.invokestatic 115, 3) := by decide +kernel
theorem dX3_way_78 : decode cX3_way 78 = .ok (.iload 5, 2) := by decide +kernel
theorem dX3_way_80 : decode cX3_way 80 = .ok (.invokestatic 115, 3) := by decide +kernel
theorem dX3_way_83 : decode cX3_way 83 = .ok (.if_icmp .ne 8, 3) := by decide +kernel
theorem dX3_way_86 : decode cX3_way 86 = .ok (.iload 6, 2) := by decide +kernel
theorem dX3_way_88 : decode cX3_way 88 = .ok (.goto 7, 3) := by decide +kernel
theorem dX3_way_91 : decode cX3_way 91 = .ok (.iload 6, 2) := by decide +kernel
theorem dX3_way_93 : decode cX3_way 93 = .ok (.iconst 2, 1) := by decide +kernel
theorem dX3_way_94 : decode cX3_way 94 = .ok (.iadd, 1) := by decide +kernel
theorem dX3_way_95 : decode cX3_way 95 = .ok (.ireturn, 1) := by decide +kernel
theorem dX3_carry_0 : decode cX3_carry 0 = .ok (.iconst 3, 1) := by decide +kernel
theorem dX3_carry_1 : decode cX3_carry 1 = .ok (.istore 4, 2) := by decide +kernel
theorem dX3_carry_3 : decode cX3_carry 3 = .ok (.iload 4, 2) := by decide +kernel
theorem dX3_carry_5 : decode cX3_carry 5 = .ok (.ifCond .lt 92, 3) := by decide +kernel
theorem dX3_carry_8 : decode cX3_carry 8 = .ok (.iconst 1, 1) := by decide +kernel
theorem dX3_carry_9 : decode cX3_carry 9 = .ok (.istore 5, 2) := by decide +kernel
theorem dX3_carry_11 : decode cX3_carry 11 = .ok (.iconst 0, 1) := by decide +kernel
theorem dX3_carry_12 : decode cX3_carry 12 = .ok (.istore 6, 2) := by decide +kernel
theorem dX3_carry_14 : decode cX3_carry 14 = .ok (.iload 6, 2) := by decide +kernel
theorem dX3_carry_16 : decode cX3_carry 16 = .ok (.iconst 4, 1) := by decide +kernel
theorem dX3_carry_17 : decode cX3_carry 17 = .ok (.if_icmp .ge 43, 3) := by decide +kernel
theorem dX3_carry_20 : decode cX3_carry 20 = .ok (.iload 6, 2) := by decide +kernel
theorem dX3_carry_22 : decode cX3_carry 22 = .ok (.iload 4, 2) := by decide +kernel
theorem dX3_carry_24 : decode cX3_carry 24 = .ok (.if_icmp .eq 30, 3) := by decide +kernel
theorem dX3_carry_27 : decode cX3_carry 27 = .ok (.iload 5, 2) := by decide +kernel
theorem dX3_carry_29 : decode cX3_carry 29 = .ok (.aload_n 0, 1) := by decide +kernel
theorem dX3_carry_30 : decode cX3_carry 30 = .ok (.getfield 34, 3) := by decide +kernel
theorem dX3_carry_33 : decode cX3_carry 33 = .ok (.iload 6, 2) := by decide +kernel
theorem dX3_carry_35 : decode cX3_carry 35 = .ok (.iload 4, 2) := by decide +kernel
theorem dX3_carry_37 : decode cX3_carry 37 = .ok (.if_icmp .ge 7, 3) := by decide +kernel
theorem dX3_carry_40 : decode cX3_carry 40 = .ok (.iload_n 1, 1) := by decide +kernel
theorem dX3_carry_41 : decode cX3_carry 41 = .ok (.goto 4, 3) := by decide +kernel
theorem dX3_carry_44 : decode cX3_carry 44 = .ok (.iload_n 2, 1) := by decide +kernel
theorem dX3_carry_45 : decode cX3_carry 45 = .ok (.iconst 4, 1) := by decide +kernel
theorem dX3_carry_46 : decode cX3_carry 46 = .ok (.imul, 1) := by decide +kernel
theorem dX3_carry_47 : decode cX3_carry 47 = .ok (.iload 6, 2) := by decide +kernel
theorem dX3_carry_49 : decode cX3_carry 49 = .ok (.iadd, 1) := by decide +kernel
theorem dX3_carry_50 : decode cX3_carry 50 = .ok (.iaload, 1) := by decide +kernel
theorem dX3_carry_51 : decode cX3_carry 51 = .ok (.imul, 1) := by decide +kernel
theorem dX3_carry_52 : decode cX3_carry 52 = .ok (.istore 5, 2) := by decide +kernel
theorem dX3_carry_54 : decode cX3_carry 54 = .ok (.iinc 6 1, 3) := by decide +kernel
theorem dX3_carry_57 : decode cX3_carry 57 = .ok (.goto (-43), 3) := by decide +kernel
theorem dX3_carry_60 : decode cX3_carry 60 = .ok (.aload_n 0, 1) := by decide +kernel
theorem dX3_carry_61 : decode cX3_carry 61 = .ok (.iload 4, 2) := by decide +kernel
theorem dX3_carry_63 : decode cX3_carry 63 = .ok (.iload_n 1, 1) := by decide +kernel
theorem dX3_carry_64 : decode cX3_carry 64 = .ok (.iload_n 2, 1) := by decide +kernel
theorem dX3_carry_65 : decode cX3_carry 65 = .ok (.iload 5, 2) := by decide +kernel
theorem dX3_carry_67 : decode cX3_carry 67 = .ok (.iload_n 3, 1) := by decide +kernel
theorem dX3_carry_68 : decode cX3_carry 68 = .ok (.invokevirtual 120, 3) := by decide +kernel
theorem dX3_carry_71 : decode cX3_carry 71 = .ok (.aload_n 0, 1) := by decide +kernel
theorem dX3_carry_72 : decode cX3_carry 72 = .ok (.getfield 50, 3) := by decide +kernel
theorem dX3_carry_75 : decode cX3_carry 75 = .ok (.astore 6, 2) := by decide +kernel
theorem dX3_carry_77 : decode cX3_carry 77 = .ok (.aload_n 0, 1) := by decide +kernel
theorem dX3_carry_78 : decode cX3_carry 78 = .ok (.aload_n 0, 1) := by decide +kernel
theorem dX3_carry_79 : decode cX3_carry 79 = .ok (.getfield 47, 3) := by decide +kernel
theorem dX3_carry_82 : decode cX3_carry 82 = .ok (.putfield 50, 3) := by decide +kernel
theorem dX3_carry_85 : decode cX3_carry 85 = .ok (.aload_n 0, 1) := by decide +kernel
theorem dX3_carry_86 : decode cX3_carry 86 = .ok (.aload 6, 2) := by decide +kernel
theorem dX3_carry_88 : decode cX3_carry 88 = .ok (.putfield 47, 3) := by decide +kernel
theorem dX3_carry_91 : decode cX3_carry 91 = .ok (.iinc 4 (-1), 3) := by decide +kernel
theorem dX3_carry_94 : decode cX3_carry 94 = .ok (.goto (-91), 3) := by decide +kernel
theorem dX3_carry_97 : decode cX3_carry 97 = .ok (.return_, 1) := by decide +kernel
theorem dX3_carryPlayer_0 : decode cX3_carryPlayer 0 = .ok (.aload_n 0, 1) := by decide +kernel
theorem dX3_carryPlayer_1 : decode cX3_carryPlayer 1 = .ok (.getfield 31, 3) := by decide +kernel
theorem dX3_carryPlayer_4 : decode cX3_carryPlayer 4 = .ok (.iload_n 2, 1) := by decide +kernel
theorem dX3_carryPlayer_5 : decode cX3_carryPlayer 5 = .ok (.iconst 4, 1) := by decide +kernel
theorem dX3_carryPlayer_6 : decode cX3_carryPlayer 6 = .ok (.imul, 1) := by decide +kernel
theorem dX3_carryPlayer_7 : decode cX3_carryPlayer 7 = .ok (.iload_n 1, 1) := by decide +kernel
theorem dX3_carryPlayer_8 : decode cX3_carryPlayer 8 = .ok (.iadd, 1) := by decide +kernel
theorem dX3_carryPlayer_9 : decode cX3_carryPlayer 9 = .ok (.aaload, 1) := by decide +kernel
theorem dX3_carryPlayer_10 : decode cX3_carryPlayer 10 = .ok (.astore 6, 2) := by decide +kernel
theorem dX3_carryPlayer_12 : decode cX3_carryPlayer 12 = .ok (.aload_n 0, 1) := by decide +kernel
theorem dX3_carryPlayer_13 : decode cX3_carryPlayer 13 = .ok (.getfield 31, 3) := by decide +kernel
theorem dX3_carryPlayer_16 : decode cX3_carryPlayer 16 = .ok (.iload_n 3, 1) := by decide +kernel
theorem dX3_carryPlayer_17 : decode cX3_carryPlayer 17 = .ok (.iconst 4, 1) := by decide +kernel
theorem dX3_carryPlayer_18 : decode cX3_carryPlayer 18 = .ok (.imul, 1) := by decide +kernel
theorem dX3_carryPlayer_19 : decode cX3_carryPlayer 19 = .ok (.iload_n 1, 1) := by decide +kernel
theorem dX3_carryPlayer_20 : decode cX3_carryPlayer 20 = .ok (.iadd, 1) := by decide +kernel
theorem dX3_carryPlayer_21 : decode cX3_carryPlayer 21 = .ok (.aaload, 1) := by decide +kernel
theorem dX3_carryPlayer_22 : decode cX3_carryPlayer 22 = .ok (.astore 7, 2) := by decide +kernel
theorem dX3_carryPlayer_24 : decode cX3_carryPlayer 24 = .ok (.aload_n 0, 1) := by decide +kernel
theorem dX3_carryPlayer_25 : decode cX3_carryPlayer 25 = .ok (.getfield 34, 3) := by decide +kernel
theorem dX3_carryPlayer_28 : decode cX3_carryPlayer 28 = .ok (.iload_n 2, 1) := by decide +kernel
theorem dX3_carryPlayer_29 : decode cX3_carryPlayer 29 = .ok (.iconst 4, 1) := by decide +kernel
theorem dX3_carryPlayer_30 : decode cX3_carryPlayer 30 = .ok (.imul, 1) := by decide +kernel
theorem dX3_carryPlayer_31 : decode cX3_carryPlayer 31 = .ok (.iload_n 1, 1) := by decide +kernel
theorem dX3_carryPlayer_32 : decode cX3_carryPlayer 32 = .ok (.iadd, 1) := by decide +kernel
theorem dX3_carryPlayer_33 : decode cX3_carryPlayer 33 = .ok (.iaload, 1) := by decide +kernel
theorem dX3_carryPlayer_34 : decode cX3_carryPlayer 34 = .ok (.istore 8, 2) := by decide +kernel
theorem dX3_carryPlayer_36 : decode cX3_carryPlayer 36 = .ok (.aload_n 0, 1) := by decide +kernel
theorem dX3_carryPlayer_37 : decode cX3_carryPlayer 37 = .ok (.getfield 34, 3) := by decide +kernel
theorem dX3_carryPlayer_40 : decode cX3_carryPlayer 40 = .ok (.iload_n 3, 1) := by decide +kernel
theorem dX3_carryPlayer_41 : decode cX3_carryPlayer 41 = .ok (.iconst 4, 1) := by decide +kernel
theorem dX3_carryPlayer_42 : decode cX3_carryPlayer 42 = .ok (.imul, 1) := by decide +kernel
theorem dX3_carryPlayer_43 : decode cX3_carryPlayer 43 = .ok (.iload_n 1, 1) := by decide +kernel
theorem dX3_carryPlayer_44 : decode cX3_carryPlayer 44 = .ok (.iadd, 1) := by decide +kernel
theorem dX3_carryPlayer_45 : decode cX3_carryPlayer 45 = .ok (.iaload, 1) := by decide +kernel
theorem dX3_carryPlayer_46 : decode cX3_carryPlayer 46 = .ok (.istore 9, 2) := by decide +kernel
theorem dX3_carryPlayer_48 : decode cX3_carryPlayer 48 = .ok (.aload_n 0, 1) := by decide +kernel
theorem dX3_carryPlayer_49 : decode cX3_carryPlayer 49 = .ok (.getfield 50, 3) := by decide +kernel
theorem dX3_carryPlayer_52 : decode cX3_carryPlayer 52 = .ok (.iload 4, 2) := by decide +kernel
theorem dX3_carryPlayer_54 : decode cX3_carryPlayer 54 = .ok (.iload 9, 2) := by decide +kernel
theorem dX3_carryPlayer_56 : decode cX3_carryPlayer 56 = .ok (.imul, 1) := by decide +kernel
theorem dX3_carryPlayer_57 : decode cX3_carryPlayer 57 = .ok (.ldc 99, 2) := by decide +kernel
theorem dX3_carryPlayer_59 : decode cX3_carryPlayer 59 = .ok (.invokestatic 124, 3) := by decide +kernel
theorem dX3_carryPlayer_62 : decode cX3_carryPlayer 62 = .ok (.iconst 0, 1) := by decide +kernel
theorem dX3_carryPlayer_63 : decode cX3_carryPlayer 63 = .ok (.istore 10, 2) := by decide +kernel
theorem dX3_carryPlayer_65 : decode cX3_carryPlayer 65 = .ok (.iload 10, 2) := by decide +kernel
theorem dX3_carryPlayer_67 : decode cX3_carryPlayer 67 = .ok (.iload 9, 2) := by decide +kernel
theorem dX3_carryPlayer_69 : decode cX3_carryPlayer 69 = .ok (.if_icmp .ge 82, 3) := by decide +kernel
theorem dX3_carryPlayer_72 : decode cX3_carryPlayer 72 = .ok (.iconst 0, 1) := by decide +kernel
theorem dX3_carryPlayer_73 : decode cX3_carryPlayer 73 = .ok (.istore 11, 2) := by decide +kernel
theorem dX3_carryPlayer_75 : decode cX3_carryPlayer 75 = .ok (.iload 11, 2) := by decide +kernel
theorem dX3_carryPlayer_77 : decode cX3_carryPlayer 77 = .ok (.iload 8, 2) := by decide +kernel
theorem dX3_carryPlayer_79 : decode cX3_carryPlayer 79 = .ok (.if_icmp .ge 66, 3) := by decide +kernel
theorem dX3_carryPlayer_82 : decode cX3_carryPlayer 82 = .ok (.aload_n 0, 1) := by decide +kernel
theorem dX3_carryPlayer_83 : decode cX3_carryPlayer 83 = .ok (.iload_n 1, 1) := by decide +kernel
theorem dX3_carryPlayer_84 : decode cX3_carryPlayer 84 = .ok (.iload_n 2, 1) := by decide +kernel
theorem dX3_carryPlayer_85 : decode cX3_carryPlayer 85 = .ok (.aload 6, 2) := by decide +kernel
theorem dX3_carryPlayer_87 : decode cX3_carryPlayer 87 = .ok (.iload 11, 2) := by decide +kernel
theorem dX3_carryPlayer_89 : decode cX3_carryPlayer 89 = .ok (.iaload, 1) := by decide +kernel
theorem dX3_carryPlayer_90 : decode cX3_carryPlayer 90 = .ok (.iload_n 3, 1) := by decide +kernel
theorem dX3_carryPlayer_91 : decode cX3_carryPlayer 91 = .ok (.aload 7, 2) := by decide +kernel
theorem dX3_carryPlayer_93 : decode cX3_carryPlayer 93 = .ok (.iload 10, 2) := by decide +kernel
theorem dX3_carryPlayer_95 : decode cX3_carryPlayer 95 = .ok (.iaload, 1) := by decide +kernel
theorem dX3_carryPlayer_96 : decode cX3_carryPlayer 96 = .ok (.invokevirtual 128, 3) := by decide +kernel
theorem dX3_carryPlayer_99 : decode cX3_carryPlayer 99 = .ok (.istore 12, 2) := by decide +kernel
theorem dX3_carryPlayer_101 : decode cX3_carryPlayer 101 = .ok (.iload 12, 2) := by decide +kernel
theorem dX3_carryPlayer_103 : decode cX3_carryPlayer 103 = .ok (.ldc 99, 2) := by decide +kernel
theorem dX3_carryPlayer_105 : decode cX3_carryPlayer 105 = .ok (.if_icmp .ge 34, 3) := by decide +kernel
theorem dX3_carryPlayer_108 : decode cX3_carryPlayer 108 = .ok (.aload_n 0, 1) := by decide +kernel
theorem dX3_carryPlayer_109 : decode cX3_carryPlayer 109 = .ok (.iload 10, 2) := by decide +kernel
theorem dX3_carryPlayer_111 : decode cX3_carryPlayer 111 = .ok (.iload 4, 2) := by decide +kernel
theorem dX3_carryPlayer_113 : decode cX3_carryPlayer 113 = .ok (.imul, 1) := by decide +kernel
theorem dX3_carryPlayer_114 : decode cX3_carryPlayer 114 = .ok (.iload 10, 2) := by decide +kernel
theorem dX3_carryPlayer_116 : decode cX3_carryPlayer 116 = .ok (.iconst 1, 1) := by decide +kernel
theorem dX3_carryPlayer_117 : decode cX3_carryPlayer 117 = .ok (.iadd, 1) := by decide +kernel
theorem dX3_carryPlayer_118 : decode cX3_carryPlayer 118 = .ok (.iload 4, 2) := by decide +kernel
theorem dX3_carryPlayer_120 : decode cX3_carryPlayer 120 = .ok (.imul, 1) := by decide +kernel
theorem dX3_carryPlayer_121 : decode cX3_carryPlayer 121 = .ok (.iload 11, 2) := by decide +kernel
theorem dX3_carryPlayer_123 : decode cX3_carryPlayer 123 = .ok (.iload 8, 2) := by decide +kernel
theorem dX3_carryPlayer_125 : decode cX3_carryPlayer 125 = .ok (.iload 5, 2) := by decide +kernel
theorem dX3_carryPlayer_127 : decode cX3_carryPlayer 127 = .ok (.ifCond .eq 8, 3) := by decide +kernel
theorem dX3_carryPlayer_130 : decode cX3_carryPlayer 130 = .ok (.iload 12, 2) := by decide +kernel
theorem dX3_carryPlayer_132 : decode cX3_carryPlayer 132 = .ok (.goto 4, 3) := by decide +kernel
theorem dX3_carryPlayer_135 : decode cX3_carryPlayer 135 = .ok (.iconst 0, 1) := by decide +kernel
theorem dX3_carryPlayer_136 : decode cX3_carryPlayer 136 = .ok (.invokevirtual 132, 3) := by decide +kernel
theorem dX3_carryPlayer_139 : decode cX3_carryPlayer 139 = .ok (.iinc 11 1, 3) := by decide +kernel
theorem dX3_carryPlayer_142 : decode cX3_carryPlayer 142 = .ok (.goto (-67), 3) := by decide +kernel
theorem dX3_carryPlayer_145 : decode cX3_carryPlayer 145 = .ok (.iinc 10 1, 3) := by decide +kernel
theorem dX3_carryPlayer_148 : decode cX3_carryPlayer 148 = .ok (.goto (-83), 3) := by decide +kernel
theorem dX3_carryPlayer_151 : decode cX3_carryPlayer 151 = .ok (.return_, 1) := by decide +kernel
theorem dX3_lower_0 : decode cX3_lower 0 = .ok (.aload_n 0, 1) := by decide +kernel
theorem dX3_lower_1 : decode cX3_lower 1 = .ok (.getfield 47, 3) := by decide +kernel
theorem dX3_lower_4 : decode cX3_lower 4 = .ok (.astore 6, 2) := by decide +kernel
theorem dX3_lower_6 : decode cX3_lower 6 = .ok (.aload_n 0, 1) := by decide +kernel
theorem dX3_lower_7 : decode cX3_lower 7 = .ok (.getfield 50, 3) := by decide +kernel
theorem dX3_lower_10 : decode cX3_lower 10 = .ok (.astore 7, 2) := by decide +kernel
theorem dX3_lower_12 : decode cX3_lower 12 = .ok (.iload_n 3, 1) := by decide +kernel
theorem dX3_lower_13 : decode cX3_lower 13 = .ok (.istore 8, 2) := by decide +kernel
theorem dX3_lower_15 : decode cX3_lower 15 = .ok (.iload_n 1, 1) := by decide +kernel
theorem dX3_lower_16 : decode cX3_lower 16 = .ok (.istore 9, 2) := by decide +kernel
theorem dX3_lower_18 : decode cX3_lower 18 = .ok (.iload 9, 2) := by decide +kernel
theorem dX3_lower_20 : decode cX3_lower 20 = .ok (.iload_n 2, 1) := by decide +kernel
theorem dX3_lower_21 : decode cX3_lower 21 = .ok (.if_icmp .ge 43, 3) := by decide +kernel
theorem dX3_lower_24 : decode cX3_lower 24 = .ok (.aload 6, 2) := by decide +kernel
theorem dX3_lower_26 : decode cX3_lower 26 = .ok (.iload 8, 2) := by decide +kernel
theorem dX3_lower_28 : decode cX3_lower 28 = .ok (.iaload, 1) := by decide +kernel
theorem dX3_lower_29 : decode cX3_lower 29 = .ok (.iload 5, 2) := by decide +kernel
theorem dX3_lower_31 : decode cX3_lower 31 = .ok (.iadd, 1) := by decide +kernel
theorem dX3_lower_32 : decode cX3_lower 32 = .ok (.istore 10, 2) := by decide +kernel
theorem dX3_lower_34 : decode cX3_lower 34 = .ok (.iload 10, 2) := by decide +kernel
theorem dX3_lower_36 : decode cX3_lower 36 = .ok (.aload 7, 2) := by decide +kernel
theorem dX3_lower_38 : decode cX3_lower 38 = .ok (.iload 9, 2) := by decide +kernel
theorem dX3_lower_40 : decode cX3_lower 40 = .ok (.iaload, 1) := by decide +kernel
theorem dX3_lower_41 : decode cX3_lower 41 = .ok (.if_icmp .ge 10, 3) := by decide +kernel
theorem dX3_lower_44 : decode cX3_lower 44 = .ok (.aload 7, 2) := by decide +kernel
theorem dX3_lower_46 : decode cX3_lower 46 = .ok (.iload 9, 2) := by decide +kernel
theorem dX3_lower_48 : decode cX3_lower 48 = .ok (.iload 10, 2) := by decide +kernel
theorem dX3_lower_50 : decode cX3_lower 50 = .ok (.iastore, 1) := by decide +kernel
theorem dX3_lower_51 : decode cX3_lower 51 = .ok (.iload 8, 2) := by decide +kernel
theorem dX3_lower_53 : decode cX3_lower 53 = .ok (.iload 4, 2) := by decide +kernel
theorem dX3_lower_55 : decode cX3_lower 55 = .ok (.iadd, 1) := by decide +kernel
theorem dX3_lower_56 : decode cX3_lower 56 = .ok (.istore 8, 2) := by decide +kernel
theorem dX3_lower_58 : decode cX3_lower 58 = .ok (.iinc 9 1, 3) := by decide +kernel
theorem dX3_lower_61 : decode cX3_lower 61 = .ok (.goto (-43), 3) := by decide +kernel
theorem dX3_lower_64 : decode cX3_lower 64 = .ok (.return_, 1) := by decide +kernel
theorem dX3_fill_0 : decode cX3_fill 0 = .ok (.iconst 0, 1) := by decide +kernel
theorem dX3_fill_1 : decode cX3_fill 1 = .ok (.istore_n 3, 1) := by decide +kernel
theorem dX3_fill_2 : decode cX3_fill 2 = .ok (.iload_n 3, 1) := by decide +kernel
theorem dX3_fill_3 : decode cX3_fill 3 = .ok (.iload_n 1, 1) := by decide +kernel
theorem dX3_fill_4 : decode cX3_fill 4 = .ok (.if_icmp .ge 13, 3) := by decide +kernel
theorem dX3_fill_7 : decode cX3_fill 7 = .ok (.aload_n 0, 1) := by decide +kernel
theorem dX3_fill_8 : decode cX3_fill 8 = .ok (.iload_n 3, 1) := by decide +kernel
theorem dX3_fill_9 : decode cX3_fill 9 = .ok (.iload_n 2, 1) := by decide +kernel
theorem dX3_fill_10 : decode cX3_fill 10 = .ok (.iastore, 1) := by decide +kernel
theorem dX3_fill_11 : decode cX3_fill 11 = .ok (.iinc 3 1, 3) := by decide +kernel
theorem dX3_fill_14 : decode cX3_fill 14 = .ok (.goto (-12), 3) := by decide +kernel
theorem dX3_fill_17 : decode cX3_fill 17 = .ok (.return_, 1) := by decide +kernel
theorem dX3_measure_0 : decode cX3_measure 0 = .ok (.aload_n 0, 1) := by decide +kernel
theorem dX3_measure_1 : decode cX3_measure 1 = .ok (.getfield 53, 3) := by decide +kernel
theorem dX3_measure_4 : decode cX3_measure 4 = .ok (.iconst 0, 1) := by decide +kernel
theorem dX3_measure_5 : decode cX3_measure 5 = .ok (.iconst 0, 1) := by decide +kernel
theorem dX3_measure_6 : decode cX3_measure 6 = .ok (.iastore, 1) := by decide +kernel
theorem dX3_measure_7 : decode cX3_measure 7 = .ok (.iconst 0, 1) := by decide +kernel
theorem dX3_measure_8 : decode cX3_measure 8 = .ok (.istore_n 2, 1) := by decide +kernel
theorem dX3_measure_9 : decode cX3_measure 9 = .ok (.iload_n 2, 1) := by decide +kernel
theorem dX3_measure_10 : decode cX3_measure 10 = .ok (.aload_n 0, 1) := by decide +kernel
theorem dX3_measure_11 : decode cX3_measure 11 = .ok (.getfield 21, 3) := by decide +kernel
theorem dX3_measure_14 : decode cX3_measure 14 = .ok (.getfield 136, 3) := by decide +kernel
theorem dX3_measure_17 : decode cX3_measure 17 = .ok (.if_icmp .ge 113, 3) := by decide +kernel
theorem dX3_measure_20 : decode cX3_measure 20 = .ok (.aload_n 0, 1) := by decide +kernel
theorem dX3_measure_21 : decode cX3_measure 21 = .ok (.iload_n 2, 1) := by decide +kernel
theorem dX3_measure_22 : decode cX3_measure 22 = .ok (.iload_n 1, 1) := by decide +kernel
theorem dX3_measure_23 : decode cX3_measure 23 = .ok (.invokevirtual 59, 3) := by decide +kernel
theorem dX3_measure_26 : decode cX3_measure 26 = .ok (.aload_n 0, 1) := by decide +kernel
theorem dX3_measure_27 : decode cX3_measure 27 = .ok (.iload_n 2, 1) := by decide +kernel
theorem dX3_measure_28 : decode cX3_measure 28 = .ok (.invokevirtual 63, 3) := by decide +kernel
theorem dX3_measure_31 : decode cX3_measure 31 = .ok (.istore_n 3, 1) := by decide +kernel
theorem dX3_measure_32 : decode cX3_measure 32 = .ok (.iload_n 2, 1) := by decide +kernel
theorem dX3_measure_33 : decode cX3_measure 33 = .ok (.ifCond .ne 15, 3) := by decide +kernel
theorem dX3_measure_36 : decode cX3_measure 36 = .ok (.aload_n 0, 1) := by decide +kernel
theorem dX3_measure_37 : decode cX3_measure 37 = .ok (.getfield 47, 3) := by decide +kernel
theorem dX3_measure_40 : decode cX3_measure 40 = .ok (.iload_n 3, 1) := by decide +kernel
theorem dX3_measure_41 : decode cX3_measure 41 = .ok (.iconst 0, 1) := by decide +kernel
theorem dX3_measure_42 : decode cX3_measure 42 = .ok (.invokestatic 124, 3) := by decide +kernel
theorem dX3_measure_45 : decode cX3_measure 45 = .ok (.goto 12, 3) := by decide +kernel
theorem dX3_measure_48 : decode cX3_measure 48 = .ok (.aload_n 0, 1) := by decide +kernel
theorem dX3_measure_49 : decode cX3_measure 49 = .ok (.iload_n 2, 1) := by decide +kernel
theorem dX3_measure_50 : decode cX3_measure 50 = .ok (.iconst 1, 1) := by decide +kernel
theorem dX3_measure_51 : decode cX3_measure 51 = .ok (.isub, 1) := by decide +kernel
theorem dX3_measure_52 : decode cX3_measure 52 = .ok (.iload_n 2, 1) := by decide +kernel
theorem dX3_measure_53 : decode cX3_measure 53 = .ok (.iconst 0, 1) := by decide +kernel
theorem dX3_measure_54 : decode cX3_measure 54 = .ok (.invokevirtual 137, 3) := by decide +kernel
theorem dX3_measure_57 : decode cX3_measure 57 = .ok (.ldc 99, 2) := by decide +kernel
theorem dX3_measure_59 : decode cX3_measure 59 = .ok (.istore 4, 2) := by decide +kernel
theorem dX3_measure_61 : decode cX3_measure 61 = .ok (.iconst 0, 1) := by decide +kernel
theorem dX3_measure_62 : decode cX3_measure 62 = .ok (.istore 5, 2) := by decide +kernel
theorem dX3_measure_64 : decode cX3_measure 64 = .ok (.iload 5, 2) := by decide +kernel
theorem dX3_measure_66 : decode cX3_measure 66 = .ok (.iload_n 3, 1) := by decide +kernel
theorem dX3_measure_67 : decode cX3_measure 67 = .ok (.if_icmp .ge 47, 3) := by decide +kernel
theorem dX3_measure_70 : decode cX3_measure 70 = .ok (.aload_n 0, 1) := by decide +kernel
theorem dX3_measure_71 : decode cX3_measure 71 = .ok (.getfield 47, 3) := by decide +kernel
theorem dX3_measure_74 : decode cX3_measure 74 = .ok (.iload 5, 2) := by decide +kernel
theorem dX3_measure_76 : decode cX3_measure 76 = .ok (.aload_n 0, 1) := by decide +kernel
theorem dX3_measure_77 : decode cX3_measure 77 = .ok (.getfield 47, 3) := by decide +kernel
theorem dX3_measure_80 : decode cX3_measure 80 = .ok (.iload 5, 2) := by decide +kernel
theorem dX3_measure_82 : decode cX3_measure 82 = .ok (.iaload, 1) := by decide +kernel
theorem dX3_measure_83 : decode cX3_measure 83 = .ok (.aload_n 0, 1) := by decide +kernel
theorem dX3_measure_84 : decode cX3_measure 84 = .ok (.getfield 41, 3) := by decide +kernel
theorem dX3_measure_87 : decode cX3_measure 87 = .ok (.iload 5, 2) := by decide +kernel
theorem dX3_measure_89 : decode cX3_measure 89 = .ok (.iaload, 1) := by decide +kernel
theorem dX3_measure_90 : decode cX3_measure 90 = .ok (.invokestatic 100, 3) := by decide +kernel
theorem dX3_measure_93 : decode cX3_measure 93 = .ok (.iastore, 1) := by decide +kernel
theorem dX3_measure_94 : decode cX3_measure 94 = .ok (.iload 4, 2) := by decide +kernel
theorem dX3_measure_96 : decode cX3_measure 96 = .ok (.aload_n 0, 1) := by decide +kernel
theorem dX3_measure_97 : decode cX3_measure 97 = .ok (.getfield 47, 3) := by decide +kernel
theorem dX3_measure_100 : decode cX3_measure 100 = .ok (.iload 5, 2) := by decide +kernel
theorem dX3_measure_102 : decode cX3_measure 102 = .ok (.iaload, 1) := by decide +kernel
theorem dX3_measure_103 : decode cX3_measure 103 = .ok (.invokestatic 73, 3) := by decide +kernel
theorem dX3_measure_106 : decode cX3_measure 106 = .ok (.istore 4, 2) := by decide +kernel
theorem dX3_measure_108 : decode cX3_measure 108 = .ok (.iinc 5 1, 3) := by decide +kernel
theorem dX3_measure_111 : decode cX3_measure 111 = .ok (.goto (-47), 3) := by decide +kernel
theorem dX3_measure_114 : decode cX3_measure 114 = .ok (.aload_n 0, 1) := by decide +kernel
theorem dX3_measure_115 : decode cX3_measure 115 = .ok (.getfield 53, 3) := by decide +kernel
theorem dX3_measure_118 : decode cX3_measure 118 = .ok (.iload_n 2, 1) := by decide +kernel
theorem dX3_measure_119 : decode cX3_measure 119 = .ok (.iconst 1, 1) := by decide +kernel
theorem dX3_measure_120 : decode cX3_measure 120 = .ok (.iadd, 1) := by decide +kernel
theorem dX3_measure_121 : decode cX3_measure 121 = .ok (.iload 4, 2) := by decide +kernel
theorem dX3_measure_123 : decode cX3_measure 123 = .ok (.iastore, 1) := by decide +kernel
theorem dX3_measure_124 : decode cX3_measure 124 = .ok (.iinc 2 1, 3) := by decide +kernel
theorem dX3_measure_127 : decode cX3_measure 127 = .ok (.goto (-118), 3) := by decide +kernel
theorem dX3_measure_130 : decode cX3_measure 130 = .ok (.return_, 1) := by decide +kernel
theorem dX3_needed_0 : decode cX3_needed 0 = .ok (.iload_n 1, 1) := by decide +kernel
theorem dX3_needed_1 : decode cX3_needed 1 = .ok (.ifCond .lt 23, 3) := by decide +kernel
theorem dX3_needed_4 : decode cX3_needed 4 = .ok (.iload_n 1, 1) := by decide +kernel
theorem dX3_needed_5 : decode cX3_needed 5 = .ok (.aload_n 0, 1) := by decide +kernel
theorem dX3_needed_6 : decode cX3_needed 6 = .ok (.getfield 21, 3) := by decide +kernel
theorem dX3_needed_9 : decode cX3_needed 9 = .ok (.getfield 136, 3) := by decide +kernel
theorem dX3_needed_12 : decode cX3_needed 12 = .ok (.if_icmp .gt 12, 3) := by decide +kernel
theorem dX3_needed_15 : decode cX3_needed 15 = .ok (.aload_n 0, 1) := by decide +kernel
theorem dX3_needed_16 : decode cX3_needed 16 = .ok (.getfield 53, 3) := by decide +kernel
theorem dX3_needed_19 : decode cX3_needed 19 = .ok (.iload_n 1, 1) := by decide +kernel
theorem dX3_needed_20 : decode cX3_needed 20 = .ok (.iaload, 1) := by decide +kernel
theorem dX3_needed_21 : decode cX3_needed 21 = .ok (.goto 5, 3) := by decide +kernel
theorem dX3_needed_24 : decode cX3_needed 24 = .ok (.ldc 99, 2) := by decide +kernel
theorem dX3_needed_26 : decode cX3_needed 26 = .ok (.ireturn, 1) := by decide +kernel
theorem dX3_solve_0 : decode cX3_solve 0 = .ok (.aload_n 0, 1) := by decide +kernel
theorem dX3_solve_1 : decode cX3_solve 1 = .ok (.invokevirtual 141, 3) := by decide +kernel
theorem dX3_solve_4 : decode cX3_solve 4 = .ok (.aload_n 0, 1) := by decide +kernel
theorem dX3_solve_5 : decode cX3_solve 5 = .ok (.iconst 0, 1) := by decide +kernel
theorem dX3_solve_6 : decode cX3_solve 6 = .ok (.putfield 25, 3) := by decide +kernel
theorem dX3_solve_9 : decode cX3_solve 9 = .ok (.iconst 0, 1) := by decide +kernel
theorem dX3_solve_10 : decode cX3_solve 10 = .ok (.istore_n 1, 1) := by decide +kernel
theorem dX3_solve_11 : decode cX3_solve 11 = .ok (.iload_n 1, 1) := by decide +kernel
theorem dX3_solve_12 : decode cX3_solve 12 = .ok (.aload_n 0, 1) := by decide +kernel
theorem dX3_solve_13 : decode cX3_solve 13 = .ok (.getfield 21, 3) := by decide +kernel
theorem dX3_solve_16 : decode cX3_solve 16 = .ok (.getfield 136, 3) := by decide +kernel
theorem dX3_solve_19 : decode cX3_solve 19 = .ok (.if_icmp .ge 47, 3) := by decide +kernel
theorem dX3_solve_22 : decode cX3_solve 22 = .ok (.aload_n 0, 1) := by decide +kernel
theorem dX3_solve_23 : decode cX3_solve 23 = .ok (.iload_n 1, 1) := by decide +kernel
theorem dX3_solve_24 : decode cX3_solve 24 = .ok (.invokevirtual 144, 3) := by decide +kernel
theorem dX3_solve_27 : decode cX3_solve 27 = .ok (.istore_n 2, 1) := by decide +kernel
theorem dX3_solve_28 : decode cX3_solve 28 = .ok (.iload_n 1, 1) := by decide +kernel
theorem dX3_solve_29 : decode cX3_solve 29 = .ok (.ifCond .ne 15, 3) := by decide +kernel
theorem dX3_solve_32 : decode cX3_solve 32 = .ok (.aload_n 0, 1) := by decide +kernel
theorem dX3_solve_33 : decode cX3_solve 33 = .ok (.aload_n 0, 1) := by decide +kernel
theorem dX3_solve_34 : decode cX3_solve 34 = .ok (.getfield 38, 3) := by decide +kernel
theorem dX3_solve_37 : decode cX3_solve 37 = .ok (.iconst 0, 1) := by decide +kernel
theorem dX3_solve_38 : decode cX3_solve 38 = .ok (.aaload, 1) := by decide +kernel
theorem dX3_solve_39 : decode cX3_solve 39 = .ok (.iload_n 2, 1) := by decide +kernel
theorem dX3_solve_40 : decode cX3_solve 40 = .ok (.iaload, 1) := by decide +kernel
theorem dX3_solve_41 : decode cX3_solve 41 = .ok (.putfield 25, 3) := by decide +kernel
theorem dX3_solve_44 : decode cX3_solve 44 = .ok (.aload_n 0, 1) := by decide +kernel
theorem dX3_solve_45 : decode cX3_solve 45 = .ok (.getfield 25, 3) := by decide +kernel
theorem dX3_solve_48 : decode cX3_solve 48 = .ok (.ldc 99, 2) := by decide +kernel
theorem dX3_solve_50 : decode cX3_solve 50 = .ok (.if_icmp .lt 4, 3) := by decide +kernel
theorem dX3_solve_53 : decode cX3_solve 53 = .ok (.return_, 1) := by decide +kernel
theorem dX3_solve_54 : decode cX3_solve 54 = .ok (.aload_n 0, 1) := by decide +kernel
theorem dX3_solve_55 : decode cX3_solve 55 = .ok (.iload_n 1, 1) := by decide +kernel
theorem dX3_solve_56 : decode cX3_solve 56 = .ok (.iload_n 2, 1) := by decide +kernel
theorem dX3_solve_57 : decode cX3_solve 57 = .ok (.invokevirtual 147, 3) := by decide +kernel
theorem dX3_solve_60 : decode cX3_solve 60 = .ok (.iinc 1 1, 3) := by decide +kernel
theorem dX3_solve_63 : decode cX3_solve 63 = .ok (.goto (-52), 3) := by decide +kernel
theorem dX3_solve_66 : decode cX3_solve 66 = .ok (.return_, 1) := by decide +kernel
theorem dX3_findCosts_0 : decode cX3_findCosts 0 = .ok (.aload_n 0, 1) := by decide +kernel
theorem dX3_findCosts_1 : decode cX3_findCosts 1 = .ok (.getfield 21, 3) := by decide +kernel
theorem dX3_findCosts_4 : decode cX3_findCosts 4 = .ok (.getfield 136, 3) := by decide +kernel
theorem dX3_findCosts_7 : decode cX3_findCosts 7 = .ok (.iconst 1, 1) := by decide +kernel
theorem dX3_findCosts_8 : decode cX3_findCosts 8 = .ok (.isub, 1) := by decide +kernel
theorem dX3_findCosts_9 : decode cX3_findCosts 9 = .ok (.istore_n 1, 1) := by decide +kernel
theorem dX3_findCosts_10 : decode cX3_findCosts 10 = .ok (.iload_n 1, 1) := by decide +kernel
theorem dX3_findCosts_11 : decode cX3_findCosts 11 = .ok (.ifCond .lt 112, 3) := by decide +kernel
theorem dX3_findCosts_14 : decode cX3_findCosts 14 = .ok (.aload_n 0, 1) := by decide +kernel
theorem dX3_findCosts_15 : decode cX3_findCosts 15 = .ok (.iload_n 1, 1) := by decide +kernel
theorem dX3_findCosts_16 : decode cX3_findCosts 16 = .ok (.aload_n 0, 1) := by decide +kernel
theorem dX3_findCosts_17 : decode cX3_findCosts 17 = .ok (.getfield 21, 3) := by decide +kernel
theorem dX3_findCosts_20 : decode cX3_findCosts 20 = .ok (.getfield 150, 3) := by decide +kernel
theorem dX3_findCosts_23 : decode cX3_findCosts 23 = .ok (.invokevirtual 59, 3) := by decide +kernel
theorem dX3_findCosts_26 : decode cX3_findCosts 26 = .ok (.aload_n 0, 1) := by decide +kernel
theorem dX3_findCosts_27 : decode cX3_findCosts 27 = .ok (.iload_n 1, 1) := by decide +kernel
theorem dX3_findCosts_28 : decode cX3_findCosts 28 = .ok (.invokevirtual 63, 3) := by decide +kernel
theorem dX3_findCosts_31 : decode cX3_findCosts 31 = .ok (.istore_n 2, 1) := by decide +kernel
theorem dX3_findCosts_32 : decode cX3_findCosts 32 = .ok (.iload_n 1, 1) := by decide +kernel
theorem dX3_findCosts_33 : decode cX3_findCosts 33 = .ok (.aload_n 0, 1) := by decide +kernel
theorem dX3_findCosts_34 : decode cX3_findCosts 34 = .ok (.getfield 21, 3) := by decide +kernel
theorem dX3_findCosts_37 : decode cX3_findCosts 37 = .ok (.getfield 136, 3) := by decide +kernel
theorem dX3_findCosts_40 : decode cX3_findCosts 40 = .ok (.iconst 1, 1) := by decide +kernel
theorem dX3_findCosts_41 : decode cX3_findCosts 41 = .ok (.isub, 1) := by decide +kernel
theorem dX3_findCosts_42 : decode cX3_findCosts 42 = .ok (.if_icmp .ne 15, 3) := by decide +kernel
theorem dX3_findCosts_45 : decode cX3_findCosts 45 = .ok (.aload_n 0, 1) := by decide +kernel
theorem dX3_findCosts_46 : decode cX3_findCosts 46 = .ok (.getfield 47, 3) := by decide +kernel
theorem dX3_findCosts_49 : decode cX3_findCosts 49 = .ok (.iload_n 2, 1) := by decide +kernel
theorem dX3_findCosts_50 : decode cX3_findCosts 50 = .ok (.iconst 0, 1) := by decide +kernel
theorem dX3_findCosts_51 : decode cX3_findCosts 51 = .ok (.invokestatic 124, 3) := by decide +kernel
theorem dX3_findCosts_54 : decode cX3_findCosts 54 = .ok (.goto 12, 3) := by decide +kernel
theorem dX3_findCosts_57 : decode cX3_findCosts 57 = .ok (.aload_n 0, 1) := by decide +kernel
theorem dX3_findCosts_58 : decode cX3_findCosts 58 = .ok (.iload_n 1, 1) := by decide +kernel
theorem dX3_findCosts_59 : decode cX3_findCosts 59 = .ok (.iconst 1, 1) := by decide +kernel
theorem dX3_findCosts_60 : decode cX3_findCosts 60 = .ok (.iadd, 1) := by decide +kernel
theorem dX3_findCosts_61 : decode cX3_findCosts 61 = .ok (.iload_n 1, 1) := by decide +kernel
theorem dX3_findCosts_62 : decode cX3_findCosts 62 = .ok (.iconst 1, 1) := by decide +kernel
theorem dX3_findCosts_63 : decode cX3_findCosts 63 = .ok (.invokevirtual 137, 3) := by decide +kernel
theorem dX3_findCosts_66 : decode cX3_findCosts 66 = .ok (.iconst 0, 1) := by decide +kernel
theorem dX3_findCosts_67 : decode cX3_findCosts 67 = .ok (.istore_n 3, 1) := by decide +kernel
theorem dX3_findCosts_68 : decode cX3_findCosts 68 = .ok (.iload_n 3, 1) := by decide +kernel
theorem dX3_findCosts_69 : decode cX3_findCosts 69 = .ok (.iload_n 2, 1) := by decide +kernel
theorem dX3_findCosts_70 : decode cX3_findCosts 70 = .ok (.if_icmp .ge 47, 3) := by decide +kernel
theorem dX3_findCosts_73 : decode cX3_findCosts 73 = .ok (.aload_n 0, 1) := by decide +kernel
theorem dX3_findCosts_74 : decode cX3_findCosts 74 = .ok (.getfield 41, 3) := by decide +kernel
theorem dX3_findCosts_77 : decode cX3_findCosts 77 = .ok (.iload_n 3, 1) := by decide +kernel
theorem dX3_findCosts_78 : decode cX3_findCosts 78 = .ok (.iaload, 1) := by decide +kernel
theorem dX3_findCosts_79 : decode cX3_findCosts 79 = .ok (.aload_n 0, 1) := by decide +kernel
theorem dX3_findCosts_80 : decode cX3_findCosts 80 = .ok (.getfield 21, 3) := by decide +kernel
theorem dX3_findCosts_83 : decode cX3_findCosts 83 = .ok (.getfield 67, 3) := by decide +kernel
theorem dX3_findCosts_86 : decode cX3_findCosts 86 = .ok (.if_icmp .le 11, 3) := by decide +kernel
theorem dX3_findCosts_89 : decode cX3_findCosts 89 = .ok (.aload_n 0, 1) := by decide +kernel
theorem dX3_findCosts_90 : decode cX3_findCosts 90 = .ok (.getfield 47, 3) := by decide +kernel
theorem dX3_findCosts_93 : decode cX3_findCosts 93 = .ok (.iload_n 3, 1) := by decide +kernel
theorem dX3_findCosts_94 : decode cX3_findCosts 94 = .ok (.ldc 99, 2) := by decide +kernel
theorem dX3_findCosts_96 : decode cX3_findCosts 96 = .ok (.iastore, 1) := by decide +kernel
theorem dX3_findCosts_97 : decode cX3_findCosts 97 = .ok (.aload_n 0, 1) := by decide +kernel
theorem dX3_findCosts_98 : decode cX3_findCosts 98 = .ok (.getfield 38, 3) := by decide +kernel
theorem dX3_findCosts_101 : decode cX3_findCosts 101 = .ok (.iload_n 1, 1) := by decide +kernel
theorem dX3_findCosts_102 : decode cX3_findCosts 102 = .ok (.aaload, 1) := by decide +kernel
theorem dX3_findCosts_103 : decode cX3_findCosts 103 = .ok (.iload_n 3, 1) := by decide +kernel
theorem dX3_findCosts_104 : decode cX3_findCosts 104 = .ok (.aload_n 0, 1) := by decide +kernel
theorem dX3_findCosts_105 : decode cX3_findCosts 105 = .ok (.getfield 47, 3) := by decide +kernel
theorem dX3_findCosts_108 : decode cX3_findCosts 108 = .ok (.iload_n 3, 1) := by decide +kernel
theorem dX3_findCosts_109 : decode cX3_findCosts 109 = .ok (.iaload, 1) := by decide +kernel
theorem dX3_findCosts_110 : decode cX3_findCosts 110 = .ok (.iastore, 1) := by decide +kernel
theorem dX3_findCosts_111 : decode cX3_findCosts 111 = .ok (.iinc 3 1, 3) := by decide +kernel
theorem dX3_findCosts_114 : decode cX3_findCosts 114 = .ok (.goto (-46), 3) := by decide +kernel
theorem dX3_findCosts_117 : decode cX3_findCosts 117 = .ok (.iinc 1 (-1), 3) := by decide +kernel
theorem dX3_findCosts_120 : decode cX3_findCosts 120 = .ok (.goto (-110), 3) := by decide +kernel
theorem dX3_findCosts_123 : decode cX3_findCosts 123 = .ok (.return_, 1) := by decide +kernel
theorem dX3_firstBest_0 : decode cX3_firstBest 0 = .ok (.iconst 1, 1) := by decide +kernel
theorem dX3_firstBest_1 : decode cX3_firstBest 1 = .ok (.istore_n 2, 1) := by decide +kernel
theorem dX3_firstBest_2 : decode cX3_firstBest 2 = .ok (.aload_n 0, 1) := by decide +kernel
theorem dX3_firstBest_3 : decode cX3_firstBest 3 = .ok (.getfield 50, 3) := by decide +kernel
theorem dX3_firstBest_6 : decode cX3_firstBest 6 = .ok (.iconst 0, 1) := by decide +kernel
theorem dX3_firstBest_7 : decode cX3_firstBest 7 = .ok (.iconst 0, 1) := by decide +kernel
theorem dX3_firstBest_8 : decode cX3_firstBest 8 = .ok (.iastore, 1) := by decide +kernel
theorem dX3_firstBest_9 : decode cX3_firstBest 9 = .ok (.iconst 0, 1) := by decide +kernel
theorem dX3_firstBest_10 : decode cX3_firstBest 10 = .ok (.istore_n 3, 1) := by decide +kernel
theorem dX3_firstBest_11 : decode cX3_firstBest 11 = .ok (.iload_n 3, 1) := by decide +kernel
theorem dX3_firstBest_12 : decode cX3_firstBest 12 = .ok (.iconst 4, 1) := by decide +kernel
theorem dX3_firstBest_13 : decode cX3_firstBest 13 = .ok (.if_icmp .ge 96, 3) := by decide +kernel
theorem dX3_firstBest_16 : decode cX3_firstBest 16 = .ok (.iload_n 1, 1) := by decide +kernel
theorem dX3_firstBest_17 : decode cX3_firstBest 17 = .ok (.iconst 4, 1) := by decide +kernel
theorem dX3_firstBest_18 : decode cX3_firstBest 18 = .ok (.imul, 1) := by decide +kernel
theorem dX3_firstBest_19 : decode cX3_firstBest 19 = .ok (.iload_n 3, 1) := by decide +kernel
theorem dX3_firstBest_20 : decode cX3_firstBest 20 = .ok (.iadd, 1) := by decide +kernel
theorem dX3_firstBest_21 : decode cX3_firstBest 21 = .ok (.istore 4, 2) := by decide +kernel
theorem dX3_firstBest_23 : decode cX3_firstBest 23 = .ok (.iconst 0, 1) := by decide +kernel
theorem dX3_firstBest_24 : decode cX3_firstBest 24 = .ok (.istore 5, 2) := by decide +kernel
theorem dX3_firstBest_26 : decode cX3_firstBest 26 = .ok (.iload 5, 2) := by decide +kernel
theorem dX3_firstBest_28 : decode cX3_firstBest 28 = .ok (.aload_n 0, 1) := by decide +kernel
theorem dX3_firstBest_29 : decode cX3_firstBest 29 = .ok (.getfield 34, 3) := by decide +kernel
theorem dX3_firstBest_32 : decode cX3_firstBest 32 = .ok (.iload 4, 2) := by decide +kernel
theorem dX3_firstBest_34 : decode cX3_firstBest 34 = .ok (.iaload, 1) := by decide +kernel
theorem dX3_firstBest_35 : decode cX3_firstBest 35 = .ok (.if_icmp .ge 51, 3) := by decide +kernel
theorem dX3_firstBest_38 : decode cX3_firstBest 38 = .ok (.aload_n 0, 1) := by decide +kernel
theorem dX3_firstBest_39 : decode cX3_firstBest 39 = .ok (.getfield 44, 3) := by decide +kernel
theorem dX3_firstBest_42 : decode cX3_firstBest 42 = .ok (.iload 5, 2) := by decide +kernel
theorem dX3_firstBest_44 : decode cX3_firstBest 44 = .ok (.iload_n 1, 1) := by decide +kernel
theorem dX3_firstBest_45 : decode cX3_firstBest 45 = .ok (.ifCond .ne 7, 3) := by decide +kernel
theorem dX3_firstBest_48 : decode cX3_firstBest 48 = .ok (.iconst 0, 1) := by decide +kernel
theorem dX3_firstBest_49 : decode cX3_firstBest 49 = .ok (.goto 30, 3) := by decide +kernel
theorem dX3_firstBest_52 : decode cX3_firstBest 52 = .ok (.aload_n 0, 1) := by decide +kernel
theorem dX3_firstBest_53 : decode cX3_firstBest 53 = .ok (.iload_n 3, 1) := by decide +kernel
theorem dX3_firstBest_54 : decode cX3_firstBest 54 = .ok (.iload_n 1, 1) := by decide +kernel
theorem dX3_firstBest_55 : decode cX3_firstBest 55 = .ok (.iconst 1, 1) := by decide +kernel
theorem dX3_firstBest_56 : decode cX3_firstBest 56 = .ok (.isub, 1) := by decide +kernel
theorem dX3_firstBest_57 : decode cX3_firstBest 57 = .ok (.aload_n 0, 1) := by decide +kernel
theorem dX3_firstBest_58 : decode cX3_firstBest 58 = .ok (.iload_n 1, 1) := by decide +kernel
theorem dX3_firstBest_59 : decode cX3_firstBest 59 = .ok (.iconst 1, 1) := by decide +kernel
theorem dX3_firstBest_60 : decode cX3_firstBest 60 = .ok (.isub, 1) := by decide +kernel
theorem dX3_firstBest_61 : decode cX3_firstBest 61 = .ok (.iload_n 3, 1) := by decide +kernel
theorem dX3_firstBest_62 : decode cX3_firstBest 62 = .ok (.invokevirtual 153, 3) := by decide +kernel
theorem dX3_firstBest_65 : decode cX3_firstBest 65 = .ok (.iload_n 1, 1) := by decide +kernel
theorem dX3_firstBest_66 : decode cX3_firstBest 66 = .ok (.aload_n 0, 1) := by decide +kernel
theorem dX3_firstBest_67 : decode cX3_firstBest 67 = .ok (.getfield 31, 3) := by decide +kernel
theorem dX3_firstBest_70 : decode cX3_firstBest 70 = .ok (.iload 4, 2) := by decide +kernel
theorem dX3_firstBest_72 : decode cX3_firstBest 72 = .ok (.aaload, 1) := by decide +kernel
theorem dX3_firstBest_73 : decode cX3_firstBest 73 = .ok (.iload 5, 2) := by decide +kernel
theorem dX3_firstBest_75 : decode cX3_firstBest 75 = .ok (.iaload, 1) := by decide +kernel
theorem dX3_firstBest_76 : decode cX3_firstBest 76 = .ok (.invokevirtual 128, 3) := by decide +kernel
theorem dX3_firstBest_79 : decode cX3_firstBest 79 = .ok (.iastore, 1) := by decide +kernel
theorem dX3_firstBest_80 : decode cX3_firstBest 80 = .ok (.iinc 5 1, 3) := by decide +kernel
theorem dX3_firstBest_83 : decode cX3_firstBest 83 = .ok (.goto (-57), 3) := by decide +kernel
theorem dX3_firstBest_86 : decode cX3_firstBest 86 = .ok (.aload_n 0, 1) := by decide +kernel
theorem dX3_firstBest_87 : decode cX3_firstBest 87 = .ok (.aload_n 0, 1) := by decide +kernel
theorem dX3_firstBest_88 : decode cX3_firstBest 88 = .ok (.getfield 50, 3) := by decide +kernel
theorem dX3_firstBest_91 : decode cX3_firstBest 91 = .ok (.iload_n 2, 1) := by decide +kernel
theorem dX3_firstBest_92 : decode cX3_firstBest 92 = .ok (.aload_n 0, 1) := by decide +kernel
theorem dX3_firstBest_93 : decode cX3_firstBest 93 = .ok (.getfield 34, 3) := by decide +kernel
theorem dX3_firstBest_96 : decode cX3_firstBest 96 = .ok (.iload 4, 2) := by decide +kernel
theorem dX3_firstBest_98 : decode cX3_firstBest 98 = .ok (.iaload, 1) := by decide +kernel
theorem dX3_firstBest_99 : decode cX3_firstBest 99 = .ok (.invokevirtual 89, 3) := by decide +kernel
theorem dX3_firstBest_102 : decode cX3_firstBest 102 = .ok (.istore_n 2, 1) := by decide +kernel
theorem dX3_firstBest_103 : decode cX3_firstBest 103 = .ok (.iinc 3 1, 3) := by decide +kernel
theorem dX3_firstBest_106 : decode cX3_firstBest 106 = .ok (.goto (-95), 3) := by decide +kernel
theorem dX3_firstBest_109 : decode cX3_firstBest 109 = .ok (.iconst 0, 1) := by decide +kernel
theorem dX3_firstBest_110 : decode cX3_firstBest 110 = .ok (.istore_n 3, 1) := by decide +kernel
theorem dX3_firstBest_111 : decode cX3_firstBest 111 = .ok (.iconst 1, 1) := by decide +kernel
theorem dX3_firstBest_112 : decode cX3_firstBest 112 = .ok (.istore 4, 2) := by decide +kernel
theorem dX3_firstBest_114 : decode cX3_firstBest 114 = .ok (.iload 4, 2) := by decide +kernel
theorem dX3_firstBest_116 : decode cX3_firstBest 116 = .ok (.iload_n 2, 1) := by decide +kernel
theorem dX3_firstBest_117 : decode cX3_firstBest 117 = .ok (.if_icmp .ge 47, 3) := by decide +kernel
theorem dX3_firstBest_120 : decode cX3_firstBest 120 = .ok (.aload_n 0, 1) := by decide +kernel
theorem dX3_firstBest_121 : decode cX3_firstBest 121 = .ok (.getfield 50, 3) := by decide +kernel
theorem dX3_firstBest_124 : decode cX3_firstBest 124 = .ok (.iload 4, 2) := by decide +kernel
theorem dX3_firstBest_126 : decode cX3_firstBest 126 = .ok (.iaload, 1) := by decide +kernel
theorem dX3_firstBest_127 : decode cX3_firstBest 127 = .ok (.aload_n 0, 1) := by decide +kernel
theorem dX3_firstBest_128 : decode cX3_firstBest 128 = .ok (.getfield 38, 3) := by decide +kernel
theorem dX3_firstBest_131 : decode cX3_firstBest 131 = .ok (.iload_n 1, 1) := by decide +kernel
theorem dX3_firstBest_132 : decode cX3_firstBest 132 = .ok (.aaload, 1) := by decide +kernel
theorem dX3_firstBest_133 : decode cX3_firstBest 133 = .ok (.iload 4, 2) := by decide +kernel
theorem dX3_firstBest_135 : decode cX3_firstBest 135 = .ok (.iaload, 1) := by decide +kernel
theorem dX3_firstBest_136 : decode cX3_firstBest 136 = .ok (.iadd, 1) := by decide +kernel
theorem dX3_firstBest_137 : decode cX3_firstBest 137 = .ok (.aload_n 0, 1) := by decide +kernel
theorem dX3_firstBest_138 : decode cX3_firstBest 138 = .ok (.getfield 50, 3) := by decide +kernel
theorem dX3_firstBest_141 : decode cX3_firstBest 141 = .ok (.iload_n 3, 1) := by decide +kernel
theorem dX3_firstBest_142 : decode cX3_firstBest 142 = .ok (.iaload, 1) := by decide +kernel
theorem dX3_firstBest_143 : decode cX3_firstBest 143 = .ok (.aload_n 0, 1) := by decide +kernel
theorem dX3_firstBest_144 : decode cX3_firstBest 144 = .ok (.getfield 38, 3) := by decide +kernel
theorem dX3_firstBest_147 : decode cX3_firstBest 147 = .ok (.iload_n 1, 1) := by decide +kernel
theorem dX3_firstBest_148 : decode cX3_firstBest 148 = .ok (.aaload, 1) := by decide +kernel
theorem dX3_firstBest_149 : decode cX3_firstBest 149 = .ok (.iload_n 3, 1) := by decide +kernel
theorem dX3_firstBest_150 : decode cX3_firstBest 150 = .ok (.iaload, 1) := by decide +kernel
theorem dX3_firstBest_151 : decode cX3_firstBest 151 = .ok (.iadd, 1) := by decide +kernel
theorem dX3_firstBest_152 : decode cX3_firstBest 152 = .ok (.if_icmp .ge 6, 3) := by decide +kernel
theorem dX3_firstBest_155 : decode cX3_firstBest 155 = .ok (.iload 4, 2) := by decide +kernel
theorem dX3_firstBest_157 : decode cX3_firstBest 157 = .ok (.istore_n 3, 1) := by decide +kernel
theorem dX3_firstBest_158 : decode cX3_firstBest 158 = .ok (.iinc 4 1, 3) := by decide +kernel
theorem dX3_firstBest_161 : decode cX3_firstBest 161 = .ok (.goto (-47), 3) := by decide +kernel
theorem dX3_firstBest_164 : decode cX3_firstBest 164 = .ok (.iload_n 3, 1) := by decide +kernel
theorem dX3_firstBest_165 : decode cX3_firstBest 165 = .ok (.ireturn, 1) := by decide +kernel
theorem dX3_choose_0 : decode cX3_choose 0 = .ok (.iload_n 2, 1) := by decide +kernel
theorem dX3_choose_1 : decode cX3_choose 1 = .ok (.istore_n 3, 1) := by decide +kernel
theorem dX3_choose_2 : decode cX3_choose 2 = .ok (.iconst 3, 1) := by decide +kernel
theorem dX3_choose_3 : decode cX3_choose 3 = .ok (.istore 4, 2) := by decide +kernel
theorem dX3_choose_5 : decode cX3_choose 5 = .ok (.iload 4, 2) := by decide +kernel
theorem dX3_choose_7 : decode cX3_choose 7 = .ok (.ifCond .lt 54, 3) := by decide +kernel
theorem dX3_choose_10 : decode cX3_choose 10 = .ok (.iload_n 1, 1) := by decide +kernel
theorem dX3_choose_11 : decode cX3_choose 11 = .ok (.iconst 4, 1) := by decide +kernel
theorem dX3_choose_12 : decode cX3_choose 12 = .ok (.imul, 1) := by decide +kernel
theorem dX3_choose_13 : decode cX3_choose 13 = .ok (.iload 4, 2) := by decide +kernel
theorem dX3_choose_15 : decode cX3_choose 15 = .ok (.iadd, 1) := by decide +kernel
theorem dX3_choose_16 : decode cX3_choose 16 = .ok (.istore 5, 2) := by decide +kernel
theorem dX3_choose_18 : decode cX3_choose 18 = .ok (.aload_n 0, 1) := by decide +kernel
theorem dX3_choose_19 : decode cX3_choose 19 = .ok (.getfield 34, 3) := by decide +kernel
theorem dX3_choose_22 : decode cX3_choose 22 = .ok (.iload 5, 2) := by decide +kernel
theorem dX3_choose_24 : decode cX3_choose 24 = .ok (.iaload, 1) := by decide +kernel
theorem dX3_choose_25 : decode cX3_choose 25 = .ok (.iconst 1, 1) := by decide +kernel
theorem dX3_choose_26 : decode cX3_choose 26 = .ok (.invokestatic 100, 3) := by decide +kernel
theorem dX3_choose_29 : decode cX3_choose 29 = .ok (.istore 6, 2) := by decide +kernel
theorem dX3_choose_31 : decode cX3_choose 31 = .ok (.aload_n 0, 1) := by decide +kernel
theorem dX3_choose_32 : decode cX3_choose 32 = .ok (.getfield 56, 3) := by decide +kernel
theorem dX3_choose_35 : decode cX3_choose 35 = .ok (.iload 5, 2) := by decide +kernel
theorem dX3_choose_37 : decode cX3_choose 37 = .ok (.aload_n 0, 1) := by decide +kernel
theorem dX3_choose_38 : decode cX3_choose 38 = .ok (.getfield 31, 3) := by decide +kernel
theorem dX3_choose_41 : decode cX3_choose 41 = .ok (.iload 5, 2) := by decide +kernel
theorem dX3_choose_43 : decode cX3_choose 43 = .ok (.aaload, 1) := by decide +kernel
theorem dX3_choose_44 : decode cX3_choose 44 = .ok (.iload_n 3, 1) := by decide +kernel
theorem dX3_choose_45 : decode cX3_choose 45 = .ok (.iload 6, 2) := by decide +kernel
theorem dX3_choose_47 : decode cX3_choose 47 = .ok (.irem, 1) := by decide +kernel
theorem dX3_choose_48 : decode cX3_choose 48 = .ok (.iaload, 1) := by decide +kernel
theorem dX3_choose_49 : decode cX3_choose 49 = .ok (.iastore, 1) := by decide +kernel
theorem dX3_choose_50 : decode cX3_choose 50 = .ok (.iload_n 3, 1) := by decide +kernel
theorem dX3_choose_51 : decode cX3_choose 51 = .ok (.iload 6, 2) := by decide +kernel
theorem dX3_choose_53 : decode cX3_choose 53 = .ok (.idiv, 1) := by decide +kernel
theorem dX3_choose_54 : decode cX3_choose 54 = .ok (.istore_n 3, 1) := by decide +kernel
theorem dX3_choose_55 : decode cX3_choose 55 = .ok (.iinc 4 (-1), 3) := by decide +kernel
theorem dX3_choose_58 : decode cX3_choose 58 = .ok (.goto (-53), 3) := by decide +kernel
theorem dX3_choose_61 : decode cX3_choose 61 = .ok (.return_, 1) := by decide +kernel
theorem dX3_handIn_0 : decode cX3_handIn 0 = .ok (.aload_n 0, 1) := by decide +kernel
theorem dX3_handIn_1 : decode cX3_handIn 1 = .ok (.getfield 56, 3) := by decide +kernel
theorem dX3_handIn_4 : decode cX3_handIn 4 = .ok (.iload_n 1, 1) := by decide +kernel
theorem dX3_handIn_5 : decode cX3_handIn 5 = .ok (.iconst 4, 1) := by decide +kernel
theorem dX3_handIn_6 : decode cX3_handIn 6 = .ok (.imul, 1) := by decide +kernel
theorem dX3_handIn_7 : decode cX3_handIn 7 = .ok (.iload_n 2, 1) := by decide +kernel
theorem dX3_handIn_8 : decode cX3_handIn 8 = .ok (.iadd, 1) := by decide +kernel
theorem dX3_handIn_9 : decode cX3_handIn 9 = .ok (.iaload, 1) := by decide +kernel
theorem dX3_handIn_10 : decode cX3_handIn 10 = .ok (.ireturn, 1) := by decide +kernel
theorem dX3_handsThatPlay_0 : decode cX3_handsThatPlay 0 = .ok (.iconst 0, 1) := by decide +kernel
theorem dX3_handsThatPlay_1 : decode cX3_handsThatPlay 1 = .ok (.istore_n 1, 1) := by decide +kernel
theorem dX3_handsThatPlay_2 : decode cX3_handsThatPlay 2 = .ok (.iconst 0, 1) := by decide +kernel
theorem dX3_handsThatPlay_3 : decode cX3_handsThatPlay 3 = .ok (.istore_n 2, 1) := by decide +kernel
theorem dX3_handsThatPlay_4 : decode cX3_handsThatPlay 4 = .ok (.iload_n 2, 1) := by decide +kernel
theorem dX3_handsThatPlay_5 : decode cX3_handsThatPlay 5 = .ok (.aload_n 0, 1) := by decide +kernel
theorem dX3_handsThatPlay_6 : decode cX3_handsThatPlay 6 = .ok (.getfield 21, 3) := by decide +kernel
theorem dX3_handsThatPlay_9 : decode cX3_handsThatPlay 9 = .ok (.getfield 136, 3) := by decide +kernel
theorem dX3_handsThatPlay_12 : decode cX3_handsThatPlay 12 = .ok (.iconst 4, 1) := by decide +kernel
theorem dX3_handsThatPlay_13 : decode cX3_handsThatPlay 13 = .ok (.imul, 1) := by decide +kernel
theorem dX3_handsThatPlay_14 : decode cX3_handsThatPlay 14 = .ok (.if_icmp .ge 21, 3) := by decide +kernel
theorem dX3_handsThatPlay_17 : decode cX3_handsThatPlay 17 = .ok (.aload_n 0, 1) := by decide +kernel
theorem dX3_handsThatPlay_18 : decode cX3_handsThatPlay 18 = .ok (.getfield 56, 3) := by decide +kernel
theorem dX3_handsThatPlay_21 : decode cX3_handsThatPlay 21 = .ok (.iload_n 2, 1) := by decide +kernel
theorem dX3_handsThatPlay_22 : decode cX3_handsThatPlay 22 = .ok (.iaload, 1) := by decide +kernel
theorem dX3_handsThatPlay_23 : decode cX3_handsThatPlay 23 = .ok (.ifCond .eq 6, 3) := by decide +kernel
theorem dX3_handsThatPlay_26 : decode cX3_handsThatPlay 26 = .ok (.iinc 1 1, 3) := by decide +kernel
theorem dX3_handsThatPlay_29 : decode cX3_handsThatPlay 29 = .ok (.iinc 2 1, 3) := by decide +kernel
theorem dX3_handsThatPlay_32 : decode cX3_handsThatPlay 32 = .ok (.goto (-28), 3) := by decide +kernel
theorem dX3_handsThatPlay_35 : decode cX3_handsThatPlay 35 = .ok (.iload_n 1, 1) := by decide +kernel
theorem dX3_handsThatPlay_36 : decode cX3_handsThatPlay 36 = .ok (.ireturn, 1) := by decide +kernel
theorem dX3_doubledNotes_0 : decode cX3_doubledNotes 0 = .ok (.iconst 0, 1) := by decide +kernel
theorem dX3_doubledNotes_1 : decode cX3_doubledNotes 1 = .ok (.istore_n 1, 1) := by decide +kernel
theorem dX3_doubledNotes_2 : decode cX3_doubledNotes 2 = .ok (.iconst 0, 1) := by decide +kernel
theorem dX3_doubledNotes_3 : decode cX3_doubledNotes 3 = .ok (.istore_n 2, 1) := by decide +kernel
theorem dX3_doubledNotes_4 : decode cX3_doubledNotes 4 = .ok (.iload_n 2, 1) := by decide +kernel
theorem dX3_doubledNotes_5 : decode cX3_doubledNotes 5 = .ok (.aload_n 0, 1) := by decide +kernel
theorem dX3_doubledNotes_6 : decode cX3_doubledNotes 6 = .ok (.getfield 21, 3) := by decide +kernel
theorem dX3_doubledNotes_9 : decode cX3_doubledNotes 9 = .ok (.getfield 136, 3) := by decide +kernel
theorem dX3_doubledNotes_12 : decode cX3_doubledNotes 12 = .ok (.if_icmp .ge 35, 3) := by decide +kernel
theorem dX3_doubledNotes_15 : decode cX3_doubledNotes 15 = .ok (.iconst 0, 1) := by decide +kernel
theorem dX3_doubledNotes_16 : decode cX3_doubledNotes 16 = .ok (.istore_n 3, 1) := by decide +kernel
theorem dX3_doubledNotes_17 : decode cX3_doubledNotes 17 = .ok (.iload_n 3, 1) := by decide +kernel
theorem dX3_doubledNotes_18 : decode cX3_doubledNotes 18 = .ok (.iconst 3, 1) := by decide +kernel
theorem dX3_doubledNotes_19 : decode cX3_doubledNotes 19 = .ok (.if_icmp .ge 22, 3) := by decide +kernel
theorem dX3_doubledNotes_22 : decode cX3_doubledNotes 22 = .ok (.aload_n 0, 1) := by decide +kernel
theorem dX3_doubledNotes_23 : decode cX3_doubledNotes 23 = .ok (.iload_n 2, 1) := by decide +kernel
theorem dX3_doubledNotes_24 : decode cX3_doubledNotes 24 = .ok (.iload_n 3, 1) := by decide +kernel
theorem dX3_doubledNotes_25 : decode cX3_doubledNotes 25 = .ok (.invokevirtual 156, 3) := by decide +kernel
theorem dX3_doubledNotes_28 : decode cX3_doubledNotes 28 = .ok (.iconst 2, 1) := by decide +kernel
theorem dX3_doubledNotes_29 : decode cX3_doubledNotes 29 = .ok (.if_icmp .lt 6, 3) := by decide +kernel
theorem dX3_doubledNotes_32 : decode cX3_doubledNotes 32 = .ok (.iinc 1 1, 3) := by decide +kernel
theorem dX3_doubledNotes_35 : decode cX3_doubledNotes 35 = .ok (.iinc 3 1, 3) := by decide +kernel
theorem dX3_doubledNotes_38 : decode cX3_doubledNotes 38 = .ok (.goto (-21), 3) := by decide +kernel
theorem dX3_doubledNotes_41 : decode cX3_doubledNotes 41 = .ok (.iinc 2 1, 3) := by decide +kernel
theorem dX3_doubledNotes_44 : decode cX3_doubledNotes 44 = .ok (.goto (-40), 3) := by decide +kernel
theorem dX3_doubledNotes_47 : decode cX3_doubledNotes 47 = .ok (.iload_n 1, 1) := by decide +kernel
theorem dX3_doubledNotes_48 : decode cX3_doubledNotes 48 = .ok (.ireturn, 1) := by decide +kernel
theorem dX3_playersOf_0 : decode cX3_playersOf 0 = .ok (.iconst 0, 1) := by decide +kernel
theorem dX3_playersOf_1 : decode cX3_playersOf 1 = .ok (.istore_n 3, 1) := by decide +kernel
theorem dX3_playersOf_2 : decode cX3_playersOf 2 = .ok (.iconst 0, 1) := by decide +kernel
theorem dX3_playersOf_3 : decode cX3_playersOf 3 = .ok (.istore 4, 2) := by decide +kernel
theorem dX3_playersOf_5 : decode cX3_playersOf 5 = .ok (.iload 4, 2) := by decide +kernel
theorem dX3_playersOf_7 : decode cX3_playersOf 7 = .ok (.iconst 4, 1) := by decide +kernel
theorem dX3_playersOf_8 : decode cX3_playersOf 8 = .ok (.if_icmp .ge 23, 3) := by decide +kernel
theorem dX3_playersOf_11 : decode cX3_playersOf 11 = .ok (.iload_n 3, 1) := by decide +kernel
theorem dX3_playersOf_12 : decode cX3_playersOf 12 = .ok (.aload_n 0, 1) := by decide +kernel
theorem dX3_playersOf_13 : decode cX3_playersOf 13 = .ok (.iload_n 1, 1) := by decide +kernel
theorem dX3_playersOf_14 : decode cX3_playersOf 14 = .ok (.iload 4, 2) := by decide +kernel
theorem dX3_playersOf_16 : decode cX3_playersOf 16 = .ok (.invokevirtual 153, 3) := by decide +kernel
theorem dX3_playersOf_19 : decode cX3_playersOf 19 = .ok (.iload_n 2, 1) := by decide +kernel
theorem dX3_playersOf_20 : decode cX3_playersOf 20 = .ok (.ishr, 1) := by decide +kernel
theorem dX3_playersOf_21 : decode cX3_playersOf 21 = .ok (.iconst 1, 1) := by decide +kernel
theorem dX3_playersOf_22 : decode cX3_playersOf 22 = .ok (.iand, 1) := by decide +kernel
theorem dX3_playersOf_23 : decode cX3_playersOf 23 = .ok (.iadd, 1) := by decide +kernel
theorem dX3_playersOf_24 : decode cX3_playersOf 24 = .ok (.istore_n 3, 1) := by decide +kernel
theorem dX3_playersOf_25 : decode cX3_playersOf 25 = .ok (.iinc 4 1, 3) := by decide +kernel
theorem dX3_playersOf_28 : decode cX3_playersOf 28 = .ok (.goto (-23), 3) := by decide +kernel
theorem dX3_playersOf_31 : decode cX3_playersOf 31 = .ok (.iload_n 3, 1) := by decide +kernel
theorem dX3_playersOf_32 : decode cX3_playersOf 32 = .ok (.ireturn, 1) := by decide +kernel
theorem dX3_loudWithout_0 : decode cX3_loudWithout 0 = .ok (.iconst 0, 1) := by decide +kernel
theorem dX3_loudWithout_1 : decode cX3_loudWithout 1 = .ok (.istore 4, 2) := by decide +kernel
theorem dX3_loudWithout_3 : decode cX3_loudWithout 3 = .ok (.iconst 0, 1) := by decide +kernel
theorem dX3_loudWithout_4 : decode cX3_loudWithout 4 = .ok (.istore 5, 2) := by decide +kernel
theorem dX3_loudWithout_6 : decode cX3_loudWithout 6 = .ok (.iload 5, 2) := by decide +kernel
theorem dX3_loudWithout_8 : decode cX3_loudWithout 8 = .ok (.iconst 4, 1) := by decide +kernel
theorem dX3_loudWithout_9 : decode cX3_loudWithout 9 = .ok (.if_icmp .ge 50, 3) := by decide +kernel
theorem dX3_loudWithout_12 : decode cX3_loudWithout 12 = .ok (.aload_n 0, 1) := by decide +kernel
theorem dX3_loudWithout_13 : decode cX3_loudWithout 13 = .ok (.iload_n 1, 1) := by decide +kernel
theorem dX3_loudWithout_14 : decode cX3_loudWithout 14 = .ok (.iload 5, 2) := by decide +kernel
theorem dX3_loudWithout_16 : decode cX3_loudWithout 16 = .ok (.invokevirtual 153, 3) := by decide +kernel
theorem dX3_loudWithout_19 : decode cX3_loudWithout 19 = .ok (.istore 6, 2) := by decide +kernel
theorem dX3_loudWithout_21 : decode cX3_loudWithout 21 = .ok (.iload 5, 2) := by decide +kernel
theorem dX3_loudWithout_23 : decode cX3_loudWithout 23 = .ok (.iload_n 3, 1) := by decide +kernel
theorem dX3_loudWithout_24 : decode cX3_loudWithout 24 = .ok (.if_icmp .eq 29, 3) := by decide +kernel
theorem dX3_loudWithout_27 : decode cX3_loudWithout 27 = .ok (.iload 6, 2) := by decide +kernel
theorem dX3_loudWithout_29 : decode cX3_loudWithout 29 = .ok (.iload_n 2, 1) := by decide +kernel
theorem dX3_loudWithout_30 : decode cX3_loudWithout 30 = .ok (.ishr, 1) := by decide +kernel
theorem dX3_loudWithout_31 : decode cX3_loudWithout 31 = .ok (.iconst 1, 1) := by decide +kernel
theorem dX3_loudWithout_32 : decode cX3_loudWithout 32 = .ok (.iand, 1) := by decide +kernel
theorem dX3_loudWithout_33 : decode cX3_loudWithout 33 = .ok (.iconst 1, 1) := by decide +kernel
theorem dX3_loudWithout_34 : decode cX3_loudWithout 34 = .ok (.if_icmp .ne 19, 3) := by decide +kernel
theorem dX3_loudWithout_37 : decode cX3_loudWithout 37 = .ok (.iload 4, 2) := by decide +kernel
theorem dX3_loudWithout_39 : decode cX3_loudWithout 39 = .ok (.aload_n 0, 1) := by decide +kernel
theorem dX3_loudWithout_40 : decode cX3_loudWithout 40 = .ok (.getfield 12, 3) := by decide +kernel
theorem dX3_loudWithout_43 : decode cX3_loudWithout 43 = .ok (.iload 5, 2) := by decide +kernel
theorem dX3_loudWithout_45 : decode cX3_loudWithout 45 = .ok (.iload 6, 2) := by decide +kernel
theorem dX3_loudWithout_47 : decode cX3_loudWithout 47 = .ok (.invokevirtual 96, 3) := by decide +kernel
theorem dX3_loudWithout_50 : decode cX3_loudWithout 50 = .ok (.iadd, 1) := by decide +kernel
theorem dX3_loudWithout_51 : decode cX3_loudWithout 51 = .ok (.istore 4, 2) := by decide +kernel
theorem dX3_loudWithout_53 : decode cX3_loudWithout 53 = .ok (.iinc 5 1, 3) := by decide +kernel
theorem dX3_loudWithout_56 : decode cX3_loudWithout 56 = .ok (.goto (-50), 3) := by decide +kernel
theorem dX3_loudWithout_59 : decode cX3_loudWithout 59 = .ok (.iload 4, 2) := by decide +kernel
theorem dX3_loudWithout_61 : decode cX3_loudWithout 61 = .ok (.ireturn, 1) := by decide +kernel
theorem dX3_isEvenWithout_0 : decode cX3_isEvenWithout 0 = .ok (.aload_n 0, 1) := by decide +kernel
theorem dX3_isEvenWithout_1 : decode cX3_isEvenWithout 1 = .ok (.getfield 21, 3) := by decide +kernel
theorem dX3_isEvenWithout_4 : decode cX3_isEvenWithout 4 = .ok (.iload_n 1, 1) := by decide +kernel
theorem dX3_isEvenWithout_5 : decode cX3_isEvenWithout 5 = .ok (.invokevirtual 70, 3) := by decide +kernel
theorem dX3_isEvenWithout_8 : decode cX3_isEvenWithout 8 = .ok (.istore_n 3, 1) := by decide +kernel
theorem dX3_isEvenWithout_9 : decode cX3_isEvenWithout 9 = .ok (.iconst 0, 1) := by decide +kernel
theorem dX3_isEvenWithout_10 : decode cX3_isEvenWithout 10 = .ok (.istore 4, 2) := by decide +kernel
theorem dX3_isEvenWithout_12 : decode cX3_isEvenWithout 12 = .ok (.iconst 0, 1) := by decide +kernel
theorem dX3_isEvenWithout_13 : decode cX3_isEvenWithout 13 = .ok (.istore 5, 2) := by decide +kernel
theorem dX3_isEvenWithout_15 : decode cX3_isEvenWithout 15 = .ok (.iload 5, 2) := by decide +kernel
theorem dX3_isEvenWithout_17 : decode cX3_isEvenWithout 17 = .ok (.iload_n 3, 1) := by decide +kernel
theorem dX3_isEvenWithout_18 : decode cX3_isEvenWithout 18 = .ok (.if_icmp .ge 28, 3) := by decide +kernel
theorem dX3_isEvenWithout_21 : decode cX3_isEvenWithout 21 = .ok (.iload 4, 2) := by decide +kernel
theorem dX3_isEvenWithout_23 : decode cX3_isEvenWithout 23 = .ok (.aload_n 0, 1) := by decide +kernel
theorem dX3_isEvenWithout_24 : decode cX3_isEvenWithout 24 = .ok (.iload_n 1, 1) := by decide +kernel
theorem dX3_isEvenWithout_25 : decode cX3_isEvenWithout 25 = .ok (.iload 5, 2) := by decide +kernel
theorem dX3_isEvenWithout_27 : decode cX3_isEvenWithout 27 = .ok (.iload_n 2, 1) := by decide +kernel
theorem dX3_isEvenWithout_28 : decode cX3_isEvenWithout 28 = .ok (.invokevirtual 159, 3) := by decide +kernel
theorem dX3_isEvenWithout_31 : decode cX3_isEvenWithout 31 = .ok (.iload 5, 2) := by decide +kernel
theorem dX3_isEvenWithout_33 : decode cX3_isEvenWithout 33 = .ok (.bipush 8, 2) := by decide +kernel
theorem dX3_isEvenWithout_35 : decode cX3_isEvenWithout 35 = .ok (.imul, 1) := by decide +kernel
theorem dX3_isEvenWithout_36 : decode cX3_isEvenWithout 36 = .ok (.ishl, 1) := by decide +kernel
theorem dX3_isEvenWithout_37 : decode cX3_isEvenWithout 37 = .ok (.ior, 1) := by decide +kernel
theorem dX3_isEvenWithout_38 : decode cX3_isEvenWithout 38 = .ok (.istore 4, 2) := by decide +kernel
theorem dX3_isEvenWithout_40 : decode cX3_isEvenWithout 40 = .ok (.iinc 5 1, 3) := by decide +kernel
theorem dX3_isEvenWithout_43 : decode cX3_isEvenWithout 43 = .ok (.goto (-28), 3) := by decide +kernel
theorem dX3_isEvenWithout_46 : decode cX3_isEvenWithout 46 = .ok (.iload 4, 2) := by decide +kernel
theorem dX3_isEvenWithout_48 : decode cX3_isEvenWithout 48 = .ok (.iload_n 3, 1) := by decide +kernel
theorem dX3_isEvenWithout_49 : decode cX3_isEvenWithout 49 = .ok (.invokestatic 93, 3) := by decide +kernel
theorem dX3_isEvenWithout_52 : decode cX3_isEvenWithout 52 = .ok (.aload_n 0, 1) := by decide +kernel
theorem dX3_isEvenWithout_53 : decode cX3_isEvenWithout 53 = .ok (.getfield 21, 3) := by decide +kernel
theorem dX3_isEvenWithout_56 : decode cX3_isEvenWithout 56 = .ok (.getfield 67, 3) := by decide +kernel
theorem dX3_isEvenWithout_59 : decode cX3_isEvenWithout 59 = .ok (.if_icmp .gt 7, 3) := by decide +kernel
theorem dX3_isEvenWithout_62 : decode cX3_isEvenWithout 62 = .ok (.iconst 1, 1) := by decide +kernel
theorem dX3_isEvenWithout_63 : decode cX3_isEvenWithout 63 = .ok (.goto 4, 3) := by decide +kernel
theorem dX3_isEvenWithout_66 : decode cX3_isEvenWithout 66 = .ok (.iconst 0, 1) := by decide +kernel
theorem dX3_isEvenWithout_67 : decode cX3_isEvenWithout 67 = .ok (.ireturn, 1) := by decide +kernel
theorem dX4_init_0 : decode cX4_init 0 = .ok (.aload_n 0, 1) := by decide +kernel
theorem dX4_init_1 : decode cX4_init 1 = .ok (.invokespecial 1, 3) := by decide +kernel
theorem dX4_init_4 : decode cX4_init 4 = .ok (.aload_n 0, 1) := by decide +kernel
theorem dX4_init_5 : decode cX4_init 5 = .ok (.new 7, 3) := by decide +kernel
theorem dX4_init_8 : decode cX4_init 8 = .ok (.dup, 1) := by decide +kernel
theorem dX4_init_9 : decode cX4_init 9 = .ok (.invokespecial 9, 3) := by decide +kernel
theorem dX4_init_12 : decode cX4_init 12 = .ok (.putfield 10, 3) := by decide +kernel
theorem dX4_init_15 : decode cX4_init 15 = .ok (.aload_n 0, 1) := by decide +kernel
theorem dX4_init_16 : decode cX4_init 16 = .ok (.new 16, 3) := by decide +kernel
theorem dX4_init_19 : decode cX4_init 19 = .ok (.dup, 1) := by decide +kernel
theorem dX4_init_20 : decode cX4_init 20 = .ok (.invokespecial 18, 3) := by decide +kernel
theorem dX4_init_23 : decode cX4_init 23 = .ok (.putfield 19, 3) := by decide +kernel
theorem dX4_init_26 : decode cX4_init 26 = .ok (.aload_n 0, 1) := by decide +kernel
theorem dX4_init_27 : decode cX4_init 27 = .ok (.aload_n 0, 1) := by decide +kernel
theorem dX4_init_28 : decode cX4_init 28 = .ok (.getfield 19, 3) := by decide +kernel
theorem dX4_init_31 : decode cX4_init 31 = .ok (.getfield 23, 3) := by decide +kernel
theorem dX4_init_34 : decode cX4_init 34 = .ok (.putfield 27, 3) := by decide +kernel
theorem dX4_init_37 : decode cX4_init 37 = .ok (.aload_n 0, 1) := by decide +kernel
theorem dX4_init_38 : decode cX4_init 38 = .ok (.aload_n 0, 1) := by decide +kernel
theorem dX4_init_39 : decode cX4_init 39 = .ok (.getfield 19, 3) := by decide +kernel
theorem dX4_init_42 : decode cX4_init 42 = .ok (.getfield 28, 3) := by decide +kernel
theorem dX4_init_45 : decode cX4_init 45 = .ok (.putfield 32, 3) := by decide +kernel
theorem dX4_init_48 : decode cX4_init 48 = .ok (.aload_n 0, 1) := by decide +kernel
theorem dX4_init_49 : decode cX4_init 49 = .ok (.bipush 10, 2) := by decide +kernel
theorem dX4_init_51 : decode cX4_init 51 = .ok (.anewarray 35, 3) := by decide +kernel
theorem dX4_init_54 : decode cX4_init 54 = .ok (.putfield 37, 3) := by decide +kernel
theorem dX4_init_57 : decode cX4_init 57 = .ok (.aload_n 0, 1) := by decide +kernel
theorem dX4_init_58 : decode cX4_init 58 = .ok (.iconst 0, 1) := by decide +kernel
theorem dX4_init_59 : decode cX4_init 59 = .ok (.putfield 41, 3) := by decide +kernel
theorem dX4_init_62 : decode cX4_init 62 = .ok (.aload_n 0, 1) := by decide +kernel
theorem dX4_init_63 : decode cX4_init 63 = .ok (.iconst 2, 1) := by decide +kernel
theorem dX4_init_64 : decode cX4_init 64 = .ok (.anewarray 35, 3) := by decide +kernel
theorem dX4_init_67 : decode cX4_init 67 = .ok (.putfield 45, 3) := by decide +kernel
theorem dX4_init_70 : decode cX4_init 70 = .ok (.aload_n 0, 1) := by decide +kernel
theorem dX4_init_71 : decode cX4_init 71 = .ok (.iconst 2, 1) := by decide +kernel
theorem dX4_init_72 : decode cX4_init 72 = .ok (.newarray .boolean, 2) := by decide +kernel
theorem dX4_init_74 : decode cX4_init 74 = .ok (.putfield 48, 3) := by decide +kernel
theorem dX4_init_77 : decode cX4_init 77 = .ok (.aload_n 0, 1) := by decide +kernel
theorem dX4_init_78 : decode cX4_init 78 = .ok (.bipush 6, 2) := by decide +kernel
theorem dX4_init_80 : decode cX4_init 80 = .ok (.newarray .int, 2) := by decide +kernel
theorem dX4_init_82 : decode cX4_init 82 = .ok (.putfield 52, 3) := by decide +kernel
theorem dX4_init_85 : decode cX4_init 85 = .ok (.aload_n 0, 1) := by decide +kernel
theorem dX4_init_86 : decode cX4_init 86 = .ok (.bipush 6, 2) := by decide +kernel
theorem dX4_init_88 : decode cX4_init 88 = .ok (.newarray .int, 2) := by decide +kernel
theorem dX4_init_90 : decode cX4_init 90 = .ok (.putfield 56, 3) := by decide +kernel
theorem dX4_init_93 : decode cX4_init 93 = .ok (.aload_n 0, 1) := by decide +kernel
theorem dX4_init_94 : decode cX4_init 94 = .ok (.iconst 0, 1) := by decide +kernel
theorem dX4_init_95 : decode cX4_init 95 = .ok (.putfield 59, 3) := by decide +kernel
theorem dX4_init_98 : decode cX4_init 98 = .ok (.aload_n 0, 1) := by decide +kernel
theorem dX4_init_99 : decode cX4_init 99 = .ok (.iconst 0, 1) := by decide +kernel
theorem dX4_init_100 : decode cX4_init 100 = .ok (.putfield 62, 3) := by decide +kernel
theorem dX4_init_103 : decode cX4_init 103 = .ok (.iconst 0, 1) := by decide +kernel
theorem dX4_init_104 : decode cX4_init 104 = .ok (.istore_n 1, 1) := by decide +kernel
theorem dX4_init_105 : decode cX4_init 105 = .ok (.iload_n 1, 1) := by decide +kernel
theorem dX4_init_106 : decode cX4_init 106 = .ok (.bipush 10, 2) := by decide +kernel
theorem dX4_init_108 : decode cX4_init 108 = .ok (.if_icmp .ge 22, 3) := by decide +kernel
theorem dX4_init_111 : decode cX4_init 111 = .ok (.aload_n 0, 1) := by decide +kernel
theorem dX4_init_112 : decode cX4_init 112 = .ok (.getfield 37, 3) := by decide +kernel
theorem dX4_init_115 : decode cX4_init 115 = .ok (.iload_n 1, 1) := by decide +kernel
theorem dX4_init_116 : decode cX4_init 116 = .ok (.new 35, 3) := by decide +kernel
theorem dX4_init_119 : decode cX4_init 119 = .ok (.dup, 1) := by decide +kernel
theorem dX4_init_120 : decode cX4_init 120 = .ok (.invokespecial 66, 3) := by decide +kernel
theorem dX4_init_123 : decode cX4_init 123 = .ok (.aastore, 1) := by decide +kernel
theorem dX4_init_124 : decode cX4_init 124 = .ok (.iinc 1 1, 3) := by decide +kernel
theorem dX4_init_127 : decode cX4_init 127 = .ok (.goto (-22), 3) := by decide +kernel
theorem dX4_init_130 : decode cX4_init 130 = .ok (.iconst 0, 1) := by decide +kernel
theorem dX4_init_131 : decode cX4_init 131 = .ok (.istore_n 1, 1) := by decide +kernel
theorem dX4_init_132 : decode cX4_init 132 = .ok (.iload_n 1, 1) := by decide +kernel
theorem dX4_init_133 : decode cX4_init 133 = .ok (.iconst 2, 1) := by decide +kernel
theorem dX4_init_134 : decode cX4_init 134 = .ok (.if_icmp .ge 22, 3) := by decide +kernel
theorem dX4_init_137 : decode cX4_init 137 = .ok (.aload_n 0, 1) := by decide +kernel
theorem dX4_init_138 : decode cX4_init 138 = .ok (.getfield 45, 3) := by decide +kernel
theorem dX4_init_141 : decode cX4_init 141 = .ok (.iload_n 1, 1) := by decide +kernel
theorem dX4_init_142 : decode cX4_init 142 = .ok (.new 35, 3) := by decide +kernel
theorem dX4_init_145 : decode cX4_init 145 = .ok (.dup, 1) := by decide +kernel
theorem dX4_init_146 : decode cX4_init 146 = .ok (.invokespecial 66, 3) := by decide +kernel
theorem dX4_init_149 : decode cX4_init 149 = .ok (.aastore, 1) := by decide +kernel
theorem dX4_init_150 : decode cX4_init 150 = .ok (.iinc 1 1, 3) := by decide +kernel
theorem dX4_init_153 : decode cX4_init 153 = .ok (.goto (-21), 3) := by decide +kernel
theorem dX4_init_156 : decode cX4_init 156 = .ok (.return_, 1) := by decide +kernel
theorem dX4_type_0 : decode cX4_type 0 = .ok (.iload_n 1, 1) := by decide +kernel
theorem dX4_type_1 : decode cX4_type 1 = .ok (.ifCond .lt 10, 3) := by decide +kernel
theorem dX4_type_4 : decode cX4_type 4 = .ok (.iload_n 1, 1) := by decide +kernel
theorem dX4_type_5 : decode cX4_type 5 = .ok (.sipush 255, 3) := by decide +kernel
theorem dX4_type_8 : decode cX4_type 8 = .ok (.if_icmp .le 5, 3) := by decide +kernel
theorem dX4_type_11 : decode cX4_type 11 = .ok (.iconst (-1), 1) := by decide +kernel
theorem dX4_type_12 : decode cX4_type 12 = .ok (.ireturn, 1) := by decide +kernel
theorem dX4_type_13 : decode cX4_type 13 = .ok (.aload_n 0, 1) := by decide +kernel
theorem dX4_type_14 : decode cX4_type 14 = .ok (.getfield 10, 3) := by decide +kernel
theorem dX4_type_17 : decode cX4_type 17 = .ok (.getfield 67, 3) := by decide +kernel
theorem dX4_type_20 : decode cX4_type 20 = .ok (.sipush 150, 3) := by decide +kernel
theorem dX4_type_23 : decode cX4_type 23 = .ok (.if_icmp .lt 6, 3) := by decide +kernel
theorem dX4_type_26 : decode cX4_type 26 = .ok (.bipush (-3), 2) := by decide +kernel
theorem dX4_type_28 : decode cX4_type 28 = .ok (.ireturn, 1) := by decide +kernel
theorem dX4_type_29 : decode cX4_type 29 = .ok (.aload_n 0, 1) := by decide +kernel
theorem dX4_type_30 : decode cX4_type 30 = .ok (.getfield 10, 3) := by decide +kernel
theorem dX4_type_33 : decode cX4_type 33 = .ok (.iload_n 1, 1) := by decide +kernel
theorem dX4_type_34 : decode cX4_type 34 = .ok (.invokevirtual 70, 3) := by decide +kernel
theorem dX4_type_37 : decode cX4_type 37 = .ok (.aload_n 0, 1) := by decide +kernel
theorem dX4_type_38 : decode cX4_type 38 = .ok (.getfield 10, 3) := by decide +kernel
theorem dX4_type_41 : decode cX4_type 41 = .ok (.getfield 67, 3) := by decide +kernel
theorem dX4_type_44 : decode cX4_type 44 = .ok (.ireturn, 1) := by decide +kernel
theorem dX4_clear_0 : decode cX4_clear 0 = .ok (.aload_n 0, 1) := by decide +kernel
theorem dX4_clear_1 : decode cX4_clear 1 = .ok (.getfield 10, 3) := by decide +kernel
theorem dX4_clear_4 : decode cX4_clear 4 = .ok (.getfield 67, 3) := by decide +kernel
theorem dX4_clear_7 : decode cX4_clear 7 = .ok (.istore_n 1, 1) := by decide +kernel
theorem dX4_clear_8 : decode cX4_clear 8 = .ok (.aload_n 0, 1) := by decide +kernel
theorem dX4_clear_9 : decode cX4_clear 9 = .ok (.getfield 10, 3) := by decide +kernel
theorem dX4_clear_12 : decode cX4_clear 12 = .ok (.iconst 0, 1) := by decide +kernel
theorem dX4_clear_13 : decode cX4_clear 13 = .ok (.putfield 67, 3) := by decide +kernel
theorem dX4_clear_16 : decode cX4_clear 16 = .ok (.iload_n 1, 1) := by decide +kernel
theorem dX4_clear_17 : decode cX4_clear 17 = .ok (.ireturn, 1) := by decide +kernel
theorem dX4_band_0 : decode cX4_band 0 = .ok (.aload_n 0, 1) := by decide +kernel
theorem dX4_band_1 : decode cX4_band 1 = .ok (.getfield 10, 3) := by decide +kernel
theorem dX4_band_4 : decode cX4_band 4 = .ok (.invokevirtual 74, 3) := by decide +kernel
theorem dX4_band_7 : decode cX4_band 7 = .ok (.istore_n 1, 1) := by decide +kernel
theorem dX4_band_8 : decode cX4_band 8 = .ok (.iload_n 1, 1) := by decide +kernel
theorem dX4_band_9 : decode cX4_band 9 = .ok (.ifCond .ge 5, 3) := by decide +kernel
theorem dX4_band_12 : decode cX4_band 12 = .ok (.iload_n 1, 1) := by decide +kernel
theorem dX4_band_13 : decode cX4_band 13 = .ok (.ireturn, 1) := by decide +kernel
theorem dX4_band_14 : decode cX4_band 14 = .ok (.aload_n 0, 1) := by decide +kernel
theorem dX4_band_15 : decode cX4_band 15 = .ok (.getfield 27, 3) := by decide +kernel
theorem dX4_band_18 : decode cX4_band 18 = .ok (.aload_n 0, 1) := by decide +kernel
theorem dX4_band_19 : decode cX4_band 19 = .ok (.getfield 10, 3) := by decide +kernel
theorem dX4_band_22 : decode cX4_band 22 = .ok (.getfield 78, 3) := by decide +kernel
theorem dX4_band_25 : decode cX4_band 25 = .ok (.invokevirtual 79, 3) := by decide +kernel
theorem dX4_band_28 : decode cX4_band 28 = .ok (.aload_n 0, 1) := by decide +kernel
theorem dX4_band_29 : decode cX4_band 29 = .ok (.getfield 32, 3) := by decide +kernel
theorem dX4_band_32 : decode cX4_band 32 = .ok (.aload_n 0, 1) := by decide +kernel
theorem dX4_band_33 : decode cX4_band 33 = .ok (.getfield 10, 3) := by decide +kernel
theorem dX4_band_36 : decode cX4_band 36 = .ok (.getfield 85, 3) := by decide +kernel
theorem dX4_band_39 : decode cX4_band 39 = .ok (.invokevirtual 86, 3) := by decide +kernel
theorem dX4_band_42 : decode cX4_band 42 = .ok (.aload_n 0, 1) := by decide +kernel
theorem dX4_band_43 : decode cX4_band 43 = .ok (.getfield 10, 3) := by decide +kernel
theorem dX4_band_46 : decode cX4_band 46 = .ok (.iconst 0, 1) := by decide +kernel
theorem dX4_band_47 : decode cX4_band 47 = .ok (.putfield 67, 3) := by decide +kernel
theorem dX4_band_50 : decode cX4_band 50 = .ok (.aload_n 0, 1) := by decide +kernel
theorem dX4_band_51 : decode cX4_band 51 = .ok (.iconst 0, 1) := by decide +kernel
theorem dX4_band_52 : decode cX4_band 52 = .ok (.putfield 41, 3) := by decide +kernel
theorem dX4_band_55 : decode cX4_band 55 = .ok (.aload_n 0, 1) := by decide +kernel
theorem dX4_band_56 : decode cX4_band 56 = .ok (.iconst 0, 1) := by decide +kernel
theorem dX4_band_57 : decode cX4_band 57 = .ok (.putfield 59, 3) := by decide +kernel
theorem dX4_band_60 : decode cX4_band 60 = .ok (.iconst 0, 1) := by decide +kernel
theorem dX4_band_61 : decode cX4_band 61 = .ok (.istore_n 2, 1) := by decide +kernel
theorem dX4_band_62 : decode cX4_band 62 = .ok (.iload_n 2, 1) := by decide +kernel
theorem dX4_band_63 : decode cX4_band 63 = .ok (.iconst 2, 1) := by decide +kernel
theorem dX4_band_64 : decode cX4_band 64 = .ok (.if_icmp .ge 16, 3) := by decide +kernel
theorem dX4_band_67 : decode cX4_band 67 = .ok (.aload_n 0, 1) := by decide +kernel
theorem dX4_band_68 : decode cX4_band 68 = .ok (.getfield 48, 3) := by decide +kernel
theorem dX4_band_71 : decode cX4_band 71 = .ok (.iload_n 2, 1) := by decide +kernel
theorem dX4_band_72 : decode cX4_band 72 = .ok (.iconst 0, 1) := by decide +kernel
theorem dX4_band_73 : decode cX4_band 73 = .ok (.bastore, 1) := by decide +kernel
theorem dX4_band_74 : decode cX4_band 74 = .ok (.iinc 2 1, 3) := by decide +kernel
theorem dX4_band_77 : decode cX4_band 77 = .ok (.goto (-15), 3) := by decide +kernel
theorem dX4_band_80 : decode cX4_band 80 = .ok (.aload_n 0, 1) := by decide +kernel
theorem dX4_band_81 : decode cX4_band 81 = .ok (.iconst 0, 1) := by decide +kernel
theorem dX4_band_82 : decode cX4_band 82 = .ok (.putfield 62, 3) := by decide +kernel
theorem dX4_band_85 : decode cX4_band 85 = .ok (.iload_n 1, 1) := by decide +kernel
theorem dX4_band_86 : decode cX4_band 86 = .ok (.ireturn, 1) := by decide +kernel
theorem dX4_player_0 : decode cX4_player 0 = .ok (.aload_n 0, 1) := by decide +kernel
theorem dX4_player_1 : decode cX4_player 1 = .ok (.iload_n 1, 1) := by decide +kernel
theorem dX4_player_2 : decode cX4_player 2 = .ok (.invokevirtual 89, 3) := by decide +kernel
theorem dX4_player_5 : decode cX4_player 5 = .ok (.ifCond .ne 5, 3) := by decide +kernel
theorem dX4_player_8 : decode cX4_player 8 = .ok (.iconst (-1), 1) := by decide +kernel
theorem dX4_player_9 : decode cX4_player 9 = .ok (.ireturn, 1) := by decide +kernel
theorem dX4_player_10 : decode cX4_player 10 = .ok (.iload_n 2, 1) := by decide +kernel
theorem dX4_player_11 : decode cX4_player 11 = .ok (.tableswitch 85 0 4 #[33, 43, 53, 63, 73], 33) := by decide +kernel
theorem dX4_player_44 : decode cX4_player 44 = .ok (.aload_n 0, 1) := by decide +kernel
theorem dX4_player_45 : decode cX4_player 45 = .ok (.getfield 27, 3) := by decide +kernel
theorem dX4_player_48 : decode cX4_player 48 = .ok (.getfield 93, 3) := by decide +kernel
theorem dX4_player_51 : decode cX4_player 51 = .ok (.iload_n 1, 1) := by decide +kernel
theorem dX4_player_52 : decode cX4_player 52 = .ok (.iaload, 1) := by decide +kernel
theorem dX4_player_53 : decode cX4_player 53 = .ok (.ireturn, 1) := by decide +kernel
theorem dX4_player_54 : decode cX4_player 54 = .ok (.aload_n 0, 1) := by decide +kernel
theorem dX4_player_55 : decode cX4_player 55 = .ok (.getfield 27, 3) := by decide +kernel
theorem dX4_player_58 : decode cX4_player 58 = .ok (.getfield 96, 3) := by decide +kernel
theorem dX4_player_61 : decode cX4_player 61 = .ok (.iload_n 1, 1) := by decide +kernel
theorem dX4_player_62 : decode cX4_player 62 = .ok (.iaload, 1) := by decide +kernel
theorem dX4_player_63 : decode cX4_player 63 = .ok (.ireturn, 1) := by decide +kernel
theorem dX4_player_64 : decode cX4_player 64 = .ok (.aload_n 0, 1) := by decide +kernel
theorem dX4_player_65 : decode cX4_player 65 = .ok (.getfield 27, 3) := by decide +kernel
theorem dX4_player_68 : decode cX4_player 68 = .ok (.getfield 99, 3) := by decide +kernel
theorem dX4_player_71 : decode cX4_player 71 = .ok (.iload_n 1, 1) := by decide +kernel
theorem dX4_player_72 : decode cX4_player 72 = .ok (.iaload, 1) := by decide +kernel
theorem dX4_player_73 : decode cX4_player 73 = .ok (.ireturn, 1) := by decide +kernel
theorem dX4_player_74 : decode cX4_player 74 = .ok (.aload_n 0, 1) := by decide +kernel
theorem dX4_player_75 : decode cX4_player 75 = .ok (.getfield 27, 3) := by decide +kernel
theorem dX4_player_78 : decode cX4_player 78 = .ok (.getfield 102, 3) := by decide +kernel
theorem dX4_player_81 : decode cX4_player 81 = .ok (.iload_n 1, 1) := by decide +kernel
theorem dX4_player_82 : decode cX4_player 82 = .ok (.iaload, 1) := by decide +kernel
theorem dX4_player_83 : decode cX4_player 83 = .ok (.ireturn, 1) := by decide +kernel
theorem dX4_player_84 : decode cX4_player 84 = .ok (.aload_n 0, 1) := by decide +kernel
theorem dX4_player_85 : decode cX4_player 85 = .ok (.getfield 32, 3) := by decide +kernel
theorem dX4_player_88 : decode cX4_player 88 = .ok (.getfield 105, 3) := by decide +kernel
theorem dX4_player_91 : decode cX4_player 91 = .ok (.iload_n 1, 1) := by decide +kernel
theorem dX4_player_92 : decode cX4_player 92 = .ok (.ishr, 1) := by decide +kernel
theorem dX4_player_93 : decode cX4_player 93 = .ok (.iconst 1, 1) := by decide +kernel
theorem dX4_player_94 : decode cX4_player 94 = .ok (.iand, 1) := by decide +kernel
theorem dX4_player_95 : decode cX4_player 95 = .ok (.ireturn, 1) := by decide +kernel
theorem dX4_player_96 : decode cX4_player 96 = .ok (.iconst (-1), 1) := by decide +kernel
theorem dX4_player_97 : decode cX4_player 97 = .ok (.ireturn, 1) := by decide +kernel
theorem dX4_span_0 : decode cX4_span 0 = .ok (.aload_n 0, 1) := by decide +kernel
theorem dX4_span_1 : decode cX4_span 1 = .ok (.iload_n 1, 1) := by decide +kernel
theorem dX4_span_2 : decode cX4_span 2 = .ok (.invokevirtual 89, 3) := by decide +kernel
theorem dX4_span_5 : decode cX4_span 5 = .ok (.ifCond .eq 16, 3) := by decide +kernel
theorem dX4_span_8 : decode cX4_span 8 = .ok (.aload_n 0, 1) := by decide +kernel
theorem dX4_span_9 : decode cX4_span 9 = .ok (.getfield 27, 3) := by decide +kernel
theorem dX4_span_12 : decode cX4_span 12 = .ok (.getfield 93, 3) := by decide +kernel
theorem dX4_span_15 : decode cX4_span 15 = .ok (.iload_n 1, 1) := by decide +kernel
theorem dX4_span_16 : decode cX4_span 16 = .ok (.iaload, 1) := by decide +kernel
theorem dX4_span_17 : decode cX4_span 17 = .ok (.iconst 1, 1) := by decide +kernel
theorem dX4_span_18 : decode cX4_span 18 = .ok (.if_icmp .eq 5, 3) := by decide +kernel
theorem dX4_span_21 : decode cX4_span 21 = .ok (.iconst (-1), 1) := by decide +kernel
theorem dX4_span_22 : decode cX4_span 22 = .ok (.ireturn, 1) := by decide +kernel
theorem dX4_span_23 : decode cX4_span 23 = .ok (.aload_n 0, 1) := by decide +kernel
theorem dX4_span_24 : decode cX4_span 24 = .ok (.getfield 27, 3) := by decide +kernel
theorem dX4_span_27 : decode cX4_span 27 = .ok (.getfield 108, 3) := by decide +kernel
theorem dX4_span_30 : decode cX4_span 30 = .ok (.iload_n 1, 1) := by decide +kernel
theorem dX4_span_31 : decode cX4_span 31 = .ok (.iaload, 1) := by decide +kernel
theorem dX4_span_32 : decode cX4_span 32 = .ok (.ireturn, 1) := by decide +kernel
theorem dX4_chord_0 : decode cX4_chord 0 = .ok (.aload_n 0, 1) := by decide +kernel
theorem dX4_chord_1 : decode cX4_chord 1 = .ok (.iload_n 1, 1) := by decide +kernel
theorem dX4_chord_2 : decode cX4_chord 2 = .ok (.invokevirtual 111, 3) := by decide +kernel
theorem dX4_chord_5 : decode cX4_chord 5 = .ok (.ifCond .eq 8, 3) := by decide +kernel
theorem dX4_chord_8 : decode cX4_chord 8 = .ok (.iload_n 2, 1) := by decide +kernel
theorem dX4_chord_9 : decode cX4_chord 9 = .ok (.iconst (-1), 1) := by decide +kernel
theorem dX4_chord_10 : decode cX4_chord 10 = .ok (.if_icmp .ge 5, 3) := by decide +kernel
theorem dX4_chord_13 : decode cX4_chord 13 = .ok (.iconst (-1), 1) := by decide +kernel
theorem dX4_chord_14 : decode cX4_chord 14 = .ok (.ireturn, 1) := by decide +kernel
theorem dX4_chord_15 : decode cX4_chord 15 = .ok (.aload_n 0, 1) := by decide +kernel
theorem dX4_chord_16 : decode cX4_chord 16 = .ok (.getfield 32, 3) := by decide +kernel
theorem dX4_chord_19 : decode cX4_chord 19 = .ok (.iload_n 1, 1) := by decide +kernel
theorem dX4_chord_20 : decode cX4_chord 20 = .ok (.invokevirtual 114, 3) := by decide +kernel
theorem dX4_chord_23 : decode cX4_chord 23 = .ok (.istore_n 3, 1) := by decide +kernel
theorem dX4_chord_24 : decode cX4_chord 24 = .ok (.iload_n 2, 1) := by decide +kernel
theorem dX4_chord_25 : decode cX4_chord 25 = .ok (.iconst (-1), 1) := by decide +kernel
theorem dX4_chord_26 : decode cX4_chord 26 = .ok (.if_icmp .ne 5, 3) := by decide +kernel
theorem dX4_chord_29 : decode cX4_chord 29 = .ok (.iload_n 3, 1) := by decide +kernel
theorem dX4_chord_30 : decode cX4_chord 30 = .ok (.ireturn, 1) := by decide +kernel
theorem dX4_chord_31 : decode cX4_chord 31 = .ok (.iload_n 2, 1) := by decide +kernel
theorem dX4_chord_32 : decode cX4_chord 32 = .ok (.iload_n 3, 1) := by decide +kernel
theorem dX4_chord_33 : decode cX4_chord 33 = .ok (.if_icmp .ge 15, 3) := by decide +kernel
theorem dX4_chord_36 : decode cX4_chord 36 = .ok (.aload_n 0, 1) := by decide +kernel
theorem dX4_chord_37 : decode cX4_chord 37 = .ok (.getfield 32, 3) := by decide +kernel
theorem dX4_chord_40 : decode cX4_chord 40 = .ok (.iload_n 1, 1) := by decide +kernel
theorem dX4_chord_41 : decode cX4_chord 41 = .ok (.iload_n 2, 1) := by decide +kernel
theorem dX4_chord_42 : decode cX4_chord 42 = .ok (.invokevirtual 118, 3) := by decide +kernel
theorem dX4_chord_45 : decode cX4_chord 45 = .ok (.goto 5, 3) := by decide +kernel
theorem dX4_chord_48 : decode cX4_chord 48 = .ok (.bipush (-9), 2) := by decide +kernel
theorem dX4_chord_50 : decode cX4_chord 50 = .ok (.ireturn, 1) := by decide +kernel
theorem dX4_puts_0 : decode cX4_puts 0 = .ok (.iload_n 1, 1) := by decide +kernel
theorem dX4_puts_1 : decode cX4_puts 1 = .ok (.ifCond .lt 24, 3) := by decide +kernel
theorem dX4_puts_4 : decode cX4_puts 4 = .ok (.iload_n 1, 1) := by decide +kernel
theorem dX4_puts_5 : decode cX4_puts 5 = .ok (.aload_n 0, 1) := by decide +kernel
theorem dX4_puts_6 : decode cX4_puts 6 = .ok (.getfield 32, 3) := by decide +kernel
theorem dX4_puts_9 : decode cX4_puts 9 = .ok (.getfield 122, 3) := by decide +kernel
theorem dX4_puts_12 : decode cX4_puts 12 = .ok (.if_icmp .gt 13, 3) := by decide +kernel
theorem dX4_puts_15 : decode cX4_puts 15 = .ok (.iload_n 2, 1) := by decide +kernel
theorem dX4_puts_16 : decode cX4_puts 16 = .ok (.iload_n 3, 1) := by decide +kernel
theorem dX4_puts_17 : decode cX4_puts 17 = .ok (.iload 4, 2) := by decide +kernel
theorem dX4_puts_19 : decode cX4_puts 19 = .ok (.invokestatic 125, 3) := by decide +kernel
theorem dX4_puts_22 : decode cX4_puts 22 = .ok (.ifCond .ne 5, 3) := by decide +kernel
theorem dX4_puts_25 : decode cX4_puts 25 = .ok (.iconst (-1), 1) := by decide +kernel
theorem dX4_puts_26 : decode cX4_puts 26 = .ok (.ireturn, 1) := by decide +kernel
theorem dX4_puts_27 : decode cX4_puts 27 = .ok (.iload_n 1, 1) := by decide +kernel
theorem dX4_puts_28 : decode cX4_puts 28 = .ok (.aload_n 0, 1) := by decide +kernel
theorem dX4_puts_29 : decode cX4_puts 29 = .ok (.getfield 32, 3) := by decide +kernel
theorem dX4_puts_32 : decode cX4_puts 32 = .ok (.getfield 122, 3) := by decide +kernel
theorem dX4_puts_35 : decode cX4_puts 35 = .ok (.if_icmp .ge 21, 3) := by decide +kernel
theorem dX4_puts_38 : decode cX4_puts 38 = .ok (.aload_n 0, 1) := by decide +kernel
theorem dX4_puts_39 : decode cX4_puts 39 = .ok (.getfield 32, 3) := by decide +kernel
theorem dX4_puts_42 : decode cX4_puts 42 = .ok (.iload_n 1, 1) := by decide +kernel
theorem dX4_puts_43 : decode cX4_puts 43 = .ok (.iload_n 2, 1) := by decide +kernel
theorem dX4_puts_44 : decode cX4_puts 44 = .ok (.iload_n 3, 1) := by decide +kernel
theorem dX4_puts_45 : decode cX4_puts 45 = .ok (.iload 4, 2) := by decide +kernel
theorem dX4_puts_47 : decode cX4_puts 47 = .ok (.invokevirtual 129, 3) := by decide +kernel
theorem dX4_puts_50 : decode cX4_puts 50 = .ok (.ifCond .eq 6, 3) := by decide +kernel
theorem dX4_puts_53 : decode cX4_puts 53 = .ok (.bipush (-2), 2) := by decide +kernel
theorem dX4_puts_55 : decode cX4_puts 55 = .ok (.ireturn, 1) := by decide +kernel
theorem dX4_puts_56 : decode cX4_puts 56 = .ok (.iload_n 1, 1) := by decide +kernel
theorem dX4_puts_57 : decode cX4_puts 57 = .ok (.bipush 8, 2) := by decide +kernel
theorem dX4_puts_59 : decode cX4_puts 59 = .ok (.if_icmp .lt 6, 3) := by decide +kernel
theorem dX4_puts_62 : decode cX4_puts 62 = .ok (.bipush (-3), 2) := by decide +kernel
theorem dX4_puts_64 : decode cX4_puts 64 = .ok (.ireturn, 1) := by decide +kernel
theorem dX4_puts_65 : decode cX4_puts 65 = .ok (.aload_n 0, 1) := by decide +kernel
theorem dX4_puts_66 : decode cX4_puts 66 = .ok (.invokevirtual 133, 3) := by decide +kernel
theorem dX4_puts_69 : decode cX4_puts 69 = .ok (.aload_n 0, 1) := by decide +kernel
theorem dX4_puts_70 : decode cX4_puts 70 = .ok (.getfield 32, 3) := by decide +kernel
theorem dX4_puts_73 : decode cX4_puts 73 = .ok (.iload_n 1, 1) := by decide +kernel
theorem dX4_puts_74 : decode cX4_puts 74 = .ok (.iload_n 2, 1) := by decide +kernel
theorem dX4_puts_75 : decode cX4_puts 75 = .ok (.iload_n 3, 1) := by decide +kernel
theorem dX4_puts_76 : decode cX4_puts 76 = .ok (.iload 4, 2) := by decide +kernel
theorem dX4_puts_78 : decode cX4_puts 78 = .ok (.invokevirtual 136, 3) := by decide +kernel
theorem dX4_puts_81 : decode cX4_puts 81 = .ok (.aload_n 0, 1) := by decide +kernel
theorem dX4_puts_82 : decode cX4_puts 82 = .ok (.getfield 32, 3) := by decide +kernel
theorem dX4_puts_85 : decode cX4_puts 85 = .ok (.getfield 122, 3) := by decide +kernel
theorem dX4_puts_88 : decode cX4_puts 88 = .ok (.ireturn, 1) := by decide +kernel
theorem dX4_takes_0 : decode cX4_takes 0 = .ok (.aload_n 0, 1) := by decide +kernel
theorem dX4_takes_1 : decode cX4_takes 1 = .ok (.iload_n 1, 1) := by decide +kernel
theorem dX4_takes_2 : decode cX4_takes 2 = .ok (.invokevirtual 111, 3) := by decide +kernel
theorem dX4_takes_5 : decode cX4_takes 5 = .ok (.ifCond .ne 5, 3) := by decide +kernel
theorem dX4_takes_8 : decode cX4_takes 8 = .ok (.iconst (-1), 1) := by decide +kernel
theorem dX4_takes_9 : decode cX4_takes 9 = .ok (.ireturn, 1) := by decide +kernel
theorem dX4_takes_10 : decode cX4_takes 10 = .ok (.aload_n 0, 1) := by decide +kernel
theorem dX4_takes_11 : decode cX4_takes 11 = .ok (.invokevirtual 133, 3) := by decide +kernel
theorem dX4_takes_14 : decode cX4_takes 14 = .ok (.aload_n 0, 1) := by decide +kernel
theorem dX4_takes_15 : decode cX4_takes 15 = .ok (.getfield 32, 3) := by decide +kernel
theorem dX4_takes_18 : decode cX4_takes 18 = .ok (.iload_n 1, 1) := by decide +kernel
theorem dX4_takes_19 : decode cX4_takes 19 = .ok (.invokevirtual 140, 3) := by decide +kernel
theorem dX4_takes_22 : decode cX4_takes 22 = .ok (.aload_n 0, 1) := by decide +kernel
theorem dX4_takes_23 : decode cX4_takes 23 = .ok (.getfield 32, 3) := by decide +kernel
theorem dX4_takes_26 : decode cX4_takes 26 = .ok (.getfield 122, 3) := by decide +kernel
theorem dX4_takes_29 : decode cX4_takes 29 = .ok (.ireturn, 1) := by decide +kernel
theorem dX4_calls_0 : decode cX4_calls 0 = .ok (.aload_n 0, 1) := by decide +kernel
theorem dX4_calls_1 : decode cX4_calls 1 = .ok (.iload_n 1, 1) := by decide +kernel
theorem dX4_calls_2 : decode cX4_calls 2 = .ok (.invokevirtual 89, 3) := by decide +kernel
theorem dX4_calls_5 : decode cX4_calls 5 = .ok (.ifCond .ne 5, 3) := by decide +kernel
theorem dX4_calls_8 : decode cX4_calls 8 = .ok (.iconst (-1), 1) := by decide +kernel
theorem dX4_calls_9 : decode cX4_calls 9 = .ok (.ireturn, 1) := by decide +kernel
theorem dX4_calls_10 : decode cX4_calls 10 = .ok (.aload_n 0, 1) := by decide +kernel
theorem dX4_calls_11 : decode cX4_calls 11 = .ok (.invokevirtual 133, 3) := by decide +kernel
theorem dX4_calls_14 : decode cX4_calls 14 = .ok (.aload_n 0, 1) := by decide +kernel
theorem dX4_calls_15 : decode cX4_calls 15 = .ok (.getfield 32, 3) := by decide +kernel
theorem dX4_calls_18 : decode cX4_calls 18 = .ok (.dup, 1) := by decide +kernel
theorem dX4_calls_19 : decode cX4_calls 19 = .ok (.getfield 105, 3) := by decide +kernel
theorem dX4_calls_22 : decode cX4_calls 22 = .ok (.iconst 1, 1) := by decide +kernel
theorem dX4_calls_23 : decode cX4_calls 23 = .ok (.iload_n 1, 1) := by decide +kernel
theorem dX4_calls_24 : decode cX4_calls 24 = .ok (.ishl, 1) := by decide +kernel
theorem dX4_calls_25 : decode cX4_calls 25 = .ok (.ixor, 1) := by decide +kernel
theorem dX4_calls_26 : decode cX4_calls 26 = .ok (.putfield 105, 3) := by decide +kernel
theorem dX4_calls_29 : decode cX4_calls 29 = .ok (.aload_n 0, 1) := by decide +kernel
theorem dX4_calls_30 : decode cX4_calls 30 = .ok (.getfield 32, 3) := by decide +kernel
theorem dX4_calls_33 : decode cX4_calls 33 = .ok (.getfield 105, 3) := by decide +kernel
theorem dX4_calls_36 : decode cX4_calls 36 = .ok (.iload_n 1, 1) := by decide +kernel
theorem dX4_calls_37 : decode cX4_calls 37 = .ok (.ishr, 1) := by decide +kernel
theorem dX4_calls_38 : decode cX4_calls 38 = .ok (.iconst 1, 1) := by decide +kernel
theorem dX4_calls_39 : decode cX4_calls 39 = .ok (.iand, 1) := by decide +kernel
theorem dX4_calls_40 : decode cX4_calls 40 = .ok (.ireturn, 1) := by decide +kernel
theorem dX4_tells_0 : decode cX4_tells 0 = .ok (.iload_n 1, 1) := by decide +kernel
theorem dX4_tells_1 : decode cX4_tells 1 = .ok (.iconst 0, 1) := by decide +kernel
theorem dX4_tells_2 : decode cX4_tells 2 = .ok (.bipush 20, 2) := by decide +kernel
theorem dX4_tells_4 : decode cX4_tells 4 = .ok (.invokestatic 143, 3) := by decide +kernel
theorem dX4_tells_7 : decode cX4_tells 7 = .ok (.ifCond .eq 13, 3) := by decide +kernel
theorem dX4_tells_10 : decode cX4_tells 10 = .ok (.iload_n 2, 1) := by decide +kernel
theorem dX4_tells_11 : decode cX4_tells 11 = .ok (.iconst 0, 1) := by decide +kernel
theorem dX4_tells_12 : decode cX4_tells 12 = .ok (.bipush 30, 2) := by decide +kernel
theorem dX4_tells_14 : decode cX4_tells 14 = .ok (.invokestatic 143, 3) := by decide +kernel
theorem dX4_tells_17 : decode cX4_tells 17 = .ok (.ifCond .ne 5, 3) := by decide +kernel
theorem dX4_tells_20 : decode cX4_tells 20 = .ok (.iconst (-1), 1) := by decide +kernel
theorem dX4_tells_21 : decode cX4_tells 21 = .ok (.ireturn, 1) := by decide +kernel
theorem dX4_tells_22 : decode cX4_tells 22 = .ok (.iload_n 1, 1) := by decide +kernel
theorem dX4_tells_23 : decode cX4_tells 23 = .ok (.aload_n 0, 1) := by decide +kernel
theorem dX4_tells_24 : decode cX4_tells 24 = .ok (.getfield 32, 3) := by decide +kernel
theorem dX4_tells_27 : decode cX4_tells 27 = .ok (.getfield 146, 3) := by decide +kernel
theorem dX4_tells_30 : decode cX4_tells 30 = .ok (.if_icmp .ne 17, 3) := by decide +kernel
theorem dX4_tells_33 : decode cX4_tells 33 = .ok (.iload_n 2, 1) := by decide +kernel
theorem dX4_tells_34 : decode cX4_tells 34 = .ok (.aload_n 0, 1) := by decide +kernel
theorem dX4_tells_35 : decode cX4_tells 35 = .ok (.getfield 32, 3) := by decide +kernel
theorem dX4_tells_38 : decode cX4_tells 38 = .ok (.getfield 149, 3) := by decide +kernel
theorem dX4_tells_41 : decode cX4_tells 41 = .ok (.if_icmp .ne 6, 3) := by decide +kernel
theorem dX4_tells_44 : decode cX4_tells 44 = .ok (.bipush (-2), 2) := by decide +kernel
theorem dX4_tells_46 : decode cX4_tells 46 = .ok (.ireturn, 1) := by decide +kernel
theorem dX4_tells_47 : decode cX4_tells 47 = .ok (.aload_n 0, 1) := by decide +kernel
theorem dX4_tells_48 : decode cX4_tells 48 = .ok (.invokevirtual 133, 3) := by decide +kernel
theorem dX4_tells_51 : decode cX4_tells 51 = .ok (.aload_n 0, 1) := by decide +kernel
theorem dX4_tells_52 : decode cX4_tells 52 = .ok (.getfield 32, 3) := by decide +kernel
theorem dX4_tells_55 : decode cX4_tells 55 = .ok (.iload_n 1, 1) := by decide +kernel
theorem dX4_tells_56 : decode cX4_tells 56 = .ok (.putfield 146, 3) := by decide +kernel
theorem dX4_tells_59 : decode cX4_tells 59 = .ok (.aload_n 0, 1) := by decide +kernel
theorem dX4_tells_60 : decode cX4_tells 60 = .ok (.getfield 32, 3) := by decide +kernel
theorem dX4_tells_63 : decode cX4_tells 63 = .ok (.iload_n 2, 1) := by decide +kernel
theorem dX4_tells_64 : decode cX4_tells 64 = .ok (.putfield 149, 3) := by decide +kernel
theorem dX4_tells_67 : decode cX4_tells 67 = .ok (.iconst 1, 1) := by decide +kernel
theorem dX4_tells_68 : decode cX4_tells 68 = .ok (.ireturn, 1) := by decide +kernel
theorem dX4_undo_0 : decode cX4_undo 0 = .ok (.aload_n 0, 1) := by decide +kernel
theorem dX4_undo_1 : decode cX4_undo 1 = .ok (.getfield 41, 3) := by decide +kernel
theorem dX4_undo_4 : decode cX4_undo 4 = .ok (.ifCond .gt 6, 3) := by decide +kernel
theorem dX4_undo_7 : decode cX4_undo 7 = .ok (.bipush (-2), 2) := by decide +kernel
theorem dX4_undo_9 : decode cX4_undo 9 = .ok (.ireturn, 1) := by decide +kernel
theorem dX4_undo_10 : decode cX4_undo 10 = .ok (.aload_n 0, 1) := by decide +kernel
theorem dX4_undo_11 : decode cX4_undo 11 = .ok (.dup, 1) := by decide +kernel
theorem dX4_undo_12 : decode cX4_undo 12 = .ok (.getfield 41, 3) := by decide +kernel
theorem dX4_undo_15 : decode cX4_undo 15 = .ok (.iconst 1, 1) := by decide +kernel
theorem dX4_undo_16 : decode cX4_undo 16 = .ok (.isub, 1) := by decide +kernel
theorem dX4_undo_17 : decode cX4_undo 17 = .ok (.putfield 41, 3) := by decide +kernel
theorem dX4_undo_20 : decode cX4_undo 20 = .ok (.aload_n 0, 1) := by decide +kernel
theorem dX4_undo_21 : decode cX4_undo 21 = .ok (.getfield 32, 3) := by decide +kernel
theorem dX4_undo_24 : decode cX4_undo 24 = .ok (.aload_n 0, 1) := by decide +kernel
theorem dX4_undo_25 : decode cX4_undo 25 = .ok (.getfield 37, 3) := by decide +kernel
theorem dX4_undo_28 : decode cX4_undo 28 = .ok (.aload_n 0, 1) := by decide +kernel
theorem dX4_undo_29 : decode cX4_undo 29 = .ok (.getfield 41, 3) := by decide +kernel
theorem dX4_undo_32 : decode cX4_undo 32 = .ok (.aaload, 1) := by decide +kernel
theorem dX4_undo_33 : decode cX4_undo 33 = .ok (.invokevirtual 86, 3) := by decide +kernel
theorem dX4_undo_36 : decode cX4_undo 36 = .ok (.aload_n 0, 1) := by decide +kernel
theorem dX4_undo_37 : decode cX4_undo 37 = .ok (.iconst 0, 1) := by decide +kernel
theorem dX4_undo_38 : decode cX4_undo 38 = .ok (.putfield 62, 3) := by decide +kernel
theorem dX4_undo_41 : decode cX4_undo 41 = .ok (.aload_n 0, 1) := by decide +kernel
theorem dX4_undo_42 : decode cX4_undo 42 = .ok (.getfield 41, 3) := by decide +kernel
theorem dX4_undo_45 : decode cX4_undo 45 = .ok (.ireturn, 1) := by decide +kernel
theorem dX4_could_0 : decode cX4_could 0 = .ok (.aload_n 0, 1) := by decide +kernel
theorem dX4_could_1 : decode cX4_could 1 = .ok (.iload_n 1, 1) := by decide +kernel
theorem dX4_could_2 : decode cX4_could 2 = .ok (.invokevirtual 89, 3) := by decide +kernel
theorem dX4_could_5 : decode cX4_could 5 = .ok (.ifCond .eq 29, 3) := by decide +kernel
theorem dX4_could_8 : decode cX4_could 8 = .ok (.aload_n 0, 1) := by decide +kernel
theorem dX4_could_9 : decode cX4_could 9 = .ok (.iload_n 2, 1) := by decide +kernel
theorem dX4_could_10 : decode cX4_could 10 = .ok (.invokevirtual 111, 3) := by decide +kernel
theorem dX4_could_13 : decode cX4_could 13 = .ok (.ifCond .eq 21, 3) := by decide +kernel
theorem dX4_could_16 : decode cX4_could 16 = .ok (.iload_n 3, 1) := by decide +kernel
theorem dX4_could_17 : decode cX4_could 17 = .ok (.ifCond .lt 17, 3) := by decide +kernel
theorem dX4_could_20 : decode cX4_could 20 = .ok (.iload_n 3, 1) := by decide +kernel
theorem dX4_could_21 : decode cX4_could 21 = .ok (.iconst 1, 1) := by decide +kernel
theorem dX4_could_22 : decode cX4_could 22 = .ok (.aload_n 0, 1) := by decide +kernel
theorem dX4_could_23 : decode cX4_could 23 = .ok (.getfield 32, 3) := by decide +kernel
theorem dX4_could_26 : decode cX4_could 26 = .ok (.iload_n 2, 1) := by decide +kernel
theorem dX4_could_27 : decode cX4_could 27 = .ok (.invokevirtual 114, 3) := by decide +kernel
theorem dX4_could_30 : decode cX4_could 30 = .ok (.ishl, 1) := by decide +kernel
theorem dX4_could_31 : decode cX4_could 31 = .ok (.if_icmp .lt 5, 3) := by decide +kernel
theorem dX4_could_34 : decode cX4_could 34 = .ok (.iconst (-1), 1) := by decide +kernel
theorem dX4_could_35 : decode cX4_could 35 = .ok (.ireturn, 1) := by decide +kernel
theorem dX4_could_36 : decode cX4_could 36 = .ok (.aload_n 0, 1) := by decide +kernel
theorem dX4_could_37 : decode cX4_could 37 = .ok (.getfield 27, 3) := by decide +kernel
theorem dX4_could_40 : decode cX4_could 40 = .ok (.iload_n 1, 1) := by decide +kernel
theorem dX4_could_41 : decode cX4_could 41 = .ok (.aload_n 0, 1) := by decide +kernel
theorem dX4_could_42 : decode cX4_could 42 = .ok (.getfield 32, 3) := by decide +kernel
theorem dX4_could_45 : decode cX4_could 45 = .ok (.iload_n 2, 1) := by decide +kernel
theorem dX4_could_46 : decode cX4_could 46 = .ok (.iload_n 3, 1) := by decide +kernel
theorem dX4_could_47 : decode cX4_could 47 = .ok (.invokevirtual 152, 3) := by decide +kernel
theorem dX4_could_50 : decode cX4_could 50 = .ok (.ifCond .eq 7, 3) := by decide +kernel
theorem dX4_could_53 : decode cX4_could 53 = .ok (.iconst 1, 1) := by decide +kernel
theorem dX4_could_54 : decode cX4_could 54 = .ok (.goto 4, 3) := by decide +kernel
theorem dX4_could_57 : decode cX4_could 57 = .ok (.iconst 0, 1) := by decide +kernel
theorem dX4_could_58 : decode cX4_could 58 = .ok (.ireturn, 1) := by decide +kernel
theorem dX4_spreads_0 : decode cX4_spreads 0 = .ok (.aload_n 0, 1) := by decide +kernel
theorem dX4_spreads_1 : decode cX4_spreads 1 = .ok (.iload_n 1, 1) := by decide +kernel
theorem dX4_spreads_2 : decode cX4_spreads 2 = .ok (.invokevirtual 111, 3) := by decide +kernel
theorem dX4_spreads_5 : decode cX4_spreads 5 = .ok (.ifCond .eq 21, 3) := by decide +kernel
theorem dX4_spreads_8 : decode cX4_spreads 8 = .ok (.aload_n 0, 1) := by decide +kernel
theorem dX4_spreads_9 : decode cX4_spreads 9 = .ok (.getfield 19, 3) := by decide +kernel
theorem dX4_spreads_12 : decode cX4_spreads 12 = .ok (.iload_n 1, 1) := by decide +kernel
theorem dX4_spreads_13 : decode cX4_spreads 13 = .ok (.aload_n 0, 1) := by decide +kernel
theorem dX4_spreads_14 : decode cX4_spreads 14 = .ok (.getfield 32, 3) := by decide +kernel
theorem dX4_spreads_17 : decode cX4_spreads 17 = .ok (.getfield 105, 3) := by decide +kernel
theorem dX4_spreads_20 : decode cX4_spreads 20 = .ok (.invokevirtual 156, 3) := by decide +kernel
theorem dX4_spreads_23 : decode cX4_spreads 23 = .ok (.goto 4, 3) := by decide +kernel
theorem dX4_spreads_26 : decode cX4_spreads 26 = .ok (.iconst (-1), 1) := by decide +kernel
theorem dX4_spreads_27 : decode cX4_spreads 27 = .ok (.ireturn, 1) := by decide +kernel
theorem dX4_score_0 : decode cX4_score 0 = .ok (.iload_n 1, 1) := by decide +kernel
theorem dX4_score_1 : decode cX4_score 1 = .ok (.iconst 0, 1) := by decide +kernel
theorem dX4_score_2 : decode cX4_score 2 = .ok (.iconst 2, 1) := by decide +kernel
theorem dX4_score_3 : decode cX4_score 3 = .ok (.invokestatic 143, 3) := by decide +kernel
theorem dX4_score_6 : decode cX4_score 6 = .ok (.ifCond .ne 5, 3) := by decide +kernel
theorem dX4_score_9 : decode cX4_score 9 = .ok (.iconst (-1), 1) := by decide +kernel
theorem dX4_score_10 : decode cX4_score 10 = .ok (.ireturn, 1) := by decide +kernel
theorem dX4_score_11 : decode cX4_score 11 = .ok (.aload_n 0, 1) := by decide +kernel
theorem dX4_score_12 : decode cX4_score 12 = .ok (.invokevirtual 159, 3) := by decide +kernel
theorem dX4_score_15 : decode cX4_score 15 = .ok (.ifCond .ne 6, 3) := by decide +kernel
theorem dX4_score_18 : decode cX4_score 18 = .ok (.bipush (-9), 2) := by decide +kernel
theorem dX4_score_20 : decode cX4_score 20 = .ok (.ireturn, 1) := by decide +kernel
theorem dX4_score_21 : decode cX4_score 21 = .ok (.iload_n 1, 1) := by decide +kernel
theorem dX4_score_22 : decode cX4_score 22 = .ok (.lookupswitch 42 #[(0, 26), (1, 34)], 26) := by decide +kernel
theorem dX4_score_48 : decode cX4_score 48 = .ok (.aload_n 0, 1) := by decide +kernel
theorem dX4_score_49 : decode cX4_score 49 = .ok (.getfield 19, 3) := by decide +kernel
theorem dX4_score_52 : decode cX4_score 52 = .ok (.getfield 163, 3) := by decide +kernel
theorem dX4_score_55 : decode cX4_score 55 = .ok (.ireturn, 1) := by decide +kernel
theorem dX4_score_56 : decode cX4_score 56 = .ok (.aload_n 0, 1) := by decide +kernel
theorem dX4_score_57 : decode cX4_score 57 = .ok (.getfield 19, 3) := by decide +kernel
theorem dX4_score_60 : decode cX4_score 60 = .ok (.invokevirtual 166, 3) := by decide +kernel
theorem dX4_score_63 : decode cX4_score 63 = .ok (.ireturn, 1) := by decide +kernel
theorem dX4_score_64 : decode cX4_score 64 = .ok (.aload_n 0, 1) := by decide +kernel
theorem dX4_score_65 : decode cX4_score 65 = .ok (.getfield 19, 3) := by decide +kernel
theorem dX4_score_68 : decode cX4_score 68 = .ok (.invokevirtual 169, 3) := by decide +kernel
theorem dX4_score_71 : decode cX4_score 71 = .ok (.ireturn, 1) := by decide +kernel
theorem dX4_hand_0 : decode cX4_hand 0 = .ok (.aload_n 0, 1) := by decide +kernel
theorem dX4_hand_1 : decode cX4_hand 1 = .ok (.iload_n 1, 1) := by decide +kernel
theorem dX4_hand_2 : decode cX4_hand 2 = .ok (.invokevirtual 111, 3) := by decide +kernel
theorem dX4_hand_5 : decode cX4_hand 5 = .ok (.ifCond .eq 11, 3) := by decide +kernel
theorem dX4_hand_8 : decode cX4_hand 8 = .ok (.aload_n 0, 1) := by decide +kernel
theorem dX4_hand_9 : decode cX4_hand 9 = .ok (.iload_n 2, 1) := by decide +kernel
theorem dX4_hand_10 : decode cX4_hand 10 = .ok (.invokevirtual 89, 3) := by decide +kernel
theorem dX4_hand_13 : decode cX4_hand 13 = .ok (.ifCond .ne 5, 3) := by decide +kernel
theorem dX4_hand_16 : decode cX4_hand 16 = .ok (.iconst (-1), 1) := by decide +kernel
theorem dX4_hand_17 : decode cX4_hand 17 = .ok (.ireturn, 1) := by decide +kernel
theorem dX4_hand_18 : decode cX4_hand 18 = .ok (.aload_n 0, 1) := by decide +kernel
theorem dX4_hand_19 : decode cX4_hand 19 = .ok (.invokevirtual 159, 3) := by decide +kernel
theorem dX4_hand_22 : decode cX4_hand 22 = .ok (.ifCond .eq 15, 3) := by decide +kernel
theorem dX4_hand_25 : decode cX4_hand 25 = .ok (.aload_n 0, 1) := by decide +kernel
theorem dX4_hand_26 : decode cX4_hand 26 = .ok (.getfield 19, 3) := by decide +kernel
theorem dX4_hand_29 : decode cX4_hand 29 = .ok (.iload_n 1, 1) := by decide +kernel
theorem dX4_hand_30 : decode cX4_hand 30 = .ok (.iload_n 2, 1) := by decide +kernel
theorem dX4_hand_31 : decode cX4_hand 31 = .ok (.invokevirtual 172, 3) := by decide +kernel
theorem dX4_hand_34 : decode cX4_hand 34 = .ok (.goto 5, 3) := by decide +kernel
theorem dX4_hand_37 : decode cX4_hand 37 = .ok (.bipush (-9), 2) := by decide +kernel
theorem dX4_hand_39 : decode cX4_hand 39 = .ok (.ireturn, 1) := by decide +kernel
theorem dX4_loud_0 : decode cX4_loud 0 = .ok (.aload_n 0, 1) := by decide +kernel
theorem dX4_loud_1 : decode cX4_loud 1 = .ok (.iload_n 1, 1) := by decide +kernel
theorem dX4_loud_2 : decode cX4_loud 2 = .ok (.invokevirtual 111, 3) := by decide +kernel
theorem dX4_loud_5 : decode cX4_loud 5 = .ok (.ifCond .eq 19, 3) := by decide +kernel
theorem dX4_loud_8 : decode cX4_loud 8 = .ok (.iload_n 2, 1) := by decide +kernel
theorem dX4_loud_9 : decode cX4_loud 9 = .ok (.ifCond .lt 15, 3) := by decide +kernel
theorem dX4_loud_12 : decode cX4_loud 12 = .ok (.iload_n 2, 1) := by decide +kernel
theorem dX4_loud_13 : decode cX4_loud 13 = .ok (.aload_n 0, 1) := by decide +kernel
theorem dX4_loud_14 : decode cX4_loud 14 = .ok (.getfield 32, 3) := by decide +kernel
theorem dX4_loud_17 : decode cX4_loud 17 = .ok (.iload_n 1, 1) := by decide +kernel
theorem dX4_loud_18 : decode cX4_loud 18 = .ok (.invokevirtual 114, 3) := by decide +kernel
theorem dX4_loud_21 : decode cX4_loud 21 = .ok (.if_icmp .lt 5, 3) := by decide +kernel
theorem dX4_loud_24 : decode cX4_loud 24 = .ok (.iconst (-1), 1) := by decide +kernel
theorem dX4_loud_25 : decode cX4_loud 25 = .ok (.ireturn, 1) := by decide +kernel
theorem dX4_loud_26 : decode cX4_loud 26 = .ok (.aload_n 0, 1) := by decide +kernel
theorem dX4_loud_27 : decode cX4_loud 27 = .ok (.invokevirtual 159, 3) := by decide +kernel
theorem dX4_loud_30 : decode cX4_loud 30 = .ok (.ifCond .eq 16, 3) := by decide +kernel
theorem dX4_loud_33 : decode cX4_loud 33 = .ok (.aload_n 0, 1) := by decide +kernel
theorem dX4_loud_34 : decode cX4_loud 34 = .ok (.getfield 19, 3) := by decide +kernel
theorem dX4_loud_37 : decode cX4_loud 37 = .ok (.iload_n 1, 1) := by decide +kernel
theorem dX4_loud_38 : decode cX4_loud 38 = .ok (.iload_n 2, 1) := by decide +kernel
theorem dX4_loud_39 : decode cX4_loud 39 = .ok (.iconst 4, 1) := by decide +kernel
theorem dX4_loud_40 : decode cX4_loud 40 = .ok (.invokevirtual 175, 3) := by decide +kernel
theorem dX4_loud_43 : decode cX4_loud 43 = .ok (.goto 5, 3) := by decide +kernel
theorem dX4_loud_46 : decode cX4_loud 46 = .ok (.bipush (-9), 2) := by decide +kernel
theorem dX4_loud_48 : decode cX4_loud 48 = .ok (.ireturn, 1) := by decide +kernel
theorem dX4_couldRest_0 : decode cX4_couldRest 0 = .ok (.aload_n 0, 1) := by decide +kernel
theorem dX4_couldRest_1 : decode cX4_couldRest 1 = .ok (.iload_n 1, 1) := by decide +kernel
theorem dX4_couldRest_2 : decode cX4_couldRest 2 = .ok (.invokevirtual 111, 3) := by decide +kernel
theorem dX4_couldRest_5 : decode cX4_couldRest 5 = .ok (.ifCond .ne 5, 3) := by decide +kernel
theorem dX4_couldRest_8 : decode cX4_couldRest 8 = .ok (.iconst (-1), 1) := by decide +kernel
theorem dX4_couldRest_9 : decode cX4_couldRest 9 = .ok (.ireturn, 1) := by decide +kernel
theorem dX4_couldRest_10 : decode cX4_couldRest 10 = .ok (.aload_n 0, 1) := by decide +kernel
theorem dX4_couldRest_11 : decode cX4_couldRest 11 = .ok (.invokevirtual 159, 3) := by decide +kernel
theorem dX4_couldRest_14 : decode cX4_couldRest 14 = .ok (.ifCond .ne 6, 3) := by decide +kernel
theorem dX4_couldRest_17 : decode cX4_couldRest 17 = .ok (.bipush (-9), 2) := by decide +kernel
theorem dX4_couldRest_19 : decode cX4_couldRest 19 = .ok (.ireturn, 1) := by decide +kernel
theorem dX4_couldRest_20 : decode cX4_couldRest 20 = .ok (.iconst 0, 1) := by decide +kernel
theorem dX4_couldRest_21 : decode cX4_couldRest 21 = .ok (.istore_n 2, 1) := by decide +kernel
theorem dX4_couldRest_22 : decode cX4_couldRest 22 = .ok (.iconst 0, 1) := by decide +kernel
theorem dX4_couldRest_23 : decode cX4_couldRest 23 = .ok (.istore_n 3, 1) := by decide +kernel
theorem dX4_couldRest_24 : decode cX4_couldRest 24 = .ok (.iload_n 3, 1) := by decide +kernel
theorem dX4_couldRest_25 : decode cX4_couldRest 25 = .ok (.aload_n 0, 1) := by decide +kernel
theorem dX4_couldRest_26 : decode cX4_couldRest 26 = .ok (.getfield 27, 3) := by decide +kernel
theorem dX4_couldRest_29 : decode cX4_couldRest 29 = .ok (.getfield 179, 3) := by decide +kernel
theorem dX4_couldRest_32 : decode cX4_couldRest 32 = .ok (.if_icmp .ge 39, 3) := by decide +kernel
theorem dX4_couldRest_35 : decode cX4_couldRest 35 = .ok (.aload_n 0, 1) := by decide +kernel
theorem dX4_couldRest_36 : decode cX4_couldRest 36 = .ok (.getfield 19, 3) := by decide +kernel
theorem dX4_couldRest_39 : decode cX4_couldRest 39 = .ok (.iload_n 1, 1) := by decide +kernel
theorem dX4_couldRest_40 : decode cX4_couldRest 40 = .ok (.iload_n 3, 1) := by decide +kernel
theorem dX4_couldRest_41 : decode cX4_couldRest 41 = .ok (.invokevirtual 172, 3) := by decide +kernel
theorem dX4_couldRest_44 : decode cX4_couldRest 44 = .ok (.ifCond .eq 21, 3) := by decide +kernel
theorem dX4_couldRest_47 : decode cX4_couldRest 47 = .ok (.aload_n 0, 1) := by decide +kernel
theorem dX4_couldRest_48 : decode cX4_couldRest 48 = .ok (.getfield 19, 3) := by decide +kernel
theorem dX4_couldRest_51 : decode cX4_couldRest 51 = .ok (.iload_n 1, 1) := by decide +kernel
theorem dX4_couldRest_52 : decode cX4_couldRest 52 = .ok (.iload_n 3, 1) := by decide +kernel
theorem dX4_couldRest_53 : decode cX4_couldRest 53 = .ok (.invokevirtual 180, 3) := by decide +kernel
theorem dX4_couldRest_56 : decode cX4_couldRest 56 = .ok (.ifCond .eq 9, 3) := by decide +kernel
theorem dX4_couldRest_59 : decode cX4_couldRest 59 = .ok (.iload_n 2, 1) := by decide +kernel
theorem dX4_couldRest_60 : decode cX4_couldRest 60 = .ok (.iconst 1, 1) := by decide +kernel
theorem dX4_couldRest_61 : decode cX4_couldRest 61 = .ok (.iload_n 3, 1) := by decide +kernel
theorem dX4_couldRest_62 : decode cX4_couldRest 62 = .ok (.ishl, 1) := by decide +kernel
theorem dX4_couldRest_63 : decode cX4_couldRest 63 = .ok (.ior, 1) := by decide +kernel
theorem dX4_couldRest_64 : decode cX4_couldRest 64 = .ok (.istore_n 2, 1) := by decide +kernel
theorem dX4_couldRest_65 : decode cX4_couldRest 65 = .ok (.iinc 3 1, 3) := by decide +kernel
theorem dX4_couldRest_68 : decode cX4_couldRest 68 = .ok (.goto (-44), 3) := by decide +kernel
theorem dX4_couldRest_71 : decode cX4_couldRest 71 = .ok (.iload_n 2, 1) := by decide +kernel
theorem dX4_couldRest_72 : decode cX4_couldRest 72 = .ok (.ireturn, 1) := by decide +kernel
theorem dX4_move_0 : decode cX4_move 0 = .ok (.aload_n 0, 1) := by decide +kernel
theorem dX4_move_1 : decode cX4_move 1 = .ok (.iload_n 1, 1) := by decide +kernel
theorem dX4_move_2 : decode cX4_move 2 = .ok (.invokevirtual 111, 3) := by decide +kernel
theorem dX4_move_5 : decode cX4_move 5 = .ok (.ifCond .eq 24, 3) := by decide +kernel
theorem dX4_move_8 : decode cX4_move 8 = .ok (.iload_n 1, 1) := by decide +kernel
theorem dX4_move_9 : decode cX4_move 9 = .ok (.aload_n 0, 1) := by decide +kernel
theorem dX4_move_10 : decode cX4_move 10 = .ok (.getfield 32, 3) := by decide +kernel
theorem dX4_move_13 : decode cX4_move 13 = .ok (.getfield 122, 3) := by decide +kernel
theorem dX4_move_16 : decode cX4_move 16 = .ok (.iconst 1, 1) := by decide +kernel
theorem dX4_move_17 : decode cX4_move 17 = .ok (.isub, 1) := by decide +kernel
theorem dX4_move_18 : decode cX4_move 18 = .ok (.if_icmp .eq 11, 3) := by decide +kernel
theorem dX4_move_21 : decode cX4_move 21 = .ok (.aload_n 0, 1) := by decide +kernel
theorem dX4_move_22 : decode cX4_move 22 = .ok (.iload_n 2, 1) := by decide +kernel
theorem dX4_move_23 : decode cX4_move 23 = .ok (.invokevirtual 89, 3) := by decide +kernel
theorem dX4_move_26 : decode cX4_move 26 = .ok (.ifCond .ne 5, 3) := by decide +kernel
theorem dX4_move_29 : decode cX4_move 29 = .ok (.iconst (-1), 1) := by decide +kernel
theorem dX4_move_30 : decode cX4_move 30 = .ok (.ireturn, 1) := by decide +kernel
theorem dX4_move_31 : decode cX4_move 31 = .ok (.aload_n 0, 1) := by decide +kernel
theorem dX4_move_32 : decode cX4_move 32 = .ok (.invokevirtual 159, 3) := by decide +kernel
theorem dX4_move_35 : decode cX4_move 35 = .ok (.ifCond .ne 6, 3) := by decide +kernel
theorem dX4_move_38 : decode cX4_move 38 = .ok (.bipush (-9), 2) := by decide +kernel
theorem dX4_move_40 : decode cX4_move 40 = .ok (.ireturn, 1) := by decide +kernel
theorem dX4_move_41 : decode cX4_move 41 = .ok (.aload_n 0, 1) := by decide +kernel
theorem dX4_move_42 : decode cX4_move 42 = .ok (.getfield 19, 3) := by decide +kernel
theorem dX4_move_45 : decode cX4_move 45 = .ok (.iload_n 2, 1) := by decide +kernel
theorem dX4_move_46 : decode cX4_move 46 = .ok (.iload_n 1, 1) := by decide +kernel
theorem dX4_move_47 : decode cX4_move 47 = .ok (.aload_n 0, 1) := by decide +kernel
theorem dX4_move_48 : decode cX4_move 48 = .ok (.getfield 19, 3) := by decide +kernel
theorem dX4_move_51 : decode cX4_move 51 = .ok (.iload_n 1, 1) := by decide +kernel
theorem dX4_move_52 : decode cX4_move 52 = .ok (.iload_n 2, 1) := by decide +kernel
theorem dX4_move_53 : decode cX4_move 53 = .ok (.invokevirtual 172, 3) := by decide +kernel
theorem dX4_move_56 : decode cX4_move 56 = .ok (.iload_n 1, 1) := by decide +kernel
theorem dX4_move_57 : decode cX4_move 57 = .ok (.iconst 1, 1) := by decide +kernel
theorem dX4_move_58 : decode cX4_move 58 = .ok (.iadd, 1) := by decide +kernel
theorem dX4_move_59 : decode cX4_move 59 = .ok (.aload_n 0, 1) := by decide +kernel
theorem dX4_move_60 : decode cX4_move 60 = .ok (.getfield 19, 3) := by decide +kernel
theorem dX4_move_63 : decode cX4_move 63 = .ok (.iload_n 1, 1) := by decide +kernel
theorem dX4_move_64 : decode cX4_move 64 = .ok (.iconst 1, 1) := by decide +kernel
theorem dX4_move_65 : decode cX4_move 65 = .ok (.iadd, 1) := by decide +kernel
theorem dX4_move_66 : decode cX4_move 66 = .ok (.iload_n 2, 1) := by decide +kernel
theorem dX4_move_67 : decode cX4_move 67 = .ok (.invokevirtual 172, 3) := by decide +kernel
theorem dX4_move_70 : decode cX4_move 70 = .ok (.invokevirtual 184, 3) := by decide +kernel
theorem dX4_move_73 : decode cX4_move 73 = .ok (.ireturn, 1) := by decide +kernel
theorem dX4_reach_0 : decode cX4_reach 0 = .ok (.aload_n 0, 1) := by decide +kernel
theorem dX4_reach_1 : decode cX4_reach 1 = .ok (.getfield 19, 3) := by decide +kernel
theorem dX4_reach_4 : decode cX4_reach 4 = .ok (.aload_n 0, 1) := by decide +kernel
theorem dX4_reach_5 : decode cX4_reach 5 = .ok (.getfield 32, 3) := by decide +kernel
theorem dX4_reach_8 : decode cX4_reach 8 = .ok (.getfield 105, 3) := by decide +kernel
theorem dX4_reach_11 : decode cX4_reach 11 = .ok (.invokevirtual 188, 3) := by decide +kernel
theorem dX4_reach_14 : decode cX4_reach 14 = .ok (.iconst 0, 1) := by decide +kernel
theorem dX4_reach_15 : decode cX4_reach 15 = .ok (.istore_n 1, 1) := by decide +kernel
theorem dX4_reach_16 : decode cX4_reach 16 = .ok (.iload_n 1, 1) := by decide +kernel
theorem dX4_reach_17 : decode cX4_reach 17 = .ok (.aload_n 0, 1) := by decide +kernel
theorem dX4_reach_18 : decode cX4_reach 18 = .ok (.getfield 32, 3) := by decide +kernel
theorem dX4_reach_21 : decode cX4_reach 21 = .ok (.getfield 122, 3) := by decide +kernel
theorem dX4_reach_24 : decode cX4_reach 24 = .ok (.if_icmp .ge 29, 3) := by decide +kernel
theorem dX4_reach_27 : decode cX4_reach 27 = .ok (.aload_n 0, 1) := by decide +kernel
theorem dX4_reach_28 : decode cX4_reach 28 = .ok (.getfield 19, 3) := by decide +kernel
theorem dX4_reach_31 : decode cX4_reach 31 = .ok (.iload_n 1, 1) := by decide +kernel
theorem dX4_reach_32 : decode cX4_reach 32 = .ok (.iconst 1, 1) := by decide +kernel
theorem dX4_reach_33 : decode cX4_reach 33 = .ok (.iadd, 1) := by decide +kernel
theorem dX4_reach_34 : decode cX4_reach 34 = .ok (.invokevirtual 191, 3) := by decide +kernel
theorem dX4_reach_37 : decode cX4_reach 37 = .ok (.aload_n 0, 1) := by decide +kernel
theorem dX4_reach_38 : decode cX4_reach 38 = .ok (.getfield 32, 3) := by decide +kernel
theorem dX4_reach_41 : decode cX4_reach 41 = .ok (.getfield 149, 3) := by decide +kernel
theorem dX4_reach_44 : decode cX4_reach 44 = .ok (.if_icmp .gt 9, 3) := by decide +kernel
theorem dX4_reach_47 : decode cX4_reach 47 = .ok (.iinc 1 1, 3) := by decide +kernel
theorem dX4_reach_50 : decode cX4_reach 50 = .ok (.goto (-34), 3) := by decide +kernel
theorem dX4_reach_53 : decode cX4_reach 53 = .ok (.iload_n 1, 1) := by decide +kernel
theorem dX4_reach_54 : decode cX4_reach 54 = .ok (.ireturn, 1) := by decide +kernel
theorem dX4_fewest_0 : decode cX4_fewest 0 = .ok (.iconst 0, 1) := by decide +kernel
theorem dX4_fewest_1 : decode cX4_fewest 1 = .ok (.istore_n 1, 1) := by decide +kernel
theorem dX4_fewest_2 : decode cX4_fewest 2 = .ok (.iload_n 1, 1) := by decide +kernel
theorem dX4_fewest_3 : decode cX4_fewest 3 = .ok (.aload_n 0, 1) := by decide +kernel
theorem dX4_fewest_4 : decode cX4_fewest 4 = .ok (.getfield 27, 3) := by decide +kernel
theorem dX4_fewest_7 : decode cX4_fewest 7 = .ok (.getfield 179, 3) := by decide +kernel
theorem dX4_fewest_10 : decode cX4_fewest 10 = .ok (.if_icmp .gt 48, 3) := by decide +kernel
theorem dX4_fewest_13 : decode cX4_fewest 13 = .ok (.iconst 0, 1) := by decide +kernel
theorem dX4_fewest_14 : decode cX4_fewest 14 = .ok (.istore_n 2, 1) := by decide +kernel
theorem dX4_fewest_15 : decode cX4_fewest 15 = .ok (.iload_n 2, 1) := by decide +kernel
theorem dX4_fewest_16 : decode cX4_fewest 16 = .ok (.iconst 1, 1) := by decide +kernel
theorem dX4_fewest_17 : decode cX4_fewest 17 = .ok (.aload_n 0, 1) := by decide +kernel
theorem dX4_fewest_18 : decode cX4_fewest 18 = .ok (.getfield 27, 3) := by decide +kernel
theorem dX4_fewest_21 : decode cX4_fewest 21 = .ok (.getfield 179, 3) := by decide +kernel
theorem dX4_fewest_24 : decode cX4_fewest 24 = .ok (.ishl, 1) := by decide +kernel
theorem dX4_fewest_25 : decode cX4_fewest 25 = .ok (.if_icmp .ge 27, 3) := by decide +kernel
theorem dX4_fewest_28 : decode cX4_fewest 28 = .ok (.iload_n 2, 1) := by decide +kernel
theorem dX4_fewest_29 : decode cX4_fewest 29 = .ok (.invokestatic 194, 3) := by decide +kernel
theorem dX4_fewest_32 : decode cX4_fewest 32 = .ok (.iload_n 1, 1) := by decide +kernel
theorem dX4_fewest_33 : decode cX4_fewest 33 = .ok (.if_icmp .ne 13, 3) := by decide +kernel
theorem dX4_fewest_36 : decode cX4_fewest 36 = .ok (.aload_n 0, 1) := by decide +kernel
theorem dX4_fewest_37 : decode cX4_fewest 37 = .ok (.iload_n 2, 1) := by decide +kernel
theorem dX4_fewest_38 : decode cX4_fewest 38 = .ok (.invokevirtual 199, 3) := by decide +kernel
theorem dX4_fewest_41 : decode cX4_fewest 41 = .ok (.ifCond .eq 5, 3) := by decide +kernel
theorem dX4_fewest_44 : decode cX4_fewest 44 = .ok (.iload_n 2, 1) := by decide +kernel
theorem dX4_fewest_45 : decode cX4_fewest 45 = .ok (.ireturn, 1) := by decide +kernel
theorem dX4_fewest_46 : decode cX4_fewest 46 = .ok (.iinc 2 1, 3) := by decide +kernel
theorem dX4_fewest_49 : decode cX4_fewest 49 = .ok (.goto (-34), 3) := by decide +kernel
theorem dX4_fewest_52 : decode cX4_fewest 52 = .ok (.iinc 1 1, 3) := by decide +kernel
theorem dX4_fewest_55 : decode cX4_fewest 55 = .ok (.goto (-53), 3) := by decide +kernel
theorem dX4_fewest_58 : decode cX4_fewest 58 = .ok (.bipush (-9), 2) := by decide +kernel
theorem dX4_fewest_60 : decode cX4_fewest 60 = .ok (.ireturn, 1) := by decide +kernel
theorem dX4_bear_0 : decode cX4_bear 0 = .ok (.aload_n 0, 1) := by decide +kernel
theorem dX4_bear_1 : decode cX4_bear 1 = .ok (.getfield 19, 3) := by decide +kernel
theorem dX4_bear_4 : decode cX4_bear 4 = .ok (.aload_n 0, 1) := by decide +kernel
theorem dX4_bear_5 : decode cX4_bear 5 = .ok (.getfield 32, 3) := by decide +kernel
theorem dX4_bear_8 : decode cX4_bear 8 = .ok (.getfield 105, 3) := by decide +kernel
theorem dX4_bear_11 : decode cX4_bear 11 = .ok (.invokevirtual 188, 3) := by decide +kernel
theorem dX4_bear_14 : decode cX4_bear 14 = .ok (.aload_n 0, 1) := by decide +kernel
theorem dX4_bear_15 : decode cX4_bear 15 = .ok (.getfield 19, 3) := by decide +kernel
theorem dX4_bear_18 : decode cX4_bear 18 = .ok (.aload_n 0, 1) := by decide +kernel
theorem dX4_bear_19 : decode cX4_bear 19 = .ok (.getfield 32, 3) := by decide +kernel
theorem dX4_bear_22 : decode cX4_bear 22 = .ok (.getfield 122, 3) := by decide +kernel
theorem dX4_bear_25 : decode cX4_bear 25 = .ok (.invokevirtual 191, 3) := by decide +kernel
theorem dX4_bear_28 : decode cX4_bear 28 = .ok (.istore_n 1, 1) := by decide +kernel
theorem dX4_bear_29 : decode cX4_bear 29 = .ok (.iload_n 1, 1) := by decide +kernel
theorem dX4_bear_30 : decode cX4_bear 30 = .ok (.bipush 30, 2) := by decide +kernel
theorem dX4_bear_32 : decode cX4_bear 32 = .ok (.if_icmp .gt 7, 3) := by decide +kernel
theorem dX4_bear_35 : decode cX4_bear 35 = .ok (.iload_n 1, 1) := by decide +kernel
theorem dX4_bear_36 : decode cX4_bear 36 = .ok (.goto 5, 3) := by decide +kernel
theorem dX4_bear_39 : decode cX4_bear 39 = .ok (.bipush (-9), 2) := by decide +kernel
theorem dX4_bear_41 : decode cX4_bear 41 = .ok (.ireturn, 1) := by decide +kernel
theorem dX4_hears_0 : decode cX4_hears 0 = .ok (.aload_n 0, 1) := by decide +kernel
theorem dX4_hears_1 : decode cX4_hears 1 = .ok (.iload_n 1, 1) := by decide +kernel
theorem dX4_hears_2 : decode cX4_hears 2 = .ok (.invokevirtual 111, 3) := by decide +kernel
theorem dX4_hears_5 : decode cX4_hears 5 = .ok (.ifCond .eq 12, 3) := by decide +kernel
theorem dX4_hears_8 : decode cX4_hears 8 = .ok (.iload_n 2, 1) := by decide +kernel
theorem dX4_hears_9 : decode cX4_hears 9 = .ok (.iconst 0, 1) := by decide +kernel
theorem dX4_hears_10 : decode cX4_hears 10 = .ok (.iconst 1, 1) := by decide +kernel
theorem dX4_hears_11 : decode cX4_hears 11 = .ok (.invokestatic 143, 3) := by decide +kernel
theorem dX4_hears_14 : decode cX4_hears 14 = .ok (.ifCond .ne 5, 3) := by decide +kernel
theorem dX4_hears_17 : decode cX4_hears 17 = .ok (.iconst (-1), 1) := by decide +kernel
theorem dX4_hears_18 : decode cX4_hears 18 = .ok (.ireturn, 1) := by decide +kernel
theorem dX4_hears_19 : decode cX4_hears 19 = .ok (.aload_n 0, 1) := by decide +kernel
theorem dX4_hears_20 : decode cX4_hears 20 = .ok (.getfield 59, 3) := by decide +kernel
theorem dX4_hears_23 : decode cX4_hears 23 = .ok (.bipush 6, 2) := by decide +kernel
theorem dX4_hears_25 : decode cX4_hears 25 = .ok (.if_icmp .lt 6, 3) := by decide +kernel
theorem dX4_hears_28 : decode cX4_hears 28 = .ok (.bipush (-3), 2) := by decide +kernel
theorem dX4_hears_30 : decode cX4_hears 30 = .ok (.ireturn, 1) := by decide +kernel
theorem dX4_hears_31 : decode cX4_hears 31 = .ok (.aload_n 0, 1) := by decide +kernel
theorem dX4_hears_32 : decode cX4_hears 32 = .ok (.getfield 52, 3) := by decide +kernel
theorem dX4_hears_35 : decode cX4_hears 35 = .ok (.aload_n 0, 1) := by decide +kernel
theorem dX4_hears_36 : decode cX4_hears 36 = .ok (.getfield 59, 3) := by decide +kernel
theorem dX4_hears_39 : decode cX4_hears 39 = .ok (.iload_n 1, 1) := by decide +kernel
theorem dX4_hears_40 : decode cX4_hears 40 = .ok (.iastore, 1) := by decide +kernel
theorem dX4_hears_41 : decode cX4_hears 41 = .ok (.aload_n 0, 1) := by decide +kernel
theorem dX4_hears_42 : decode cX4_hears 42 = .ok (.getfield 56, 3) := by decide +kernel
theorem dX4_hears_45 : decode cX4_hears 45 = .ok (.aload_n 0, 1) := by decide +kernel
theorem dX4_hears_46 : decode cX4_hears 46 = .ok (.getfield 59, 3) := by decide +kernel
theorem dX4_hears_49 : decode cX4_hears 49 = .ok (.iload_n 2, 1) := by decide +kernel
theorem dX4_hears_50 : decode cX4_hears 50 = .ok (.iastore, 1) := by decide +kernel
theorem dX4_hears_51 : decode cX4_hears 51 = .ok (.aload_n 0, 1) := by decide +kernel
theorem dX4_hears_52 : decode cX4_hears 52 = .ok (.dup, 1) := by decide +kernel
theorem dX4_hears_53 : decode cX4_hears 53 = .ok (.getfield 59, 3) := by decide +kernel
theorem dX4_hears_56 : decode cX4_hears 56 = .ok (.iconst 1, 1) := by decide +kernel
theorem dX4_hears_57 : decode cX4_hears 57 = .ok (.iadd, 1) := by decide +kernel
theorem dX4_hears_58 : decode cX4_hears 58 = .ok (.putfield 59, 3) := by decide +kernel
theorem dX4_hears_61 : decode cX4_hears 61 = .ok (.aload_n 0, 1) := by decide +kernel
theorem dX4_hears_62 : decode cX4_hears 62 = .ok (.getfield 59, 3) := by decide +kernel
theorem dX4_hears_65 : decode cX4_hears 65 = .ok (.ireturn, 1) := by decide +kernel
theorem dX4_forget_0 : decode cX4_forget 0 = .ok (.aload_n 0, 1) := by decide +kernel
theorem dX4_forget_1 : decode cX4_forget 1 = .ok (.getfield 59, 3) := by decide +kernel
theorem dX4_forget_4 : decode cX4_forget 4 = .ok (.istore_n 1, 1) := by decide +kernel
theorem dX4_forget_5 : decode cX4_forget 5 = .ok (.aload_n 0, 1) := by decide +kernel
theorem dX4_forget_6 : decode cX4_forget 6 = .ok (.iconst 0, 1) := by decide +kernel
theorem dX4_forget_7 : decode cX4_forget 7 = .ok (.putfield 59, 3) := by decide +kernel
theorem dX4_forget_10 : decode cX4_forget 10 = .ok (.iload_n 1, 1) := by decide +kernel
theorem dX4_forget_11 : decode cX4_forget 11 = .ok (.ireturn, 1) := by decide +kernel
theorem dX4_ill_0 : decode cX4_ill 0 = .ok (.iconst 0, 1) := by decide +kernel
theorem dX4_ill_1 : decode cX4_ill 1 = .ok (.istore_n 1, 1) := by decide +kernel
theorem dX4_ill_2 : decode cX4_ill 2 = .ok (.iconst 0, 1) := by decide +kernel
theorem dX4_ill_3 : decode cX4_ill 3 = .ok (.istore_n 2, 1) := by decide +kernel
theorem dX4_ill_4 : decode cX4_ill 4 = .ok (.iload_n 2, 1) := by decide +kernel
theorem dX4_ill_5 : decode cX4_ill 5 = .ok (.aload_n 0, 1) := by decide +kernel
theorem dX4_ill_6 : decode cX4_ill 6 = .ok (.getfield 27, 3) := by decide +kernel
theorem dX4_ill_9 : decode cX4_ill 9 = .ok (.getfield 179, 3) := by decide +kernel
theorem dX4_ill_12 : decode cX4_ill 12 = .ok (.if_icmp .ge 50, 3) := by decide +kernel
theorem dX4_ill_15 : decode cX4_ill 15 = .ok (.aload_n 0, 1) := by decide +kernel
theorem dX4_ill_16 : decode cX4_ill 16 = .ok (.getfield 32, 3) := by decide +kernel
theorem dX4_ill_19 : decode cX4_ill 19 = .ok (.getfield 105, 3) := by decide +kernel
theorem dX4_ill_22 : decode cX4_ill 22 = .ok (.iload_n 2, 1) := by decide +kernel
theorem dX4_ill_23 : decode cX4_ill 23 = .ok (.ishr, 1) := by decide +kernel
theorem dX4_ill_24 : decode cX4_ill 24 = .ok (.iconst 1, 1) := by decide +kernel
theorem dX4_ill_25 : decode cX4_ill 25 = .ok (.iand, 1) := by decide +kernel
theorem dX4_ill_26 : decode cX4_ill 26 = .ok (.iconst 1, 1) := by decide +kernel
theorem dX4_ill_27 : decode cX4_ill 27 = .ok (.if_icmp .ne 29, 3) := by decide +kernel
theorem dX4_ill_30 : decode cX4_ill 30 = .ok (.aload_n 0, 1) := by decide +kernel
theorem dX4_ill_31 : decode cX4_ill 31 = .ok (.aload_n 0, 1) := by decide +kernel
theorem dX4_ill_32 : decode cX4_ill 32 = .ok (.getfield 32, 3) := by decide +kernel
theorem dX4_ill_35 : decode cX4_ill 35 = .ok (.getfield 105, 3) := by decide +kernel
theorem dX4_ill_38 : decode cX4_ill 38 = .ok (.iconst 1, 1) := by decide +kernel
theorem dX4_ill_39 : decode cX4_ill 39 = .ok (.iload_n 2, 1) := by decide +kernel
theorem dX4_ill_40 : decode cX4_ill 40 = .ok (.ishl, 1) := by decide +kernel
theorem dX4_ill_41 : decode cX4_ill 41 = .ok (.iconst (-1), 1) := by decide +kernel
theorem dX4_ill_42 : decode cX4_ill 42 = .ok (.ixor, 1) := by decide +kernel
theorem dX4_ill_43 : decode cX4_ill 43 = .ok (.iand, 1) := by decide +kernel
theorem dX4_ill_44 : decode cX4_ill 44 = .ok (.invokevirtual 202, 3) := by decide +kernel
theorem dX4_ill_47 : decode cX4_ill 47 = .ok (.ifCond .eq 9, 3) := by decide +kernel
theorem dX4_ill_50 : decode cX4_ill 50 = .ok (.iload_n 1, 1) := by decide +kernel
theorem dX4_ill_51 : decode cX4_ill 51 = .ok (.iconst 1, 1) := by decide +kernel
theorem dX4_ill_52 : decode cX4_ill 52 = .ok (.iload_n 2, 1) := by decide +kernel
theorem dX4_ill_53 : decode cX4_ill 53 = .ok (.ishl, 1) := by decide +kernel
theorem dX4_ill_54 : decode cX4_ill 54 = .ok (.ior, 1) := by decide +kernel
theorem dX4_ill_55 : decode cX4_ill 55 = .ok (.istore_n 1, 1) := by decide +kernel
theorem dX4_ill_56 : decode cX4_ill 56 = .ok (.iinc 2 1, 3) := by decide +kernel
theorem dX4_ill_59 : decode cX4_ill 59 = .ok (.goto (-55), 3) := by decide +kernel
theorem dX4_ill_62 : decode cX4_ill 62 = .ok (.iload_n 1, 1) := by decide +kernel
theorem dX4_ill_63 : decode cX4_ill 63 = .ok (.ireturn, 1) := by decide +kernel
theorem dX4_keep_0 : decode cX4_keep 0 = .ok (.iload_n 1, 1) := by decide +kernel
theorem dX4_keep_1 : decode cX4_keep 1 = .ok (.iconst 0, 1) := by decide +kernel
theorem dX4_keep_2 : decode cX4_keep 2 = .ok (.iconst 1, 1) := by decide +kernel
theorem dX4_keep_3 : decode cX4_keep 3 = .ok (.invokestatic 143, 3) := by decide +kernel
theorem dX4_keep_6 : decode cX4_keep 6 = .ok (.ifCond .ne 5, 3) := by decide +kernel
theorem dX4_keep_9 : decode cX4_keep 9 = .ok (.iconst (-1), 1) := by decide +kernel
theorem dX4_keep_10 : decode cX4_keep 10 = .ok (.ireturn, 1) := by decide +kernel
theorem dX4_keep_11 : decode cX4_keep 11 = .ok (.aload_n 0, 1) := by decide +kernel
theorem dX4_keep_12 : decode cX4_keep 12 = .ok (.getfield 45, 3) := by decide +kernel
theorem dX4_keep_15 : decode cX4_keep 15 = .ok (.iload_n 1, 1) := by decide +kernel
theorem dX4_keep_16 : decode cX4_keep 16 = .ok (.aaload, 1) := by decide +kernel
theorem dX4_keep_17 : decode cX4_keep 17 = .ok (.aload_n 0, 1) := by decide +kernel
theorem dX4_keep_18 : decode cX4_keep 18 = .ok (.getfield 32, 3) := by decide +kernel
theorem dX4_keep_21 : decode cX4_keep 21 = .ok (.invokevirtual 86, 3) := by decide +kernel
theorem dX4_keep_24 : decode cX4_keep 24 = .ok (.aload_n 0, 1) := by decide +kernel
theorem dX4_keep_25 : decode cX4_keep 25 = .ok (.getfield 48, 3) := by decide +kernel
theorem dX4_keep_28 : decode cX4_keep 28 = .ok (.iload_n 1, 1) := by decide +kernel
theorem dX4_keep_29 : decode cX4_keep 29 = .ok (.iconst 1, 1) := by decide +kernel
theorem dX4_keep_30 : decode cX4_keep 30 = .ok (.bastore, 1) := by decide +kernel
theorem dX4_keep_31 : decode cX4_keep 31 = .ok (.aload_n 0, 1) := by decide +kernel
theorem dX4_keep_32 : decode cX4_keep 32 = .ok (.getfield 32, 3) := by decide +kernel
theorem dX4_keep_35 : decode cX4_keep 35 = .ok (.getfield 122, 3) := by decide +kernel
theorem dX4_keep_38 : decode cX4_keep 38 = .ok (.ireturn, 1) := by decide +kernel
theorem dX4_back_0 : decode cX4_back 0 = .ok (.iload_n 1, 1) := by decide +kernel
theorem dX4_back_1 : decode cX4_back 1 = .ok (.iconst 0, 1) := by decide +kernel
theorem dX4_back_2 : decode cX4_back 2 = .ok (.iconst 1, 1) := by decide +kernel
theorem dX4_back_3 : decode cX4_back 3 = .ok (.invokestatic 143, 3) := by decide +kernel
theorem dX4_back_6 : decode cX4_back 6 = .ok (.ifCond .ne 5, 3) := by decide +kernel
theorem dX4_back_9 : decode cX4_back 9 = .ok (.iconst (-1), 1) := by decide +kernel
theorem dX4_back_10 : decode cX4_back 10 = .ok (.ireturn, 1) := by decide +kernel
theorem dX4_back_11 : decode cX4_back 11 = .ok (.aload_n 0, 1) := by decide +kernel
theorem dX4_back_12 : decode cX4_back 12 = .ok (.getfield 48, 3) := by decide +kernel
theorem dX4_back_15 : decode cX4_back 15 = .ok (.iload_n 1, 1) := by decide +kernel
theorem dX4_back_16 : decode cX4_back 16 = .ok (.baload, 1) := by decide +kernel
theorem dX4_back_17 : decode cX4_back 17 = .ok (.ifCond .ne 6, 3) := by decide +kernel
theorem dX4_back_20 : decode cX4_back 20 = .ok (.bipush (-2), 2) := by decide +kernel
theorem dX4_back_22 : decode cX4_back 22 = .ok (.ireturn, 1) := by decide +kernel
theorem dX4_back_23 : decode cX4_back 23 = .ok (.aload_n 0, 1) := by decide +kernel
theorem dX4_back_24 : decode cX4_back 24 = .ok (.getfield 32, 3) := by decide +kernel
theorem dX4_back_27 : decode cX4_back 27 = .ok (.aload_n 0, 1) := by decide +kernel
theorem dX4_back_28 : decode cX4_back 28 = .ok (.getfield 45, 3) := by decide +kernel
theorem dX4_back_31 : decode cX4_back 31 = .ok (.iload_n 1, 1) := by decide +kernel
theorem dX4_back_32 : decode cX4_back 32 = .ok (.aaload, 1) := by decide +kernel
theorem dX4_back_33 : decode cX4_back 33 = .ok (.invokevirtual 86, 3) := by decide +kernel
theorem dX4_back_36 : decode cX4_back 36 = .ok (.aload_n 0, 1) := by decide +kernel
theorem dX4_back_37 : decode cX4_back 37 = .ok (.iconst 0, 1) := by decide +kernel
theorem dX4_back_38 : decode cX4_back 38 = .ok (.putfield 41, 3) := by decide +kernel
theorem dX4_back_41 : decode cX4_back 41 = .ok (.aload_n 0, 1) := by decide +kernel
theorem dX4_back_42 : decode cX4_back 42 = .ok (.iconst 0, 1) := by decide +kernel
theorem dX4_back_43 : decode cX4_back 43 = .ok (.putfield 62, 3) := by decide +kernel
theorem dX4_back_46 : decode cX4_back 46 = .ok (.aload_n 0, 1) := by decide +kernel
theorem dX4_back_47 : decode cX4_back 47 = .ok (.getfield 32, 3) := by decide +kernel
theorem dX4_back_50 : decode cX4_back 50 = .ok (.getfield 122, 3) := by decide +kernel
theorem dX4_back_53 : decode cX4_back 53 = .ok (.ireturn, 1) := by decide +kernel
theorem dX4_count_0 : decode cX4_count 0 = .ok (.iload_n 1, 1) := by decide +kernel
theorem dX4_count_1 : decode cX4_count 1 = .ok (.tableswitch 105 0 7 #[47, 55, 63, 71, 79, 87, 92, 100], 47) := by decide +kernel
theorem dX4_count_48 : decode cX4_count 48 = .ok (.aload_n 0, 1) := by decide +kernel
theorem dX4_count_49 : decode cX4_count 49 = .ok (.getfield 27, 3) := by decide +kernel
theorem dX4_count_52 : decode cX4_count 52 = .ok (.getfield 179, 3) := by decide +kernel
theorem dX4_count_55 : decode cX4_count 55 = .ok (.ireturn, 1) := by decide +kernel
theorem dX4_count_56 : decode cX4_count 56 = .ok (.aload_n 0, 1) := by decide +kernel
theorem dX4_count_57 : decode cX4_count 57 = .ok (.getfield 32, 3) := by decide +kernel
theorem dX4_count_60 : decode cX4_count 60 = .ok (.getfield 105, 3) := by decide +kernel
theorem dX4_count_63 : decode cX4_count 63 = .ok (.ireturn, 1) := by decide +kernel
theorem dX4_count_64 : decode cX4_count 64 = .ok (.aload_n 0, 1) := by decide +kernel
theorem dX4_count_65 : decode cX4_count 65 = .ok (.getfield 32, 3) := by decide +kernel
theorem dX4_count_68 : decode cX4_count 68 = .ok (.getfield 122, 3) := by decide +kernel
theorem dX4_count_71 : decode cX4_count 71 = .ok (.ireturn, 1) := by decide +kernel
theorem dX4_count_72 : decode cX4_count 72 = .ok (.aload_n 0, 1) := by decide +kernel
theorem dX4_count_73 : decode cX4_count 73 = .ok (.getfield 32, 3) := by decide +kernel
theorem dX4_count_76 : decode cX4_count 76 = .ok (.getfield 146, 3) := by decide +kernel
theorem dX4_count_79 : decode cX4_count 79 = .ok (.ireturn, 1) := by decide +kernel
theorem dX4_count_80 : decode cX4_count 80 = .ok (.aload_n 0, 1) := by decide +kernel
theorem dX4_count_81 : decode cX4_count 81 = .ok (.getfield 32, 3) := by decide +kernel
theorem dX4_count_84 : decode cX4_count 84 = .ok (.getfield 149, 3) := by decide +kernel
theorem dX4_count_87 : decode cX4_count 87 = .ok (.ireturn, 1) := by decide +kernel
theorem dX4_count_88 : decode cX4_count 88 = .ok (.aload_n 0, 1) := by decide +kernel
theorem dX4_count_89 : decode cX4_count 89 = .ok (.getfield 59, 3) := by decide +kernel
theorem dX4_count_92 : decode cX4_count 92 = .ok (.ireturn, 1) := by decide +kernel
theorem dX4_count_93 : decode cX4_count 93 = .ok (.aload_n 0, 1) := by decide +kernel
theorem dX4_count_94 : decode cX4_count 94 = .ok (.getfield 10, 3) := by decide +kernel
theorem dX4_count_97 : decode cX4_count 97 = .ok (.getfield 67, 3) := by decide +kernel
theorem dX4_count_100 : decode cX4_count 100 = .ok (.ireturn, 1) := by decide +kernel
theorem dX4_count_101 : decode cX4_count 101 = .ok (.aload_n 0, 1) := by decide +kernel
theorem dX4_count_102 : decode cX4_count 102 = .ok (.getfield 41, 3) := by decide +kernel
theorem dX4_count_105 : decode cX4_count 105 = .ok (.ireturn, 1) := by decide +kernel
theorem dX4_count_106 : decode cX4_count 106 = .ok (.iconst (-1), 1) := by decide +kernel
theorem dX4_count_107 : decode cX4_count 107 = .ok (.ireturn, 1) := by decide +kernel
theorem dX4_isWithin_0 : decode cX4_isWithin 0 = .ok (.iload_n 0, 1) := by decide +kernel
theorem dX4_isWithin_1 : decode cX4_isWithin 1 = .ok (.iload_n 1, 1) := by decide +kernel
theorem dX4_isWithin_2 : decode cX4_isWithin 2 = .ok (.if_icmp .lt 12, 3) := by decide +kernel
theorem dX4_isWithin_5 : decode cX4_isWithin 5 = .ok (.iload_n 0, 1) := by decide +kernel
theorem dX4_isWithin_6 : decode cX4_isWithin 6 = .ok (.iload_n 2, 1) := by decide +kernel
theorem dX4_isWithin_7 : decode cX4_isWithin 7 = .ok (.if_icmp .gt 7, 3) := by decide +kernel
theorem dX4_isWithin_10 : decode cX4_isWithin 10 = .ok (.iconst 1, 1) := by decide +kernel
theorem dX4_isWithin_11 : decode cX4_isWithin 11 = .ok (.goto 4, 3) := by decide +kernel
theorem dX4_isWithin_14 : decode cX4_isWithin 14 = .ok (.iconst 0, 1) := by decide +kernel
theorem dX4_isWithin_15 : decode cX4_isWithin 15 = .ok (.ireturn, 1) := by decide +kernel
theorem dX4_isPlayer_0 : decode cX4_isPlayer 0 = .ok (.iload_n 1, 1) := by decide +kernel
theorem dX4_isPlayer_1 : decode cX4_isPlayer 1 = .ok (.ifCond .lt 18, 3) := by decide +kernel
theorem dX4_isPlayer_4 : decode cX4_isPlayer 4 = .ok (.iload_n 1, 1) := by decide +kernel
theorem dX4_isPlayer_5 : decode cX4_isPlayer 5 = .ok (.aload_n 0, 1) := by decide +kernel
theorem dX4_isPlayer_6 : decode cX4_isPlayer 6 = .ok (.getfield 27, 3) := by decide +kernel
theorem dX4_isPlayer_9 : decode cX4_isPlayer 9 = .ok (.getfield 179, 3) := by decide +kernel
theorem dX4_isPlayer_12 : decode cX4_isPlayer 12 = .ok (.if_icmp .ge 7, 3) := by decide +kernel
theorem dX4_isPlayer_15 : decode cX4_isPlayer 15 = .ok (.iconst 1, 1) := by decide +kernel
theorem dX4_isPlayer_16 : decode cX4_isPlayer 16 = .ok (.goto 4, 3) := by decide +kernel
theorem dX4_isPlayer_19 : decode cX4_isPlayer 19 = .ok (.iconst 0, 1) := by decide +kernel
theorem dX4_isPlayer_20 : decode cX4_isPlayer 20 = .ok (.ireturn, 1) := by decide +kernel
theorem dX4_isChord_0 : decode cX4_isChord 0 = .ok (.iload_n 1, 1) := by decide +kernel
theorem dX4_isChord_1 : decode cX4_isChord 1 = .ok (.ifCond .lt 18, 3) := by decide +kernel
theorem dX4_isChord_4 : decode cX4_isChord 4 = .ok (.iload_n 1, 1) := by decide +kernel
theorem dX4_isChord_5 : decode cX4_isChord 5 = .ok (.aload_n 0, 1) := by decide +kernel
theorem dX4_isChord_6 : decode cX4_isChord 6 = .ok (.getfield 32, 3) := by decide +kernel
theorem dX4_isChord_9 : decode cX4_isChord 9 = .ok (.getfield 122, 3) := by decide +kernel
theorem dX4_isChord_12 : decode cX4_isChord 12 = .ok (.if_icmp .ge 7, 3) := by decide +kernel
theorem dX4_isChord_15 : decode cX4_isChord 15 = .ok (.iconst 1, 1) := by decide +kernel
theorem dX4_isChord_16 : decode cX4_isChord 16 = .ok (.goto 4, 3) := by decide +kernel
theorem dX4_isChord_19 : decode cX4_isChord 19 = .ok (.iconst 0, 1) := by decide +kernel
theorem dX4_isChord_20 : decode cX4_isChord 20 = .ok (.ireturn, 1) := by decide +kernel
theorem dX4_areNotes_0 : decode cX4_areNotes 0 = .ok (.iload_n 0, 1) := by decide +kernel
theorem dX4_areNotes_1 : decode cX4_areNotes 1 = .ok (.iconst 0, 1) := by decide +kernel
theorem dX4_areNotes_2 : decode cX4_areNotes 2 = .ok (.bipush 60, 2) := by decide +kernel
theorem dX4_areNotes_4 : decode cX4_areNotes 4 = .ok (.invokestatic 143, 3) := by decide +kernel
theorem dX4_areNotes_7 : decode cX4_areNotes 7 = .ok (.ifCond .ne 5, 3) := by decide +kernel
theorem dX4_areNotes_10 : decode cX4_areNotes 10 = .ok (.iconst 0, 1) := by decide +kernel
theorem dX4_areNotes_11 : decode cX4_areNotes 11 = .ok (.ireturn, 1) := by decide +kernel
theorem dX4_areNotes_12 : decode cX4_areNotes 12 = .ok (.iload_n 1, 1) := by decide +kernel
theorem dX4_areNotes_13 : decode cX4_areNotes 13 = .ok (.iconst (-1), 1) := by decide +kernel
theorem dX4_areNotes_14 : decode cX4_areNotes 14 = .ok (.if_icmp .ne 14, 3) := by decide +kernel
theorem dX4_areNotes_17 : decode cX4_areNotes 17 = .ok (.iload_n 2, 1) := by decide +kernel
theorem dX4_areNotes_18 : decode cX4_areNotes 18 = .ok (.iconst (-1), 1) := by decide +kernel
theorem dX4_areNotes_19 : decode cX4_areNotes 19 = .ok (.if_icmp .ne 7, 3) := by decide +kernel
theorem dX4_areNotes_22 : decode cX4_areNotes 22 = .ok (.iconst 1, 1) := by decide +kernel
theorem dX4_areNotes_23 : decode cX4_areNotes 23 = .ok (.goto 4, 3) := by decide +kernel
theorem dX4_areNotes_26 : decode cX4_areNotes 26 = .ok (.iconst 0, 1) := by decide +kernel
theorem dX4_areNotes_27 : decode cX4_areNotes 27 = .ok (.ireturn, 1) := by decide +kernel
theorem dX4_areNotes_28 : decode cX4_areNotes 28 = .ok (.iload_n 1, 1) := by decide +kernel
theorem dX4_areNotes_29 : decode cX4_areNotes 29 = .ok (.iload_n 0, 1) := by decide +kernel
theorem dX4_areNotes_30 : decode cX4_areNotes 30 = .ok (.iconst 1, 1) := by decide +kernel
theorem dX4_areNotes_31 : decode cX4_areNotes 31 = .ok (.iadd, 1) := by decide +kernel
theorem dX4_areNotes_32 : decode cX4_areNotes 32 = .ok (.bipush 60, 2) := by decide +kernel
theorem dX4_areNotes_34 : decode cX4_areNotes 34 = .ok (.invokestatic 143, 3) := by decide +kernel
theorem dX4_areNotes_37 : decode cX4_areNotes 37 = .ok (.ifCond .eq 24, 3) := by decide +kernel
theorem dX4_areNotes_40 : decode cX4_areNotes 40 = .ok (.iload_n 2, 1) := by decide +kernel
theorem dX4_areNotes_41 : decode cX4_areNotes 41 = .ok (.iconst (-1), 1) := by decide +kernel
theorem dX4_areNotes_42 : decode cX4_areNotes 42 = .ok (.if_icmp .eq 15, 3) := by decide +kernel
theorem dX4_areNotes_45 : decode cX4_areNotes 45 = .ok (.iload_n 2, 1) := by decide +kernel
theorem dX4_areNotes_46 : decode cX4_areNotes 46 = .ok (.iload_n 1, 1) := by decide +kernel
theorem dX4_areNotes_47 : decode cX4_areNotes 47 = .ok (.iconst 1, 1) := by decide +kernel
theorem dX4_areNotes_48 : decode cX4_areNotes 48 = .ok (.iadd, 1) := by decide +kernel
theorem dX4_areNotes_49 : decode cX4_areNotes 49 = .ok (.bipush 60, 2) := by decide +kernel
theorem dX4_areNotes_51 : decode cX4_areNotes 51 = .ok (.invokestatic 143, 3) := by decide +kernel
theorem dX4_areNotes_54 : decode cX4_areNotes 54 = .ok (.ifCond .eq 7, 3) := by decide +kernel
theorem dX4_areNotes_57 : decode cX4_areNotes 57 = .ok (.iconst 1, 1) := by decide +kernel
theorem dX4_areNotes_58 : decode cX4_areNotes 58 = .ok (.goto 4, 3) := by decide +kernel
theorem dX4_areNotes_61 : decode cX4_areNotes 61 = .ok (.iconst 0, 1) := by decide +kernel
theorem dX4_areNotes_62 : decode cX4_areNotes 62 = .ok (.ireturn, 1) := by decide +kernel
theorem dX4_remember_0 : decode cX4_remember 0 = .ok (.aload_n 0, 1) := by decide +kernel
theorem dX4_remember_1 : decode cX4_remember 1 = .ok (.getfield 41, 3) := by decide +kernel
theorem dX4_remember_4 : decode cX4_remember 4 = .ok (.bipush 10, 2) := by decide +kernel
theorem dX4_remember_6 : decode cX4_remember 6 = .ok (.if_icmp .lt 7, 3) := by decide +kernel
theorem dX4_remember_9 : decode cX4_remember 9 = .ok (.aload_n 0, 1) := by decide +kernel
theorem dX4_remember_10 : decode cX4_remember 10 = .ok (.invokevirtual 205, 3) := by decide +kernel
theorem dX4_remember_13 : decode cX4_remember 13 = .ok (.aload_n 0, 1) := by decide +kernel
theorem dX4_remember_14 : decode cX4_remember 14 = .ok (.getfield 37, 3) := by decide +kernel
theorem dX4_remember_17 : decode cX4_remember 17 = .ok (.aload_n 0, 1) := by decide +kernel
theorem dX4_remember_18 : decode cX4_remember 18 = .ok (.getfield 41, 3) := by decide +kernel
theorem dX4_remember_21 : decode cX4_remember 21 = .ok (.aaload, 1) := by decide +kernel
theorem dX4_remember_22 : decode cX4_remember 22 = .ok (.aload_n 0, 1) := by decide +kernel
theorem dX4_remember_23 : decode cX4_remember 23 = .ok (.getfield 32, 3) := by decide +kernel
theorem dX4_remember_26 : decode cX4_remember 26 = .ok (.invokevirtual 86, 3) := by decide +kernel
theorem dX4_remember_29 : decode cX4_remember 29 = .ok (.aload_n 0, 1) := by decide +kernel
theorem dX4_remember_30 : decode cX4_remember 30 = .ok (.dup, 1) := by decide +kernel
theorem dX4_remember_31 : decode cX4_remember 31 = .ok (.getfield 41, 3) := by decide +kernel
theorem dX4_remember_34 : decode cX4_remember 34 = .ok (.iconst 1, 1) := by decide +kernel
theorem dX4_remember_35 : decode cX4_remember 35 = .ok (.iadd, 1) := by decide +kernel
theorem dX4_remember_36 : decode cX4_remember 36 = .ok (.putfield 41, 3) := by decide +kernel
theorem dX4_remember_39 : decode cX4_remember 39 = .ok (.aload_n 0, 1) := by decide +kernel
theorem dX4_remember_40 : decode cX4_remember 40 = .ok (.iconst 0, 1) := by decide +kernel
theorem dX4_remember_41 : decode cX4_remember 41 = .ok (.putfield 62, 3) := by decide +kernel
theorem dX4_remember_44 : decode cX4_remember 44 = .ok (.return_, 1) := by decide +kernel
theorem dX4_forgetOldest_0 : decode cX4_forgetOldest 0 = .ok (.aload_n 0, 1) := by decide +kernel
theorem dX4_forgetOldest_1 : decode cX4_forgetOldest 1 = .ok (.getfield 37, 3) := by decide +kernel
theorem dX4_forgetOldest_4 : decode cX4_forgetOldest 4 = .ok (.iconst 0, 1) := by decide +kernel
theorem dX4_forgetOldest_5 : decode cX4_forgetOldest 5 = .ok (.aaload, 1) := by decide +kernel
theorem dX4_forgetOldest_6 : decode cX4_forgetOldest 6 = .ok (.astore_n 1, 1) := by decide +kernel
theorem dX4_forgetOldest_7 : decode cX4_forgetOldest 7 = .ok (.iconst 1, 1) := by decide +kernel
theorem dX4_forgetOldest_8 : decode cX4_forgetOldest 8 = .ok (.istore_n 2, 1) := by decide +kernel
theorem dX4_forgetOldest_9 : decode cX4_forgetOldest 9 = .ok (.iload_n 2, 1) := by decide +kernel
theorem dX4_forgetOldest_10 : decode cX4_forgetOldest 10 = .ok (.bipush 10, 2) := by decide +kernel
theorem dX4_forgetOldest_12 : decode cX4_forgetOldest 12 = .ok (.if_icmp .ge 23, 3) := by decide +kernel
theorem dX4_forgetOldest_15 : decode cX4_forgetOldest 15 = .ok (.aload_n 0, 1) := by decide +kernel
theorem dX4_forgetOldest_16 : decode cX4_forgetOldest 16 = .ok (.getfield 37, 3) := by decide +kernel
theorem dX4_forgetOldest_19 : decode cX4_forgetOldest 19 = .ok (.iload_n 2, 1) := by decide +kernel
theorem dX4_forgetOldest_20 : decode cX4_forgetOldest 20 = .ok (.iconst 1, 1) := by decide +kernel
theorem dX4_forgetOldest_21 : decode cX4_forgetOldest 21 = .ok (.isub, 1) := by decide +kernel
theorem dX4_forgetOldest_22 : decode cX4_forgetOldest 22 = .ok (.aload_n 0, 1) := by decide +kernel
theorem dX4_forgetOldest_23 : decode cX4_forgetOldest 23 = .ok (.getfield 37, 3) := by decide +kernel
theorem dX4_forgetOldest_26 : decode cX4_forgetOldest 26 = .ok (.iload_n 2, 1) := by decide +kernel
theorem dX4_forgetOldest_27 : decode cX4_forgetOldest 27 = .ok (.aaload, 1) := by decide +kernel
theorem dX4_forgetOldest_28 : decode cX4_forgetOldest 28 = .ok (.aastore, 1) := by decide +kernel
theorem dX4_forgetOldest_29 : decode cX4_forgetOldest 29 = .ok (.iinc 2 1, 3) := by decide +kernel
theorem dX4_forgetOldest_32 : decode cX4_forgetOldest 32 = .ok (.goto (-23), 3) := by decide +kernel
theorem dX4_forgetOldest_35 : decode cX4_forgetOldest 35 = .ok (.aload_n 0, 1) := by decide +kernel
theorem dX4_forgetOldest_36 : decode cX4_forgetOldest 36 = .ok (.getfield 37, 3) := by decide +kernel
theorem dX4_forgetOldest_39 : decode cX4_forgetOldest 39 = .ok (.bipush 9, 2) := by decide +kernel
theorem dX4_forgetOldest_41 : decode cX4_forgetOldest 41 = .ok (.aload_n 1, 1) := by decide +kernel
theorem dX4_forgetOldest_42 : decode cX4_forgetOldest 42 = .ok (.aastore, 1) := by decide +kernel
theorem dX4_forgetOldest_43 : decode cX4_forgetOldest 43 = .ok (.aload_n 0, 1) := by decide +kernel
theorem dX4_forgetOldest_44 : decode cX4_forgetOldest 44 = .ok (.bipush 9, 2) := by decide +kernel
theorem dX4_forgetOldest_46 : decode cX4_forgetOldest 46 = .ok (.putfield 41, 3) := by decide +kernel
theorem dX4_forgetOldest_49 : decode cX4_forgetOldest 49 = .ok (.return_, 1) := by decide +kernel
theorem dX4_isThereAScore_0 : decode cX4_isThereAScore 0 = .ok (.aload_n 0, 1) := by decide +kernel
theorem dX4_isThereAScore_1 : decode cX4_isThereAScore 1 = .ok (.getfield 62, 3) := by decide +kernel
theorem dX4_isThereAScore_4 : decode cX4_isThereAScore 4 = .ok (.ifCond .ne 15, 3) := by decide +kernel
theorem dX4_isThereAScore_7 : decode cX4_isThereAScore 7 = .ok (.aload_n 0, 1) := by decide +kernel
theorem dX4_isThereAScore_8 : decode cX4_isThereAScore 8 = .ok (.getfield 19, 3) := by decide +kernel
theorem dX4_isThereAScore_11 : decode cX4_isThereAScore 11 = .ok (.invokevirtual 208, 3) := by decide +kernel
theorem dX4_isThereAScore_14 : decode cX4_isThereAScore 14 = .ok (.aload_n 0, 1) := by decide +kernel
theorem dX4_isThereAScore_15 : decode cX4_isThereAScore 15 = .ok (.iconst 1, 1) := by decide +kernel
theorem dX4_isThereAScore_16 : decode cX4_isThereAScore 16 = .ok (.putfield 62, 3) := by decide +kernel
theorem dX4_isThereAScore_19 : decode cX4_isThereAScore 19 = .ok (.aload_n 0, 1) := by decide +kernel
theorem dX4_isThereAScore_20 : decode cX4_isThereAScore 20 = .ok (.getfield 19, 3) := by decide +kernel
theorem dX4_isThereAScore_23 : decode cX4_isThereAScore 23 = .ok (.getfield 163, 3) := by decide +kernel
theorem dX4_isThereAScore_26 : decode cX4_isThereAScore 26 = .ok (.ldc 211, 2) := by decide +kernel
theorem dX4_isThereAScore_28 : decode cX4_isThereAScore 28 = .ok (.if_icmp .ge 7, 3) := by decide +kernel
theorem dX4_isThereAScore_31 : decode cX4_isThereAScore 31 = .ok (.iconst 1, 1) := by decide +kernel
theorem dX4_isThereAScore_32 : decode cX4_isThereAScore 32 = .ok (.goto 4, 3) := by decide +kernel
theorem dX4_isThereAScore_35 : decode cX4_isThereAScore 35 = .ok (.iconst 0, 1) := by decide +kernel
theorem dX4_isThereAScore_36 : decode cX4_isThereAScore 36 = .ok (.ireturn, 1) := by decide +kernel
theorem dX4_canPlayAll_0 : decode cX4_canPlayAll 0 = .ok (.aload_n 0, 1) := by decide +kernel
theorem dX4_canPlayAll_1 : decode cX4_canPlayAll 1 = .ok (.getfield 19, 3) := by decide +kernel
theorem dX4_canPlayAll_4 : decode cX4_canPlayAll 4 = .ok (.iload_n 1, 1) := by decide +kernel
theorem dX4_canPlayAll_5 : decode cX4_canPlayAll 5 = .ok (.invokevirtual 188, 3) := by decide +kernel
theorem dX4_canPlayAll_8 : decode cX4_canPlayAll 8 = .ok (.aload_n 0, 1) := by decide +kernel
theorem dX4_canPlayAll_9 : decode cX4_canPlayAll 9 = .ok (.getfield 19, 3) := by decide +kernel
theorem dX4_canPlayAll_12 : decode cX4_canPlayAll 12 = .ok (.aload_n 0, 1) := by decide +kernel
theorem dX4_canPlayAll_13 : decode cX4_canPlayAll 13 = .ok (.getfield 32, 3) := by decide +kernel
theorem dX4_canPlayAll_16 : decode cX4_canPlayAll 16 = .ok (.getfield 122, 3) := by decide +kernel
theorem dX4_canPlayAll_19 : decode cX4_canPlayAll 19 = .ok (.invokevirtual 191, 3) := by decide +kernel
theorem dX4_canPlayAll_22 : decode cX4_canPlayAll 22 = .ok (.aload_n 0, 1) := by decide +kernel
theorem dX4_canPlayAll_23 : decode cX4_canPlayAll 23 = .ok (.getfield 32, 3) := by decide +kernel
theorem dX4_canPlayAll_26 : decode cX4_canPlayAll 26 = .ok (.getfield 149, 3) := by decide +kernel
theorem dX4_canPlayAll_29 : decode cX4_canPlayAll 29 = .ok (.if_icmp .gt 7, 3) := by decide +kernel
theorem dX4_canPlayAll_32 : decode cX4_canPlayAll 32 = .ok (.iconst 1, 1) := by decide +kernel
theorem dX4_canPlayAll_33 : decode cX4_canPlayAll 33 = .ok (.goto 4, 3) := by decide +kernel
theorem dX4_canPlayAll_36 : decode cX4_canPlayAll 36 = .ok (.iconst 0, 1) := by decide +kernel
theorem dX4_canPlayAll_37 : decode cX4_canPlayAll 37 = .ok (.ireturn, 1) := by decide +kernel
theorem dX4_fitsAllHeard_0 : decode cX4_fitsAllHeard 0 = .ok (.iconst 0, 1) := by decide +kernel
theorem dX4_fitsAllHeard_1 : decode cX4_fitsAllHeard 1 = .ok (.istore_n 2, 1) := by decide +kernel
theorem dX4_fitsAllHeard_2 : decode cX4_fitsAllHeard 2 = .ok (.iload_n 2, 1) := by decide +kernel
theorem dX4_fitsAllHeard_3 : decode cX4_fitsAllHeard 3 = .ok (.aload_n 0, 1) := by decide +kernel
theorem dX4_fitsAllHeard_4 : decode cX4_fitsAllHeard 4 = .ok (.getfield 59, 3) := by decide +kernel
theorem dX4_fitsAllHeard_7 : decode cX4_fitsAllHeard 7 = .ok (.if_icmp .ge 61, 3) := by decide +kernel
theorem dX4_fitsAllHeard_10 : decode cX4_fitsAllHeard 10 = .ok (.aload_n 0, 1) := by decide +kernel
theorem dX4_fitsAllHeard_11 : decode cX4_fitsAllHeard 11 = .ok (.getfield 52, 3) := by decide +kernel
theorem dX4_fitsAllHeard_14 : decode cX4_fitsAllHeard 14 = .ok (.iload_n 2, 1) := by decide +kernel
theorem dX4_fitsAllHeard_15 : decode cX4_fitsAllHeard 15 = .ok (.iaload, 1) := by decide +kernel
theorem dX4_fitsAllHeard_16 : decode cX4_fitsAllHeard 16 = .ok (.istore_n 3, 1) := by decide +kernel
theorem dX4_fitsAllHeard_17 : decode cX4_fitsAllHeard 17 = .ok (.aload_n 0, 1) := by decide +kernel
theorem dX4_fitsAllHeard_18 : decode cX4_fitsAllHeard 18 = .ok (.iload_n 3, 1) := by decide +kernel
theorem dX4_fitsAllHeard_19 : decode cX4_fitsAllHeard 19 = .ok (.invokevirtual 111, 3) := by decide +kernel
theorem dX4_fitsAllHeard_22 : decode cX4_fitsAllHeard 22 = .ok (.ifCond .eq 40, 3) := by decide +kernel
theorem dX4_fitsAllHeard_25 : decode cX4_fitsAllHeard 25 = .ok (.aload_n 0, 1) := by decide +kernel
theorem dX4_fitsAllHeard_26 : decode cX4_fitsAllHeard 26 = .ok (.getfield 19, 3) := by decide +kernel
theorem dX4_fitsAllHeard_29 : decode cX4_fitsAllHeard 29 = .ok (.iload_n 3, 1) := by decide +kernel
theorem dX4_fitsAllHeard_30 : decode cX4_fitsAllHeard 30 = .ok (.iload_n 1, 1) := by decide +kernel
theorem dX4_fitsAllHeard_31 : decode cX4_fitsAllHeard 31 = .ok (.invokevirtual 156, 3) := by decide +kernel
theorem dX4_fitsAllHeard_34 : decode cX4_fitsAllHeard 34 = .ok (.ifCond .le 7, 3) := by decide +kernel
theorem dX4_fitsAllHeard_37 : decode cX4_fitsAllHeard 37 = .ok (.iconst 1, 1) := by decide +kernel
theorem dX4_fitsAllHeard_38 : decode cX4_fitsAllHeard 38 = .ok (.goto 4, 3) := by decide +kernel
theorem dX4_fitsAllHeard_41 : decode cX4_fitsAllHeard 41 = .ok (.iconst 0, 1) := by decide +kernel
theorem dX4_fitsAllHeard_42 : decode cX4_fitsAllHeard 42 = .ok (.aload_n 0, 1) := by decide +kernel
theorem dX4_fitsAllHeard_43 : decode cX4_fitsAllHeard 43 = .ok (.getfield 56, 3) := by decide +kernel
theorem dX4_fitsAllHeard_46 : decode cX4_fitsAllHeard 46 = .ok (.iload_n 2, 1) := by decide +kernel
theorem dX4_fitsAllHeard_47 : decode cX4_fitsAllHeard 47 = .ok (.iaload, 1) := by decide +kernel
theorem dX4_fitsAllHeard_48 : decode cX4_fitsAllHeard 48 = .ok (.iconst 1, 1) := by decide +kernel
theorem dX4_fitsAllHeard_49 : decode cX4_fitsAllHeard 49 = .ok (.if_icmp .ne 7, 3) := by decide +kernel
theorem dX4_fitsAllHeard_52 : decode cX4_fitsAllHeard 52 = .ok (.iconst 1, 1) := by decide +kernel
theorem dX4_fitsAllHeard_53 : decode cX4_fitsAllHeard 53 = .ok (.goto 4, 3) := by decide +kernel
theorem dX4_fitsAllHeard_56 : decode cX4_fitsAllHeard 56 = .ok (.iconst 0, 1) := by decide +kernel
theorem dX4_fitsAllHeard_57 : decode cX4_fitsAllHeard 57 = .ok (.if_icmp .eq 5, 3) := by decide +kernel
theorem dX4_fitsAllHeard_60 : decode cX4_fitsAllHeard 60 = .ok (.iconst 0, 1) := by decide +kernel
theorem dX4_fitsAllHeard_61 : decode cX4_fitsAllHeard 61 = .ok (.ireturn, 1) := by decide +kernel
theorem dX4_fitsAllHeard_62 : decode cX4_fitsAllHeard 62 = .ok (.iinc 2 1, 3) := by decide +kernel
theorem dX4_fitsAllHeard_65 : decode cX4_fitsAllHeard 65 = .ok (.goto (-63), 3) := by decide +kernel
theorem dX4_fitsAllHeard_68 : decode cX4_fitsAllHeard 68 = .ok (.iconst 1, 1) := by decide +kernel
theorem dX4_fitsAllHeard_69 : decode cX4_fitsAllHeard 69 = .ok (.ireturn, 1) := by decide +kernel
theorem dX5_in_0 : decode cX5_in 0 = .ok (.iload_n 0, 1) := by decide +kernel
theorem dX5_in_1 : decode cX5_in 1 = .ok (.iload_n 1, 1) := by decide +kernel
theorem dX5_in_2 : decode cX5_in 2 = .ok (.if_icmp .lt 12, 3) := by decide +kernel
theorem dX5_in_5 : decode cX5_in 5 = .ok (.iload_n 0, 1) := by decide +kernel
theorem dX5_in_6 : decode cX5_in 6 = .ok (.iload_n 2, 1) := by decide +kernel
theorem dX5_in_7 : decode cX5_in 7 = .ok (.if_icmp .gt 7, 3) := by decide +kernel
theorem dX5_in_10 : decode cX5_in 10 = .ok (.iconst 1, 1) := by decide +kernel
theorem dX5_in_11 : decode cX5_in 11 = .ok (.goto 4, 3) := by decide +kernel
theorem dX5_in_14 : decode cX5_in 14 = .ok (.iconst 0, 1) := by decide +kernel
theorem dX5_in_15 : decode cX5_in 15 = .ok (.ireturn, 1) := by decide +kernel
theorem dX5_init_0 : decode cX5_init 0 = .ok (.aload_n 0, 1) := by decide +kernel
theorem dX5_init_1 : decode cX5_init 1 = .ok (.invokespecial 1, 3) := by decide +kernel
theorem dX5_init_4 : decode cX5_init 4 = .ok (.aload_n 0, 1) := by decide +kernel
theorem dX5_init_5 : decode cX5_init 5 = .ok (.bipush 20, 2) := by decide +kernel
theorem dX5_init_7 : decode cX5_init 7 = .ok (.newarray .int, 2) := by decide +kernel
theorem dX5_init_9 : decode cX5_init 9 = .ok (.putfield 7, 3) := by decide +kernel
theorem dX5_init_12 : decode cX5_init 12 = .ok (.aload_n 0, 1) := by decide +kernel
theorem dX5_init_13 : decode cX5_init 13 = .ok (.bipush 36, 2) := by decide +kernel
theorem dX5_init_15 : decode cX5_init 15 = .ok (.newarray .int, 2) := by decide +kernel
theorem dX5_init_17 : decode cX5_init 17 = .ok (.putfield 13, 3) := by decide +kernel
theorem dX5_init_20 : decode cX5_init 20 = .ok (.aload_n 0, 1) := by decide +kernel
theorem dX5_init_21 : decode cX5_init 21 = .ok (.sipush 360, 3) := by decide +kernel
theorem dX5_init_24 : decode cX5_init 24 = .ok (.newarray .int, 2) := by decide +kernel
theorem dX5_init_26 : decode cX5_init 26 = .ok (.putfield 16, 3) := by decide +kernel
theorem dX5_init_29 : decode cX5_init 29 = .ok (.aload_n 0, 1) := by decide +kernel
theorem dX5_init_30 : decode cX5_init 30 = .ok (.iconst 2, 1) := by decide +kernel
theorem dX5_init_31 : decode cX5_init 31 = .ok (.newarray .boolean, 2) := by decide +kernel
theorem dX5_init_33 : decode cX5_init 33 = .ok (.putfield 19, 3) := by decide +kernel
theorem dX5_init_36 : decode cX5_init 36 = .ok (.aload_n 0, 1) := by decide +kernel
theorem dX5_init_37 : decode cX5_init 37 = .ok (.bipush 72, 2) := by decide +kernel
theorem dX5_init_39 : decode cX5_init 39 = .ok (.newarray .int, 2) := by decide +kernel
theorem dX5_init_41 : decode cX5_init 41 = .ok (.putfield 23, 3) := by decide +kernel
theorem dX5_init_44 : decode cX5_init 44 = .ok (.aload_n 0, 1) := by decide +kernel
theorem dX5_init_45 : decode cX5_init 45 = .ok (.bipush 6, 2) := by decide +kernel
theorem dX5_init_47 : decode cX5_init 47 = .ok (.newarray .int, 2) := by decide +kernel
theorem dX5_init_49 : decode cX5_init 49 = .ok (.putfield 26, 3) := by decide +kernel
theorem dX5_init_52 : decode cX5_init 52 = .ok (.aload_n 0, 1) := by decide +kernel
theorem dX5_init_53 : decode cX5_init 53 = .ok (.bipush 6, 2) := by decide +kernel
theorem dX5_init_55 : decode cX5_init 55 = .ok (.newarray .int, 2) := by decide +kernel
theorem dX5_init_57 : decode cX5_init 57 = .ok (.putfield 29, 3) := by decide +kernel
theorem dX5_init_60 : decode cX5_init 60 = .ok (.aload_n 0, 1) := by decide +kernel
theorem dX5_init_61 : decode cX5_init 61 = .ok (.bipush 20, 2) := by decide +kernel
theorem dX5_init_63 : decode cX5_init 63 = .ok (.newarray .int, 2) := by decide +kernel
theorem dX5_init_65 : decode cX5_init 65 = .ok (.putfield 32, 3) := by decide +kernel
theorem dX5_init_68 : decode cX5_init 68 = .ok (.aload_n 0, 1) := by decide +kernel
theorem dX5_init_69 : decode cX5_init 69 = .ok (.bipush 36, 2) := by decide +kernel
theorem dX5_init_71 : decode cX5_init 71 = .ok (.newarray .int, 2) := by decide +kernel
theorem dX5_init_73 : decode cX5_init 73 = .ok (.putfield 35, 3) := by decide +kernel
theorem dX5_init_76 : decode cX5_init 76 = .ok (.aload_n 0, 1) := by decide +kernel
theorem dX5_init_77 : decode cX5_init 77 = .ok (.sipush 150, 3) := by decide +kernel
theorem dX5_init_80 : decode cX5_init 80 = .ok (.newarray .int, 2) := by decide +kernel
theorem dX5_init_82 : decode cX5_init 82 = .ok (.putfield 38, 3) := by decide +kernel
theorem dX5_init_85 : decode cX5_init 85 = .ok (.aload_n 0, 1) := by decide +kernel
theorem dX5_init_86 : decode cX5_init 86 = .ok (.sipush 6272, 3) := by decide +kernel
theorem dX5_init_89 : decode cX5_init 89 = .ok (.newarray .int, 2) := by decide +kernel
theorem dX5_init_91 : decode cX5_init 91 = .ok (.putfield 41, 3) := by decide +kernel
theorem dX5_init_94 : decode cX5_init 94 = .ok (.aload_n 0, 1) := by decide +kernel
theorem dX5_init_95 : decode cX5_init 95 = .ok (.bipush 8, 2) := by decide +kernel
theorem dX5_init_97 : decode cX5_init 97 = .ok (.newarray .int, 2) := by decide +kernel
theorem dX5_init_99 : decode cX5_init 99 = .ok (.putfield 44, 3) := by decide +kernel
theorem dX5_init_102 : decode cX5_init 102 = .ok (.aload_n 0, 1) := by decide +kernel
theorem dX5_init_103 : decode cX5_init 103 = .ok (.sipush 6272, 3) := by decide +kernel
theorem dX5_init_106 : decode cX5_init 106 = .ok (.newarray .int, 2) := by decide +kernel
theorem dX5_init_108 : decode cX5_init 108 = .ok (.putfield 47, 3) := by decide +kernel
theorem dX5_init_111 : decode cX5_init 111 = .ok (.aload_n 0, 1) := by decide +kernel
theorem dX5_init_112 : decode cX5_init 112 = .ok (.bipush 8, 2) := by decide +kernel
theorem dX5_init_114 : decode cX5_init 114 = .ok (.newarray .int, 2) := by decide +kernel
theorem dX5_init_116 : decode cX5_init 116 = .ok (.putfield 50, 3) := by decide +kernel
theorem dX5_init_119 : decode cX5_init 119 = .ok (.aload_n 0, 1) := by decide +kernel
theorem dX5_init_120 : decode cX5_init 120 = .ok (.invokevirtual 53, 3) := by decide +kernel
theorem dX5_init_123 : decode cX5_init 123 = .ok (.aload_n 0, 1) := by decide +kernel
theorem dX5_init_124 : decode cX5_init 124 = .ok (.invokevirtual 56, 3) := by decide +kernel
theorem dX5_init_127 : decode cX5_init 127 = .ok (.return_, 1) := by decide +kernel
theorem dX5_begins_0 : decode cX5_begins 0 = .ok (.aload_n 0, 1) := by decide +kernel
theorem dX5_begins_1 : decode cX5_begins 1 = .ok (.iconst 0, 1) := by decide +kernel
theorem dX5_begins_2 : decode cX5_begins 2 = .ok (.putfield 59, 3) := by decide +kernel
theorem dX5_begins_5 : decode cX5_begins 5 = .ok (.iconst 0, 1) := by decide +kernel
theorem dX5_begins_6 : decode cX5_begins 6 = .ok (.istore_n 1, 1) := by decide +kernel
theorem dX5_begins_7 : decode cX5_begins 7 = .ok (.iload_n 1, 1) := by decide +kernel
theorem dX5_begins_8 : decode cX5_begins 8 = .ok (.bipush 36, 2) := by decide +kernel
theorem dX5_begins_10 : decode cX5_begins 10 = .ok (.if_icmp .ge 16, 3) := by decide +kernel
theorem dX5_begins_13 : decode cX5_begins 13 = .ok (.aload_n 0, 1) := by decide +kernel
theorem dX5_begins_14 : decode cX5_begins 14 = .ok (.getfield 35, 3) := by decide +kernel
theorem dX5_begins_17 : decode cX5_begins 17 = .ok (.iload_n 1, 1) := by decide +kernel
theorem dX5_begins_18 : decode cX5_begins 18 = .ok (.iconst 0, 1) := by decide +kernel
theorem dX5_begins_19 : decode cX5_begins 19 = .ok (.iastore, 1) := by decide +kernel
theorem dX5_begins_20 : decode cX5_begins 20 = .ok (.iinc 1 1, 3) := by decide +kernel
theorem dX5_begins_23 : decode cX5_begins 23 = .ok (.goto (-16), 3) := by decide +kernel
theorem dX5_begins_26 : decode cX5_begins 26 = .ok (.aload_n 0, 1) := by decide +kernel
theorem dX5_begins_27 : decode cX5_begins 27 = .ok (.getfield 35, 3) := by decide +kernel
theorem dX5_begins_30 : decode cX5_begins 30 = .ok (.bipush 34, 2) := by decide +kernel
theorem dX5_begins_32 : decode cX5_begins 32 = .ok (.iconst 5, 1) := by decide +kernel
theorem dX5_begins_33 : decode cX5_begins 33 = .ok (.iastore, 1) := by decide +kernel
theorem dX5_begins_34 : decode cX5_begins 34 = .ok (.aload_n 0, 1) := by decide +kernel
theorem dX5_begins_35 : decode cX5_begins 35 = .ok (.getfield 35, 3) := by decide +kernel
theorem dX5_begins_38 : decode cX5_begins 38 = .ok (.bipush 35, 2) := by decide +kernel
theorem dX5_begins_40 : decode cX5_begins 40 = .ok (.bipush 9, 2) := by decide +kernel
theorem dX5_begins_42 : decode cX5_begins 42 = .ok (.iastore, 1) := by decide +kernel
theorem dX5_begins_43 : decode cX5_begins 43 = .ok (.return_, 1) := by decide +kernel
theorem dX5_becomes_0 : decode cX5_becomes 0 = .ok (.aload_n 0, 1) := by decide +kernel
theorem dX5_becomes_1 : decode cX5_becomes 1 = .ok (.aload_n 0, 1) := by decide +kernel
theorem dX5_becomes_2 : decode cX5_becomes 2 = .ok (.getfield 59, 3) := by decide +kernel
theorem dX5_becomes_5 : decode cX5_becomes 5 = .ok (.putfield 63, 3) := by decide +kernel
theorem dX5_becomes_8 : decode cX5_becomes 8 = .ok (.iconst 0, 1) := by decide +kernel
theorem dX5_becomes_9 : decode cX5_becomes 9 = .ok (.istore_n 1, 1) := by decide +kernel
theorem dX5_becomes_10 : decode cX5_becomes 10 = .ok (.iload_n 1, 1) := by decide +kernel
theorem dX5_becomes_11 : decode cX5_becomes 11 = .ok (.bipush 20, 2) := by decide +kernel
theorem dX5_becomes_13 : decode cX5_becomes 13 = .ok (.if_icmp .ge 21, 3) := by decide +kernel
theorem dX5_becomes_16 : decode cX5_becomes 16 = .ok (.aload_n 0, 1) := by decide +kernel
theorem dX5_becomes_17 : decode cX5_becomes 17 = .ok (.getfield 7, 3) := by decide +kernel
theorem dX5_becomes_20 : decode cX5_becomes 20 = .ok (.iload_n 1, 1) := by decide +kernel
theorem dX5_becomes_21 : decode cX5_becomes 21 = .ok (.aload_n 0, 1) := by decide +kernel
theorem dX5_becomes_22 : decode cX5_becomes 22 = .ok (.getfield 32, 3) := by decide +kernel
theorem dX5_becomes_25 : decode cX5_becomes 25 = .ok (.iload_n 1, 1) := by decide +kernel
theorem dX5_becomes_26 : decode cX5_becomes 26 = .ok (.iaload, 1) := by decide +kernel
theorem dX5_becomes_27 : decode cX5_becomes 27 = .ok (.iastore, 1) := by decide +kernel
theorem dX5_becomes_28 : decode cX5_becomes 28 = .ok (.iinc 1 1, 3) := by decide +kernel
theorem dX5_becomes_31 : decode cX5_becomes 31 = .ok (.goto (-21), 3) := by decide +kernel
theorem dX5_becomes_34 : decode cX5_becomes 34 = .ok (.iconst 0, 1) := by decide +kernel
theorem dX5_becomes_35 : decode cX5_becomes 35 = .ok (.istore_n 1, 1) := by decide +kernel
theorem dX5_becomes_36 : decode cX5_becomes 36 = .ok (.iload_n 1, 1) := by decide +kernel
theorem dX5_becomes_37 : decode cX5_becomes 37 = .ok (.bipush 36, 2) := by decide +kernel
theorem dX5_becomes_39 : decode cX5_becomes 39 = .ok (.if_icmp .ge 21, 3) := by decide +kernel
theorem dX5_becomes_42 : decode cX5_becomes 42 = .ok (.aload_n 0, 1) := by decide +kernel
theorem dX5_becomes_43 : decode cX5_becomes 43 = .ok (.getfield 13, 3) := by decide +kernel
theorem dX5_becomes_46 : decode cX5_becomes 46 = .ok (.iload_n 1, 1) := by decide +kernel
theorem dX5_becomes_47 : decode cX5_becomes 47 = .ok (.aload_n 0, 1) := by decide +kernel
theorem dX5_becomes_48 : decode cX5_becomes 48 = .ok (.getfield 35, 3) := by decide +kernel
theorem dX5_becomes_51 : decode cX5_becomes 51 = .ok (.iload_n 1, 1) := by decide +kernel
theorem dX5_becomes_52 : decode cX5_becomes 52 = .ok (.iaload, 1) := by decide +kernel
theorem dX5_becomes_53 : decode cX5_becomes 53 = .ok (.iastore, 1) := by decide +kernel
theorem dX5_becomes_54 : decode cX5_becomes 54 = .ok (.iinc 1 1, 3) := by decide +kernel
theorem dX5_becomes_57 : decode cX5_becomes 57 = .ok (.goto (-21), 3) := by decide +kernel
theorem dX5_becomes_60 : decode cX5_becomes 60 = .ok (.aload_n 0, 1) := by decide +kernel
theorem dX5_becomes_61 : decode cX5_becomes 61 = .ok (.getfield 13, 3) := by decide +kernel
theorem dX5_becomes_64 : decode cX5_becomes 64 = .ok (.bipush 33, 2) := by decide +kernel
theorem dX5_becomes_66 : decode cX5_becomes 66 = .ok (.iconst 1, 1) := by decide +kernel
theorem dX5_becomes_67 : decode cX5_becomes 67 = .ok (.aload_n 0, 1) := by decide +kernel
theorem dX5_becomes_68 : decode cX5_becomes 68 = .ok (.getfield 63, 3) := by decide +kernel
theorem dX5_becomes_71 : decode cX5_becomes 71 = .ok (.ishl, 1) := by decide +kernel
theorem dX5_becomes_72 : decode cX5_becomes 72 = .ok (.iconst 1, 1) := by decide +kernel
theorem dX5_becomes_73 : decode cX5_becomes 73 = .ok (.isub, 1) := by decide +kernel
theorem dX5_becomes_74 : decode cX5_becomes 74 = .ok (.iastore, 1) := by decide +kernel
theorem dX5_becomes_75 : decode cX5_becomes 75 = .ok (.aload_n 0, 1) := by decide +kernel
theorem dX5_becomes_76 : decode cX5_becomes 76 = .ok (.iconst 0, 1) := by decide +kernel
theorem dX5_becomes_77 : decode cX5_becomes 77 = .ok (.putfield 66, 3) := by decide +kernel
theorem dX5_becomes_80 : decode cX5_becomes 80 = .ok (.aload_n 0, 1) := by decide +kernel
theorem dX5_becomes_81 : decode cX5_becomes 81 = .ok (.iconst 0, 1) := by decide +kernel
theorem dX5_becomes_82 : decode cX5_becomes 82 = .ok (.putfield 69, 3) := by decide +kernel
theorem dX5_becomes_85 : decode cX5_becomes 85 = .ok (.aload_n 0, 1) := by decide +kernel
theorem dX5_becomes_86 : decode cX5_becomes 86 = .ok (.getfield 19, 3) := by decide +kernel
theorem dX5_becomes_89 : decode cX5_becomes 89 = .ok (.iconst 0, 1) := by decide +kernel
theorem dX5_becomes_90 : decode cX5_becomes 90 = .ok (.iconst 0, 1) := by decide +kernel
theorem dX5_becomes_91 : decode cX5_becomes 91 = .ok (.bastore, 1) := by decide +kernel
theorem dX5_becomes_92 : decode cX5_becomes 92 = .ok (.aload_n 0, 1) := by decide +kernel
theorem dX5_becomes_93 : decode cX5_becomes 93 = .ok (.getfield 19, 3) := by decide +kernel
theorem dX5_becomes_96 : decode cX5_becomes 96 = .ok (.iconst 1, 1) := by decide +kernel
theorem dX5_becomes_97 : decode cX5_becomes 97 = .ok (.iconst 0, 1) := by decide +kernel
theorem dX5_becomes_98 : decode cX5_becomes 98 = .ok (.bastore, 1) := by decide +kernel
theorem dX5_becomes_99 : decode cX5_becomes 99 = .ok (.return_, 1) := by decide +kernel
theorem dX5_type_0 : decode cX5_type 0 = .ok (.iload_n 1, 1) := by decide +kernel
theorem dX5_type_1 : decode cX5_type 1 = .ok (.iconst 0, 1) := by decide +kernel
theorem dX5_type_2 : decode cX5_type 2 = .ok (.sipush 255, 3) := by decide +kernel
theorem dX5_type_5 : decode cX5_type 5 = .ok (.invokestatic 72, 3) := by decide +kernel
theorem dX5_type_8 : decode cX5_type 8 = .ok (.ifCond .ne 5, 3) := by decide +kernel
theorem dX5_type_11 : decode cX5_type 11 = .ok (.iconst (-1), 1) := by decide +kernel
theorem dX5_type_12 : decode cX5_type 12 = .ok (.ireturn, 1) := by decide +kernel
theorem dX5_type_13 : decode cX5_type 13 = .ok (.aload_n 0, 1) := by decide +kernel
theorem dX5_type_14 : decode cX5_type 14 = .ok (.getfield 76, 3) := by decide +kernel
theorem dX5_type_17 : decode cX5_type 17 = .ok (.sipush 150, 3) := by decide +kernel
theorem dX5_type_20 : decode cX5_type 20 = .ok (.if_icmp .ne 6, 3) := by decide +kernel
theorem dX5_type_23 : decode cX5_type 23 = .ok (.bipush (-3), 2) := by decide +kernel
theorem dX5_type_25 : decode cX5_type 25 = .ok (.ireturn, 1) := by decide +kernel
theorem dX5_type_26 : decode cX5_type 26 = .ok (.aload_n 0, 1) := by decide +kernel
theorem dX5_type_27 : decode cX5_type 27 = .ok (.getfield 38, 3) := by decide +kernel
theorem dX5_type_30 : decode cX5_type 30 = .ok (.aload_n 0, 1) := by decide +kernel
theorem dX5_type_31 : decode cX5_type 31 = .ok (.getfield 76, 3) := by decide +kernel
theorem dX5_type_34 : decode cX5_type 34 = .ok (.iload_n 1, 1) := by decide +kernel
theorem dX5_type_35 : decode cX5_type 35 = .ok (.iastore, 1) := by decide +kernel
theorem dX5_type_36 : decode cX5_type 36 = .ok (.aload_n 0, 1) := by decide +kernel
theorem dX5_type_37 : decode cX5_type 37 = .ok (.dup, 1) := by decide +kernel
theorem dX5_type_38 : decode cX5_type 38 = .ok (.getfield 76, 3) := by decide +kernel
theorem dX5_type_41 : decode cX5_type 41 = .ok (.iconst 1, 1) := by decide +kernel
theorem dX5_type_42 : decode cX5_type 42 = .ok (.iadd, 1) := by decide +kernel
theorem dX5_type_43 : decode cX5_type 43 = .ok (.putfield 76, 3) := by decide +kernel
theorem dX5_type_46 : decode cX5_type 46 = .ok (.aload_n 0, 1) := by decide +kernel
theorem dX5_type_47 : decode cX5_type 47 = .ok (.getfield 76, 3) := by decide +kernel
theorem dX5_type_50 : decode cX5_type 50 = .ok (.ireturn, 1) := by decide +kernel
theorem dX5_clear_0 : decode cX5_clear 0 = .ok (.aload_n 0, 1) := by decide +kernel
theorem dX5_clear_1 : decode cX5_clear 1 = .ok (.getfield 76, 3) := by decide +kernel
theorem dX5_clear_4 : decode cX5_clear 4 = .ok (.istore_n 1, 1) := by decide +kernel
theorem dX5_clear_5 : decode cX5_clear 5 = .ok (.aload_n 0, 1) := by decide +kernel
theorem dX5_clear_6 : decode cX5_clear 6 = .ok (.iconst 0, 1) := by decide +kernel
theorem dX5_clear_7 : decode cX5_clear 7 = .ok (.putfield 76, 3) := by decide +kernel
theorem dX5_clear_10 : decode cX5_clear 10 = .ok (.iload_n 1, 1) := by decide +kernel
theorem dX5_clear_11 : decode cX5_clear 11 = .ok (.ireturn, 1) := by decide +kernel
theorem dX5_here_0 : decode cX5_here 0 = .ok (.aload_n 0, 1) := by decide +kernel
theorem dX5_here_1 : decode cX5_here 1 = .ok (.getfield 79, 3) := by decide +kernel
theorem dX5_here_4 : decode cX5_here 4 = .ok (.aload_n 0, 1) := by decide +kernel
theorem dX5_here_5 : decode cX5_here 5 = .ok (.getfield 76, 3) := by decide +kernel
theorem dX5_here_8 : decode cX5_here 8 = .ok (.if_icmp .ge 30, 3) := by decide +kernel
theorem dX5_here_11 : decode cX5_here 11 = .ok (.aload_n 0, 1) := by decide +kernel
theorem dX5_here_12 : decode cX5_here 12 = .ok (.getfield 38, 3) := by decide +kernel
theorem dX5_here_15 : decode cX5_here 15 = .ok (.aload_n 0, 1) := by decide +kernel
theorem dX5_here_16 : decode cX5_here 16 = .ok (.getfield 79, 3) := by decide +kernel
theorem dX5_here_19 : decode cX5_here 19 = .ok (.iaload, 1) := by decide +kernel
theorem dX5_here_20 : decode cX5_here 20 = .ok (.bipush 32, 2) := by decide +kernel
theorem dX5_here_22 : decode cX5_here 22 = .ok (.if_icmp .ne 16, 3) := by decide +kernel
theorem dX5_here_25 : decode cX5_here 25 = .ok (.aload_n 0, 1) := by decide +kernel
theorem dX5_here_26 : decode cX5_here 26 = .ok (.dup, 1) := by decide +kernel
theorem dX5_here_27 : decode cX5_here 27 = .ok (.getfield 79, 3) := by decide +kernel
theorem dX5_here_30 : decode cX5_here 30 = .ok (.iconst 1, 1) := by decide +kernel
theorem dX5_here_31 : decode cX5_here 31 = .ok (.iadd, 1) := by decide +kernel
theorem dX5_here_32 : decode cX5_here 32 = .ok (.putfield 79, 3) := by decide +kernel
theorem dX5_here_35 : decode cX5_here 35 = .ok (.goto (-35), 3) := by decide +kernel
theorem dX5_here_38 : decode cX5_here 38 = .ok (.aload_n 0, 1) := by decide +kernel
theorem dX5_here_39 : decode cX5_here 39 = .ok (.getfield 79, 3) := by decide +kernel
theorem dX5_here_42 : decode cX5_here 42 = .ok (.aload_n 0, 1) := by decide +kernel
theorem dX5_here_43 : decode cX5_here 43 = .ok (.getfield 76, 3) := by decide +kernel
theorem dX5_here_46 : decode cX5_here 46 = .ok (.if_icmp .ge 15, 3) := by decide +kernel
theorem dX5_here_49 : decode cX5_here 49 = .ok (.aload_n 0, 1) := by decide +kernel
theorem dX5_here_50 : decode cX5_here 50 = .ok (.getfield 38, 3) := by decide +kernel
theorem dX5_here_53 : decode cX5_here 53 = .ok (.aload_n 0, 1) := by decide +kernel
theorem dX5_here_54 : decode cX5_here 54 = .ok (.getfield 79, 3) := by decide +kernel
theorem dX5_here_57 : decode cX5_here 57 = .ok (.iaload, 1) := by decide +kernel
theorem dX5_here_58 : decode cX5_here 58 = .ok (.goto 4, 3) := by decide +kernel
theorem dX5_here_61 : decode cX5_here 61 = .ok (.iconst (-1), 1) := by decide +kernel
theorem dX5_here_62 : decode cX5_here 62 = .ok (.ireturn, 1) := by decide +kernel
theorem dX5_reads_0 : decode cX5_reads 0 = .ok (.aload_n 0, 1) := by decide +kernel
theorem dX5_reads_1 : decode cX5_reads 1 = .ok (.invokevirtual 82, 3) := by decide +kernel
theorem dX5_reads_4 : decode cX5_reads 4 = .ok (.istore_n 3, 1) := by decide +kernel
theorem dX5_reads_5 : decode cX5_reads 5 = .ok (.aload_n 0, 1) := by decide +kernel
theorem dX5_reads_6 : decode cX5_reads 6 = .ok (.getfield 79, 3) := by decide +kernel
theorem dX5_reads_9 : decode cX5_reads 9 = .ok (.istore 4, 2) := by decide +kernel
theorem dX5_reads_11 : decode cX5_reads 11 = .ok (.iconst 0, 1) := by decide +kernel
theorem dX5_reads_12 : decode cX5_reads 12 = .ok (.istore 5, 2) := by decide +kernel
theorem dX5_reads_14 : decode cX5_reads 14 = .ok (.iload 4, 2) := by decide +kernel
theorem dX5_reads_16 : decode cX5_reads 16 = .ok (.aload_n 0, 1) := by decide +kernel
theorem dX5_reads_17 : decode cX5_reads 17 = .ok (.getfield 76, 3) := by decide +kernel
theorem dX5_reads_20 : decode cX5_reads 20 = .ok (.if_icmp .ge 56, 3) := by decide +kernel
theorem dX5_reads_23 : decode cX5_reads 23 = .ok (.aload_n 0, 1) := by decide +kernel
theorem dX5_reads_24 : decode cX5_reads 24 = .ok (.getfield 38, 3) := by decide +kernel
theorem dX5_reads_27 : decode cX5_reads 27 = .ok (.iload 4, 2) := by decide +kernel
theorem dX5_reads_29 : decode cX5_reads 29 = .ok (.iaload, 1) := by decide +kernel
theorem dX5_reads_30 : decode cX5_reads 30 = .ok (.bipush 48, 2) := by decide +kernel
theorem dX5_reads_32 : decode cX5_reads 32 = .ok (.bipush 57, 2) := by decide +kernel
theorem dX5_reads_34 : decode cX5_reads 34 = .ok (.invokestatic 72, 3) := by decide +kernel
theorem dX5_reads_37 : decode cX5_reads 37 = .ok (.ifCond .eq 39, 3) := by decide +kernel
theorem dX5_reads_40 : decode cX5_reads 40 = .ok (.iload 5, 2) := by decide +kernel
theorem dX5_reads_42 : decode cX5_reads 42 = .ok (.bipush 99, 2) := by decide +kernel
theorem dX5_reads_44 : decode cX5_reads 44 = .ok (.if_icmp .le 8, 3) := by decide +kernel
theorem dX5_reads_47 : decode cX5_reads 47 = .ok (.iload 5, 2) := by decide +kernel
theorem dX5_reads_49 : decode cX5_reads 49 = .ok (.goto 19, 3) := by decide +kernel
theorem dX5_reads_52 : decode cX5_reads 52 = .ok (.bipush 10, 2) := by decide +kernel
theorem dX5_reads_54 : decode cX5_reads 54 = .ok (.iload 5, 2) := by decide +kernel
theorem dX5_reads_56 : decode cX5_reads 56 = .ok (.imul, 1) := by decide +kernel
theorem dX5_reads_57 : decode cX5_reads 57 = .ok (.aload_n 0, 1) := by decide +kernel
theorem dX5_reads_58 : decode cX5_reads 58 = .ok (.getfield 38, 3) := by decide +kernel
theorem dX5_reads_61 : decode cX5_reads 61 = .ok (.iload 4, 2) := by decide +kernel
theorem dX5_reads_63 : decode cX5_reads 63 = .ok (.iaload, 1) := by decide +kernel
theorem dX5_reads_64 : decode cX5_reads 64 = .ok (.iadd, 1) := by decide +kernel
theorem dX5_reads_65 : decode cX5_reads 65 = .ok (.bipush 48, 2) := by decide +kernel
theorem dX5_reads_67 : decode cX5_reads 67 = .ok (.isub, 1) := by decide +kernel
theorem dX5_reads_68 : decode cX5_reads 68 = .ok (.istore 5, 2) := by decide +kernel
theorem dX5_reads_70 : decode cX5_reads 70 = .ok (.iinc 4 1, 3) := by decide +kernel
theorem dX5_reads_73 : decode cX5_reads 73 = .ok (.goto (-59), 3) := by decide +kernel
theorem dX5_reads_76 : decode cX5_reads 76 = .ok (.iload 4, 2) := by decide +kernel
theorem dX5_reads_78 : decode cX5_reads 78 = .ok (.aload_n 0, 1) := by decide +kernel
theorem dX5_reads_79 : decode cX5_reads 79 = .ok (.getfield 79, 3) := by decide +kernel
theorem dX5_reads_82 : decode cX5_reads 82 = .ok (.if_icmp .le 34, 3) := by decide +kernel
theorem dX5_reads_85 : decode cX5_reads 85 = .ok (.iload_n 3, 1) := by decide +kernel
theorem dX5_reads_86 : decode cX5_reads 86 = .ok (.bipush 48, 2) := by decide +kernel
theorem dX5_reads_88 : decode cX5_reads 88 = .ok (.if_icmp .ne 14, 3) := by decide +kernel
theorem dX5_reads_91 : decode cX5_reads 91 = .ok (.iload 4, 2) := by decide +kernel
theorem dX5_reads_93 : decode cX5_reads 93 = .ok (.aload_n 0, 1) := by decide +kernel
theorem dX5_reads_94 : decode cX5_reads 94 = .ok (.getfield 79, 3) := by decide +kernel
theorem dX5_reads_97 : decode cX5_reads 97 = .ok (.iconst 1, 1) := by decide +kernel
theorem dX5_reads_98 : decode cX5_reads 98 = .ok (.iadd, 1) := by decide +kernel
theorem dX5_reads_99 : decode cX5_reads 99 = .ok (.if_icmp .ne 17, 3) := by decide +kernel
theorem dX5_reads_102 : decode cX5_reads 102 = .ok (.iload 5, 2) := by decide +kernel
theorem dX5_reads_104 : decode cX5_reads 104 = .ok (.iload_n 1, 1) := by decide +kernel
theorem dX5_reads_105 : decode cX5_reads 105 = .ok (.iload_n 2, 1) := by decide +kernel
theorem dX5_reads_106 : decode cX5_reads 106 = .ok (.invokestatic 72, 3) := by decide +kernel
theorem dX5_reads_109 : decode cX5_reads 109 = .ok (.ifCond .eq 7, 3) := by decide +kernel
theorem dX5_reads_112 : decode cX5_reads 112 = .ok (.iconst 1, 1) := by decide +kernel
theorem dX5_reads_113 : decode cX5_reads 113 = .ok (.goto 4, 3) := by decide +kernel
theorem dX5_reads_116 : decode cX5_reads 116 = .ok (.iconst 0, 1) := by decide +kernel
theorem dX5_reads_117 : decode cX5_reads 117 = .ok (.istore 6, 2) := by decide +kernel
theorem dX5_reads_119 : decode cX5_reads 119 = .ok (.aload_n 0, 1) := by decide +kernel
theorem dX5_reads_120 : decode cX5_reads 120 = .ok (.iload 6, 2) := by decide +kernel
theorem dX5_reads_122 : decode cX5_reads 122 = .ok (.ifCond .eq 8, 3) := by decide +kernel
theorem dX5_reads_125 : decode cX5_reads 125 = .ok (.iload 4, 2) := by decide +kernel
theorem dX5_reads_127 : decode cX5_reads 127 = .ok (.goto 7, 3) := by decide +kernel
theorem dX5_reads_130 : decode cX5_reads 130 = .ok (.aload_n 0, 1) := by decide +kernel
theorem dX5_reads_131 : decode cX5_reads 131 = .ok (.getfield 79, 3) := by decide +kernel
theorem dX5_reads_134 : decode cX5_reads 134 = .ok (.putfield 79, 3) := by decide +kernel
theorem dX5_reads_137 : decode cX5_reads 137 = .ok (.aload_n 0, 1) := by decide +kernel
theorem dX5_reads_138 : decode cX5_reads 138 = .ok (.iload 5, 2) := by decide +kernel
theorem dX5_reads_140 : decode cX5_reads 140 = .ok (.putfield 86, 3) := by decide +kernel
theorem dX5_reads_143 : decode cX5_reads 143 = .ok (.iload 6, 2) := by decide +kernel
theorem dX5_reads_145 : decode cX5_reads 145 = .ok (.ireturn, 1) := by decide +kernel
theorem dX5_bows_0 : decode cX5_bows 0 = .ok (.iconst 0, 1) := by decide +kernel
theorem dX5_bows_1 : decode cX5_bows 1 = .ok (.istore_n 1, 1) := by decide +kernel
theorem dX5_bows_2 : decode cX5_bows 2 = .ok (.iconst 0, 1) := by decide +kernel
theorem dX5_bows_3 : decode cX5_bows 3 = .ok (.istore_n 2, 1) := by decide +kernel
theorem dX5_bows_4 : decode cX5_bows 4 = .ok (.iload_n 2, 1) := by decide +kernel
theorem dX5_bows_5 : decode cX5_bows 5 = .ok (.aload_n 0, 1) := by decide +kernel
theorem dX5_bows_6 : decode cX5_bows 6 = .ok (.getfield 59, 3) := by decide +kernel
theorem dX5_bows_9 : decode cX5_bows 9 = .ok (.if_icmp .ge 29, 3) := by decide +kernel
theorem dX5_bows_12 : decode cX5_bows 12 = .ok (.iload_n 1, 1) := by decide +kernel
theorem dX5_bows_13 : decode cX5_bows 13 = .ok (.aload_n 0, 1) := by decide +kernel
theorem dX5_bows_14 : decode cX5_bows 14 = .ok (.getfield 32, 3) := by decide +kernel
theorem dX5_bows_17 : decode cX5_bows 17 = .ok (.iconst 5, 1) := by decide +kernel
theorem dX5_bows_18 : decode cX5_bows 18 = .ok (.iload_n 2, 1) := by decide +kernel
theorem dX5_bows_19 : decode cX5_bows 19 = .ok (.imul, 1) := by decide +kernel
theorem dX5_bows_20 : decode cX5_bows 20 = .ok (.iaload, 1) := by decide +kernel
theorem dX5_bows_21 : decode cX5_bows 21 = .ok (.iconst 1, 1) := by decide +kernel
theorem dX5_bows_22 : decode cX5_bows 22 = .ok (.if_icmp .ne 7, 3) := by decide +kernel
theorem dX5_bows_25 : decode cX5_bows 25 = .ok (.iconst 1, 1) := by decide +kernel
theorem dX5_bows_26 : decode cX5_bows 26 = .ok (.goto 4, 3) := by decide +kernel
theorem dX5_bows_29 : decode cX5_bows 29 = .ok (.iconst 0, 1) := by decide +kernel
theorem dX5_bows_30 : decode cX5_bows 30 = .ok (.iadd, 1) := by decide +kernel
theorem dX5_bows_31 : decode cX5_bows 31 = .ok (.istore_n 1, 1) := by decide +kernel
theorem dX5_bows_32 : decode cX5_bows 32 = .ok (.iinc 2 1, 3) := by decide +kernel
theorem dX5_bows_35 : decode cX5_bows 35 = .ok (.goto (-31), 3) := by decide +kernel
theorem dX5_bows_38 : decode cX5_bows 38 = .ok (.iload_n 1, 1) := by decide +kernel
theorem dX5_bows_39 : decode cX5_bows 39 = .ok (.ireturn, 1) := by decide +kernel
theorem dX5_readsPlayer_0 : decode cX5_readsPlayer 0 = .ok (.aload_n 0, 1) := by decide +kernel
theorem dX5_readsPlayer_1 : decode cX5_readsPlayer 1 = .ok (.getfield 59, 3) := by decide +kernel
theorem dX5_readsPlayer_4 : decode cX5_readsPlayer 4 = .ok (.iconst 4, 1) := by decide +kernel
theorem dX5_readsPlayer_5 : decode cX5_readsPlayer 5 = .ok (.if_icmp .eq 16, 3) := by decide +kernel
theorem dX5_readsPlayer_8 : decode cX5_readsPlayer 8 = .ok (.iload_n 1, 1) := by decide +kernel
theorem dX5_readsPlayer_9 : decode cX5_readsPlayer 9 = .ok (.iconst 1, 1) := by decide +kernel
theorem dX5_readsPlayer_10 : decode cX5_readsPlayer 10 = .ok (.if_icmp .ne 13, 3) := by decide +kernel
theorem dX5_readsPlayer_13 : decode cX5_readsPlayer 13 = .ok (.aload_n 0, 1) := by decide +kernel
theorem dX5_readsPlayer_14 : decode cX5_readsPlayer 14 = .ok (.invokevirtual 89, 3) := by decide +kernel
theorem dX5_readsPlayer_17 : decode cX5_readsPlayer 17 = .ok (.iconst 2, 1) := by decide +kernel
theorem dX5_readsPlayer_18 : decode cX5_readsPlayer 18 = .ok (.if_icmp .ne 5, 3) := by decide +kernel
theorem dX5_readsPlayer_21 : decode cX5_readsPlayer 21 = .ok (.iconst 0, 1) := by decide +kernel
theorem dX5_readsPlayer_22 : decode cX5_readsPlayer 22 = .ok (.ireturn, 1) := by decide +kernel
theorem dX5_readsPlayer_23 : decode cX5_readsPlayer 23 = .ok (.aload_n 0, 1) := by decide +kernel
theorem dX5_readsPlayer_24 : decode cX5_readsPlayer 24 = .ok (.dup, 1) := by decide +kernel
theorem dX5_readsPlayer_25 : decode cX5_readsPlayer 25 = .ok (.getfield 79, 3) := by decide +kernel
theorem dX5_readsPlayer_28 : decode cX5_readsPlayer 28 = .ok (.iconst 1, 1) := by decide +kernel
theorem dX5_readsPlayer_29 : decode cX5_readsPlayer 29 = .ok (.iadd, 1) := by decide +kernel
theorem dX5_readsPlayer_30 : decode cX5_readsPlayer 30 = .ok (.putfield 79, 3) := by decide +kernel
theorem dX5_readsPlayer_33 : decode cX5_readsPlayer 33 = .ok (.iconst 5, 1) := by decide +kernel
theorem dX5_readsPlayer_34 : decode cX5_readsPlayer 34 = .ok (.aload_n 0, 1) := by decide +kernel
theorem dX5_readsPlayer_35 : decode cX5_readsPlayer 35 = .ok (.getfield 59, 3) := by decide +kernel
theorem dX5_readsPlayer_38 : decode cX5_readsPlayer 38 = .ok (.imul, 1) := by decide +kernel
theorem dX5_readsPlayer_39 : decode cX5_readsPlayer 39 = .ok (.istore_n 2, 1) := by decide +kernel
theorem dX5_readsPlayer_40 : decode cX5_readsPlayer 40 = .ok (.aload_n 0, 1) := by decide +kernel
theorem dX5_readsPlayer_41 : decode cX5_readsPlayer 41 = .ok (.iconst 0, 1) := by decide +kernel
theorem dX5_readsPlayer_42 : decode cX5_readsPlayer 42 = .ok (.bipush 60, 2) := by decide +kernel
theorem dX5_readsPlayer_44 : decode cX5_readsPlayer 44 = .ok (.invokevirtual 92, 3) := by decide +kernel
theorem dX5_readsPlayer_47 : decode cX5_readsPlayer 47 = .ok (.ifCond .ne 5, 3) := by decide +kernel
theorem dX5_readsPlayer_50 : decode cX5_readsPlayer 50 = .ok (.iconst 0, 1) := by decide +kernel
theorem dX5_readsPlayer_51 : decode cX5_readsPlayer 51 = .ok (.ireturn, 1) := by decide +kernel
theorem dX5_readsPlayer_52 : decode cX5_readsPlayer 52 = .ok (.aload_n 0, 1) := by decide +kernel
theorem dX5_readsPlayer_53 : decode cX5_readsPlayer 53 = .ok (.getfield 32, 3) := by decide +kernel
theorem dX5_readsPlayer_56 : decode cX5_readsPlayer 56 = .ok (.iload_n 2, 1) := by decide +kernel
theorem dX5_readsPlayer_57 : decode cX5_readsPlayer 57 = .ok (.iconst 1, 1) := by decide +kernel
theorem dX5_readsPlayer_58 : decode cX5_readsPlayer 58 = .ok (.iadd, 1) := by decide +kernel
theorem dX5_readsPlayer_59 : decode cX5_readsPlayer 59 = .ok (.aload_n 0, 1) := by decide +kernel
theorem dX5_readsPlayer_60 : decode cX5_readsPlayer 60 = .ok (.getfield 86, 3) := by decide +kernel
theorem dX5_readsPlayer_63 : decode cX5_readsPlayer 63 = .ok (.iastore, 1) := by decide +kernel
theorem dX5_readsPlayer_64 : decode cX5_readsPlayer 64 = .ok (.aload_n 0, 1) := by decide +kernel
theorem dX5_readsPlayer_65 : decode cX5_readsPlayer 65 = .ok (.aload_n 0, 1) := by decide +kernel
theorem dX5_readsPlayer_66 : decode cX5_readsPlayer 66 = .ok (.getfield 86, 3) := by decide +kernel
theorem dX5_readsPlayer_69 : decode cX5_readsPlayer 69 = .ok (.bipush 60, 2) := by decide +kernel
theorem dX5_readsPlayer_71 : decode cX5_readsPlayer 71 = .ok (.invokevirtual 92, 3) := by decide +kernel
theorem dX5_readsPlayer_74 : decode cX5_readsPlayer 74 = .ok (.ifCond .ne 5, 3) := by decide +kernel
theorem dX5_readsPlayer_77 : decode cX5_readsPlayer 77 = .ok (.iconst 0, 1) := by decide +kernel
theorem dX5_readsPlayer_78 : decode cX5_readsPlayer 78 = .ok (.ireturn, 1) := by decide +kernel
theorem dX5_readsPlayer_79 : decode cX5_readsPlayer 79 = .ok (.aload_n 0, 1) := by decide +kernel
theorem dX5_readsPlayer_80 : decode cX5_readsPlayer 80 = .ok (.getfield 32, 3) := by decide +kernel
theorem dX5_readsPlayer_83 : decode cX5_readsPlayer 83 = .ok (.iload_n 2, 1) := by decide +kernel
theorem dX5_readsPlayer_84 : decode cX5_readsPlayer 84 = .ok (.iconst 2, 1) := by decide +kernel
theorem dX5_readsPlayer_85 : decode cX5_readsPlayer 85 = .ok (.iadd, 1) := by decide +kernel
theorem dX5_readsPlayer_86 : decode cX5_readsPlayer 86 = .ok (.aload_n 0, 1) := by decide +kernel
theorem dX5_readsPlayer_87 : decode cX5_readsPlayer 87 = .ok (.getfield 86, 3) := by decide +kernel
theorem dX5_readsPlayer_90 : decode cX5_readsPlayer 90 = .ok (.iastore, 1) := by decide +kernel
theorem dX5_readsPlayer_91 : decode cX5_readsPlayer 91 = .ok (.aload_n 0, 1) := by decide +kernel
theorem dX5_readsPlayer_92 : decode cX5_readsPlayer 92 = .ok (.iconst 2, 1) := by decide +kernel
theorem dX5_readsPlayer_93 : decode cX5_readsPlayer 93 = .ok (.bipush 9, 2) := by decide +kernel
theorem dX5_readsPlayer_95 : decode cX5_readsPlayer 95 = .ok (.invokevirtual 92, 3) := by decide +kernel
theorem dX5_readsPlayer_98 : decode cX5_readsPlayer 98 = .ok (.ifCond .ne 5, 3) := by decide +kernel
theorem dX5_readsPlayer_101 : decode cX5_readsPlayer 101 = .ok (.iconst 0, 1) := by decide +kernel
theorem dX5_readsPlayer_102 : decode cX5_readsPlayer 102 = .ok (.ireturn, 1) := by decide +kernel
theorem dX5_readsPlayer_103 : decode cX5_readsPlayer 103 = .ok (.aload_n 0, 1) := by decide +kernel
theorem dX5_readsPlayer_104 : decode cX5_readsPlayer 104 = .ok (.getfield 32, 3) := by decide +kernel
theorem dX5_readsPlayer_107 : decode cX5_readsPlayer 107 = .ok (.iload_n 2, 1) := by decide +kernel
theorem dX5_readsPlayer_108 : decode cX5_readsPlayer 108 = .ok (.iconst 3, 1) := by decide +kernel
theorem dX5_readsPlayer_109 : decode cX5_readsPlayer 109 = .ok (.iadd, 1) := by decide +kernel
theorem dX5_readsPlayer_110 : decode cX5_readsPlayer 110 = .ok (.aload_n 0, 1) := by decide +kernel
theorem dX5_readsPlayer_111 : decode cX5_readsPlayer 111 = .ok (.getfield 86, 3) := by decide +kernel
theorem dX5_readsPlayer_114 : decode cX5_readsPlayer 114 = .ok (.iastore, 1) := by decide +kernel
theorem dX5_readsPlayer_115 : decode cX5_readsPlayer 115 = .ok (.aload_n 0, 1) := by decide +kernel
theorem dX5_readsPlayer_116 : decode cX5_readsPlayer 116 = .ok (.getfield 32, 3) := by decide +kernel
theorem dX5_readsPlayer_119 : decode cX5_readsPlayer 119 = .ok (.iload_n 2, 1) := by decide +kernel
theorem dX5_readsPlayer_120 : decode cX5_readsPlayer 120 = .ok (.iconst 4, 1) := by decide +kernel
theorem dX5_readsPlayer_121 : decode cX5_readsPlayer 121 = .ok (.iadd, 1) := by decide +kernel
theorem dX5_readsPlayer_122 : decode cX5_readsPlayer 122 = .ok (.iconst 0, 1) := by decide +kernel
theorem dX5_readsPlayer_123 : decode cX5_readsPlayer 123 = .ok (.iastore, 1) := by decide +kernel
theorem dX5_readsPlayer_124 : decode cX5_readsPlayer 124 = .ok (.iload_n 1, 1) := by decide +kernel
theorem dX5_readsPlayer_125 : decode cX5_readsPlayer 125 = .ok (.iconst 1, 1) := by decide +kernel
theorem dX5_readsPlayer_126 : decode cX5_readsPlayer 126 = .ok (.if_icmp .ne 27, 3) := by decide +kernel
theorem dX5_readsPlayer_129 : decode cX5_readsPlayer 129 = .ok (.aload_n 0, 1) := by decide +kernel
theorem dX5_readsPlayer_130 : decode cX5_readsPlayer 130 = .ok (.iconst 0, 1) := by decide +kernel
theorem dX5_readsPlayer_131 : decode cX5_readsPlayer 131 = .ok (.bipush 12, 2) := by decide +kernel
theorem dX5_readsPlayer_133 : decode cX5_readsPlayer 133 = .ok (.invokevirtual 92, 3) := by decide +kernel
theorem dX5_readsPlayer_136 : decode cX5_readsPlayer 136 = .ok (.ifCond .ne 5, 3) := by decide +kernel
theorem dX5_readsPlayer_139 : decode cX5_readsPlayer 139 = .ok (.iconst 0, 1) := by decide +kernel
theorem dX5_readsPlayer_140 : decode cX5_readsPlayer 140 = .ok (.ireturn, 1) := by decide +kernel
theorem dX5_readsPlayer_141 : decode cX5_readsPlayer 141 = .ok (.aload_n 0, 1) := by decide +kernel
theorem dX5_readsPlayer_142 : decode cX5_readsPlayer 142 = .ok (.getfield 32, 3) := by decide +kernel
theorem dX5_readsPlayer_145 : decode cX5_readsPlayer 145 = .ok (.iload_n 2, 1) := by decide +kernel
theorem dX5_readsPlayer_146 : decode cX5_readsPlayer 146 = .ok (.iconst 4, 1) := by decide +kernel
theorem dX5_readsPlayer_147 : decode cX5_readsPlayer 147 = .ok (.iadd, 1) := by decide +kernel
theorem dX5_readsPlayer_148 : decode cX5_readsPlayer 148 = .ok (.aload_n 0, 1) := by decide +kernel
theorem dX5_readsPlayer_149 : decode cX5_readsPlayer 149 = .ok (.getfield 86, 3) := by decide +kernel
theorem dX5_readsPlayer_152 : decode cX5_readsPlayer 152 = .ok (.iastore, 1) := by decide +kernel
theorem dX5_readsPlayer_153 : decode cX5_readsPlayer 153 = .ok (.aload_n 0, 1) := by decide +kernel
theorem dX5_readsPlayer_154 : decode cX5_readsPlayer 154 = .ok (.getfield 32, 3) := by decide +kernel
theorem dX5_readsPlayer_157 : decode cX5_readsPlayer 157 = .ok (.iload_n 2, 1) := by decide +kernel
theorem dX5_readsPlayer_158 : decode cX5_readsPlayer 158 = .ok (.iload_n 1, 1) := by decide +kernel
theorem dX5_readsPlayer_159 : decode cX5_readsPlayer 159 = .ok (.iastore, 1) := by decide +kernel
theorem dX5_readsPlayer_160 : decode cX5_readsPlayer 160 = .ok (.aload_n 0, 1) := by decide +kernel
theorem dX5_readsPlayer_161 : decode cX5_readsPlayer 161 = .ok (.dup, 1) := by decide +kernel
theorem dX5_readsPlayer_162 : decode cX5_readsPlayer 162 = .ok (.getfield 59, 3) := by decide +kernel
theorem dX5_readsPlayer_165 : decode cX5_readsPlayer 165 = .ok (.iconst 1, 1) := by decide +kernel
theorem dX5_readsPlayer_166 : decode cX5_readsPlayer 166 = .ok (.iadd, 1) := by decide +kernel
theorem dX5_readsPlayer_167 : decode cX5_readsPlayer 167 = .ok (.putfield 59, 3) := by decide +kernel
theorem dX5_readsPlayer_170 : decode cX5_readsPlayer 170 = .ok (.iconst 1, 1) := by decide +kernel
theorem dX5_readsPlayer_171 : decode cX5_readsPlayer 171 = .ok (.ireturn, 1) := by decide +kernel
theorem dX5_readsChord_0 : decode cX5_readsChord 0 = .ok (.aload_n 0, 1) := by decide +kernel
theorem dX5_readsChord_1 : decode cX5_readsChord 1 = .ok (.getfield 35, 3) := by decide +kernel
theorem dX5_readsChord_4 : decode cX5_readsChord 4 = .ok (.iconst 0, 1) := by decide +kernel
theorem dX5_readsChord_5 : decode cX5_readsChord 5 = .ok (.iaload, 1) := by decide +kernel
theorem dX5_readsChord_6 : decode cX5_readsChord 6 = .ok (.bipush 8, 2) := by decide +kernel
theorem dX5_readsChord_8 : decode cX5_readsChord 8 = .ok (.if_icmp .ne 5, 3) := by decide +kernel
theorem dX5_readsChord_11 : decode cX5_readsChord 11 = .ok (.iconst 0, 1) := by decide +kernel
theorem dX5_readsChord_12 : decode cX5_readsChord 12 = .ok (.ireturn, 1) := by decide +kernel
theorem dX5_readsChord_13 : decode cX5_readsChord 13 = .ok (.aload_n 0, 1) := by decide +kernel
theorem dX5_readsChord_14 : decode cX5_readsChord 14 = .ok (.dup, 1) := by decide +kernel
theorem dX5_readsChord_15 : decode cX5_readsChord 15 = .ok (.getfield 79, 3) := by decide +kernel
theorem dX5_readsChord_18 : decode cX5_readsChord 18 = .ok (.iconst 1, 1) := by decide +kernel
theorem dX5_readsChord_19 : decode cX5_readsChord 19 = .ok (.iadd, 1) := by decide +kernel
theorem dX5_readsChord_20 : decode cX5_readsChord 20 = .ok (.putfield 79, 3) := by decide +kernel
theorem dX5_readsChord_23 : decode cX5_readsChord 23 = .ok (.iconst 1, 1) := by decide +kernel
theorem dX5_readsChord_24 : decode cX5_readsChord 24 = .ok (.iconst 4, 1) := by decide +kernel
theorem dX5_readsChord_25 : decode cX5_readsChord 25 = .ok (.aload_n 0, 1) := by decide +kernel
theorem dX5_readsChord_26 : decode cX5_readsChord 26 = .ok (.getfield 35, 3) := by decide +kernel
theorem dX5_readsChord_29 : decode cX5_readsChord 29 = .ok (.iconst 0, 1) := by decide +kernel
theorem dX5_readsChord_30 : decode cX5_readsChord 30 = .ok (.iaload, 1) := by decide +kernel
theorem dX5_readsChord_31 : decode cX5_readsChord 31 = .ok (.imul, 1) := by decide +kernel
theorem dX5_readsChord_32 : decode cX5_readsChord 32 = .ok (.iadd, 1) := by decide +kernel
theorem dX5_readsChord_33 : decode cX5_readsChord 33 = .ok (.istore_n 1, 1) := by decide +kernel
theorem dX5_readsChord_34 : decode cX5_readsChord 34 = .ok (.iconst 0, 1) := by decide +kernel
theorem dX5_readsChord_35 : decode cX5_readsChord 35 = .ok (.istore_n 2, 1) := by decide +kernel
theorem dX5_readsChord_36 : decode cX5_readsChord 36 = .ok (.iconst 0, 1) := by decide +kernel
theorem dX5_readsChord_37 : decode cX5_readsChord 37 = .ok (.istore_n 3, 1) := by decide +kernel
theorem dX5_readsChord_38 : decode cX5_readsChord 38 = .ok (.iload_n 2, 1) := by decide +kernel
theorem dX5_readsChord_39 : decode cX5_readsChord 39 = .ok (.iconst 3, 1) := by decide +kernel
theorem dX5_readsChord_40 : decode cX5_readsChord 40 = .ok (.if_icmp .ge 53, 3) := by decide +kernel
theorem dX5_readsChord_43 : decode cX5_readsChord 43 = .ok (.iload_n 2, 1) := by decide +kernel
theorem dX5_readsChord_44 : decode cX5_readsChord 44 = .ok (.ifCond .eq 12, 3) := by decide +kernel
theorem dX5_readsChord_47 : decode cX5_readsChord 47 = .ok (.aload_n 0, 1) := by decide +kernel
theorem dX5_readsChord_48 : decode cX5_readsChord 48 = .ok (.invokevirtual 82, 3) := by decide +kernel
theorem dX5_readsChord_51 : decode cX5_readsChord 51 = .ok (.bipush 59, 2) := by decide +kernel
theorem dX5_readsChord_53 : decode cX5_readsChord 53 = .ok (.if_icmp .eq 40, 3) := by decide +kernel
theorem dX5_readsChord_56 : decode cX5_readsChord 56 = .ok (.aload_n 0, 1) := by decide +kernel
theorem dX5_readsChord_57 : decode cX5_readsChord 57 = .ok (.iload_n 3, 1) := by decide +kernel
theorem dX5_readsChord_58 : decode cX5_readsChord 58 = .ok (.bipush 60, 2) := by decide +kernel
theorem dX5_readsChord_60 : decode cX5_readsChord 60 = .ok (.invokevirtual 92, 3) := by decide +kernel
theorem dX5_readsChord_63 : decode cX5_readsChord 63 = .ok (.ifCond .ne 5, 3) := by decide +kernel
theorem dX5_readsChord_66 : decode cX5_readsChord 66 = .ok (.iconst 0, 1) := by decide +kernel
theorem dX5_readsChord_67 : decode cX5_readsChord 67 = .ok (.ireturn, 1) := by decide +kernel
theorem dX5_readsChord_68 : decode cX5_readsChord 68 = .ok (.iinc 2 1, 3) := by decide +kernel
theorem dX5_readsChord_71 : decode cX5_readsChord 71 = .ok (.aload_n 0, 1) := by decide +kernel
theorem dX5_readsChord_72 : decode cX5_readsChord 72 = .ok (.getfield 35, 3) := by decide +kernel
theorem dX5_readsChord_75 : decode cX5_readsChord 75 = .ok (.iload_n 1, 1) := by decide +kernel
theorem dX5_readsChord_76 : decode cX5_readsChord 76 = .ok (.iload_n 2, 1) := by decide +kernel
theorem dX5_readsChord_77 : decode cX5_readsChord 77 = .ok (.iadd, 1) := by decide +kernel
theorem dX5_readsChord_78 : decode cX5_readsChord 78 = .ok (.aload_n 0, 1) := by decide +kernel
theorem dX5_readsChord_79 : decode cX5_readsChord 79 = .ok (.getfield 86, 3) := by decide +kernel
theorem dX5_readsChord_82 : decode cX5_readsChord 82 = .ok (.iastore, 1) := by decide +kernel
theorem dX5_readsChord_83 : decode cX5_readsChord 83 = .ok (.aload_n 0, 1) := by decide +kernel
theorem dX5_readsChord_84 : decode cX5_readsChord 84 = .ok (.getfield 86, 3) := by decide +kernel
theorem dX5_readsChord_87 : decode cX5_readsChord 87 = .ok (.iconst 1, 1) := by decide +kernel
theorem dX5_readsChord_88 : decode cX5_readsChord 88 = .ok (.iadd, 1) := by decide +kernel
theorem dX5_readsChord_89 : decode cX5_readsChord 89 = .ok (.istore_n 3, 1) := by decide +kernel
theorem dX5_readsChord_90 : decode cX5_readsChord 90 = .ok (.goto (-52), 3) := by decide +kernel
theorem dX5_readsChord_93 : decode cX5_readsChord 93 = .ok (.aload_n 0, 1) := by decide +kernel
theorem dX5_readsChord_94 : decode cX5_readsChord 94 = .ok (.getfield 35, 3) := by decide +kernel
theorem dX5_readsChord_97 : decode cX5_readsChord 97 = .ok (.iload_n 1, 1) := by decide +kernel
theorem dX5_readsChord_98 : decode cX5_readsChord 98 = .ok (.iload_n 2, 1) := by decide +kernel
theorem dX5_readsChord_99 : decode cX5_readsChord 99 = .ok (.iastore, 1) := by decide +kernel
theorem dX5_readsChord_100 : decode cX5_readsChord 100 = .ok (.aload_n 0, 1) := by decide +kernel
theorem dX5_readsChord_101 : decode cX5_readsChord 101 = .ok (.getfield 35, 3) := by decide +kernel
theorem dX5_readsChord_104 : decode cX5_readsChord 104 = .ok (.iconst 0, 1) := by decide +kernel
theorem dX5_readsChord_105 : decode cX5_readsChord 105 = .ok (.dup2, 1) := by decide +kernel
theorem dX5_readsChord_106 : decode cX5_readsChord 106 = .ok (.iaload, 1) := by decide +kernel
theorem dX5_readsChord_107 : decode cX5_readsChord 107 = .ok (.iconst 1, 1) := by decide +kernel
theorem dX5_readsChord_108 : decode cX5_readsChord 108 = .ok (.iadd, 1) := by decide +kernel
theorem dX5_readsChord_109 : decode cX5_readsChord 109 = .ok (.iastore, 1) := by decide +kernel
theorem dX5_readsChord_110 : decode cX5_readsChord 110 = .ok (.iconst 1, 1) := by decide +kernel
theorem dX5_readsChord_111 : decode cX5_readsChord 111 = .ok (.ireturn, 1) := by decide +kernel
theorem dX5_readsQuiet_0 : decode cX5_readsQuiet 0 = .ok (.aload_n 0, 1) := by decide +kernel
theorem dX5_readsQuiet_1 : decode cX5_readsQuiet 1 = .ok (.getfield 96, 3) := by decide +kernel
theorem dX5_readsQuiet_4 : decode cX5_readsQuiet 4 = .ok (.ifCond .eq 5, 3) := by decide +kernel
theorem dX5_readsQuiet_7 : decode cX5_readsQuiet 7 = .ok (.iconst 0, 1) := by decide +kernel
theorem dX5_readsQuiet_8 : decode cX5_readsQuiet 8 = .ok (.ireturn, 1) := by decide +kernel
theorem dX5_readsQuiet_9 : decode cX5_readsQuiet 9 = .ok (.aload_n 0, 1) := by decide +kernel
theorem dX5_readsQuiet_10 : decode cX5_readsQuiet 10 = .ok (.dup, 1) := by decide +kernel
theorem dX5_readsQuiet_11 : decode cX5_readsQuiet 11 = .ok (.getfield 79, 3) := by decide +kernel
theorem dX5_readsQuiet_14 : decode cX5_readsQuiet 14 = .ok (.iconst 1, 1) := by decide +kernel
theorem dX5_readsQuiet_15 : decode cX5_readsQuiet 15 = .ok (.iadd, 1) := by decide +kernel
theorem dX5_readsQuiet_16 : decode cX5_readsQuiet 16 = .ok (.putfield 79, 3) := by decide +kernel
theorem dX5_readsQuiet_19 : decode cX5_readsQuiet 19 = .ok (.aload_n 0, 1) := by decide +kernel
theorem dX5_readsQuiet_20 : decode cX5_readsQuiet 20 = .ok (.iconst 1, 1) := by decide +kernel
theorem dX5_readsQuiet_21 : decode cX5_readsQuiet 21 = .ok (.putfield 96, 3) := by decide +kernel
theorem dX5_readsQuiet_24 : decode cX5_readsQuiet 24 = .ok (.aload_n 0, 1) := by decide +kernel
theorem dX5_readsQuiet_25 : decode cX5_readsQuiet 25 = .ok (.iconst 0, 1) := by decide +kernel
theorem dX5_readsQuiet_26 : decode cX5_readsQuiet 26 = .ok (.bipush 20, 2) := by decide +kernel
theorem dX5_readsQuiet_28 : decode cX5_readsQuiet 28 = .ok (.invokevirtual 92, 3) := by decide +kernel
theorem dX5_readsQuiet_31 : decode cX5_readsQuiet 31 = .ok (.ifCond .ne 5, 3) := by decide +kernel
theorem dX5_readsQuiet_34 : decode cX5_readsQuiet 34 = .ok (.iconst 0, 1) := by decide +kernel
theorem dX5_readsQuiet_35 : decode cX5_readsQuiet 35 = .ok (.ireturn, 1) := by decide +kernel
theorem dX5_readsQuiet_36 : decode cX5_readsQuiet 36 = .ok (.aload_n 0, 1) := by decide +kernel
theorem dX5_readsQuiet_37 : decode cX5_readsQuiet 37 = .ok (.getfield 35, 3) := by decide +kernel
theorem dX5_readsQuiet_40 : decode cX5_readsQuiet 40 = .ok (.bipush 34, 2) := by decide +kernel
theorem dX5_readsQuiet_42 : decode cX5_readsQuiet 42 = .ok (.aload_n 0, 1) := by decide +kernel
theorem dX5_readsQuiet_43 : decode cX5_readsQuiet 43 = .ok (.getfield 86, 3) := by decide +kernel
theorem dX5_readsQuiet_46 : decode cX5_readsQuiet 46 = .ok (.iastore, 1) := by decide +kernel
theorem dX5_readsQuiet_47 : decode cX5_readsQuiet 47 = .ok (.aload_n 0, 1) := by decide +kernel
theorem dX5_readsQuiet_48 : decode cX5_readsQuiet 48 = .ok (.iconst 0, 1) := by decide +kernel
theorem dX5_readsQuiet_49 : decode cX5_readsQuiet 49 = .ok (.bipush 30, 2) := by decide +kernel
theorem dX5_readsQuiet_51 : decode cX5_readsQuiet 51 = .ok (.invokevirtual 92, 3) := by decide +kernel
theorem dX5_readsQuiet_54 : decode cX5_readsQuiet 54 = .ok (.ifCond .ne 5, 3) := by decide +kernel
theorem dX5_readsQuiet_57 : decode cX5_readsQuiet 57 = .ok (.iconst 0, 1) := by decide +kernel
theorem dX5_readsQuiet_58 : decode cX5_readsQuiet 58 = .ok (.ireturn, 1) := by decide +kernel
theorem dX5_readsQuiet_59 : decode cX5_readsQuiet 59 = .ok (.aload_n 0, 1) := by decide +kernel
theorem dX5_readsQuiet_60 : decode cX5_readsQuiet 60 = .ok (.getfield 35, 3) := by decide +kernel
theorem dX5_readsQuiet_63 : decode cX5_readsQuiet 63 = .ok (.bipush 35, 2) := by decide +kernel
theorem dX5_readsQuiet_65 : decode cX5_readsQuiet 65 = .ok (.aload_n 0, 1) := by decide +kernel
theorem dX5_readsQuiet_66 : decode cX5_readsQuiet 66 = .ok (.getfield 86, 3) := by decide +kernel
theorem dX5_readsQuiet_69 : decode cX5_readsQuiet 69 = .ok (.iastore, 1) := by decide +kernel
theorem dX5_readsQuiet_70 : decode cX5_readsQuiet 70 = .ok (.iconst 1, 1) := by decide +kernel
theorem dX5_readsQuiet_71 : decode cX5_readsQuiet 71 = .ok (.ireturn, 1) := by decide +kernel
theorem dX5_item_0 : decode cX5_item 0 = .ok (.aload_n 0, 1) := by decide +kernel
theorem dX5_item_1 : decode cX5_item 1 = .ok (.invokevirtual 82, 3) := by decide +kernel
theorem dX5_item_4 : decode cX5_item 4 = .ok (.lookupswitch 80 #[(98, 58), (103, 64), (110, 70), (113, 75), (114, 52)], 52) := by decide +kernel
theorem dX5_item_56 : decode cX5_item 56 = .ok (.aload_n 0, 1) := by decide +kernel
theorem dX5_item_57 : decode cX5_item 57 = .ok (.iconst 0, 1) := by decide +kernel
theorem dX5_item_58 : decode cX5_item 58 = .ok (.invokevirtual 100, 3) := by decide +kernel
theorem dX5_item_61 : decode cX5_item 61 = .ok (.ireturn, 1) := by decide +kernel
theorem dX5_item_62 : decode cX5_item 62 = .ok (.aload_n 0, 1) := by decide +kernel
theorem dX5_item_63 : decode cX5_item 63 = .ok (.iconst 1, 1) := by decide +kernel
theorem dX5_item_64 : decode cX5_item 64 = .ok (.invokevirtual 100, 3) := by decide +kernel
theorem dX5_item_67 : decode cX5_item 67 = .ok (.ireturn, 1) := by decide +kernel
theorem dX5_item_68 : decode cX5_item 68 = .ok (.aload_n 0, 1) := by decide +kernel
theorem dX5_item_69 : decode cX5_item 69 = .ok (.iconst 2, 1) := by decide +kernel
theorem dX5_item_70 : decode cX5_item 70 = .ok (.invokevirtual 100, 3) := by decide +kernel
theorem dX5_item_73 : decode cX5_item 73 = .ok (.ireturn, 1) := by decide +kernel
theorem dX5_item_74 : decode cX5_item 74 = .ok (.aload_n 0, 1) := by decide +kernel
theorem dX5_item_75 : decode cX5_item 75 = .ok (.invokevirtual 104, 3) := by decide +kernel
theorem dX5_item_78 : decode cX5_item 78 = .ok (.ireturn, 1) := by decide +kernel
theorem dX5_item_79 : decode cX5_item 79 = .ok (.aload_n 0, 1) := by decide +kernel
theorem dX5_item_80 : decode cX5_item 80 = .ok (.invokevirtual 108, 3) := by decide +kernel
theorem dX5_item_83 : decode cX5_item 83 = .ok (.ireturn, 1) := by decide +kernel
theorem dX5_item_84 : decode cX5_item 84 = .ok (.iconst 0, 1) := by decide +kernel
theorem dX5_item_85 : decode cX5_item 85 = .ok (.ireturn, 1) := by decide +kernel
theorem dX5_band_0 : decode cX5_band 0 = .ok (.aload_n 0, 1) := by decide +kernel
theorem dX5_band_1 : decode cX5_band 1 = .ok (.invokevirtual 53, 3) := by decide +kernel
theorem dX5_band_4 : decode cX5_band 4 = .ok (.aload_n 0, 1) := by decide +kernel
theorem dX5_band_5 : decode cX5_band 5 = .ok (.iconst 0, 1) := by decide +kernel
theorem dX5_band_6 : decode cX5_band 6 = .ok (.putfield 96, 3) := by decide +kernel
theorem dX5_band_9 : decode cX5_band 9 = .ok (.aload_n 0, 1) := by decide +kernel
theorem dX5_band_10 : decode cX5_band 10 = .ok (.iconst 0, 1) := by decide +kernel
theorem dX5_band_11 : decode cX5_band 11 = .ok (.putfield 79, 3) := by decide +kernel
theorem dX5_band_14 : decode cX5_band 14 = .ok (.iconst 0, 1) := by decide +kernel
theorem dX5_band_15 : decode cX5_band 15 = .ok (.istore_n 1, 1) := by decide +kernel
theorem dX5_band_16 : decode cX5_band 16 = .ok (.aload_n 0, 1) := by decide +kernel
theorem dX5_band_17 : decode cX5_band 17 = .ok (.invokevirtual 82, 3) := by decide +kernel
theorem dX5_band_20 : decode cX5_band 20 = .ok (.iconst (-1), 1) := by decide +kernel
theorem dX5_band_21 : decode cX5_band 21 = .ok (.if_icmp .eq 43, 3) := by decide +kernel
theorem dX5_band_24 : decode cX5_band 24 = .ok (.aload_n 0, 1) := by decide +kernel
theorem dX5_band_25 : decode cX5_band 25 = .ok (.invokevirtual 111, 3) := by decide +kernel
theorem dX5_band_28 : decode cX5_band 28 = .ok (.ifCond .eq 12, 3) := by decide +kernel
theorem dX5_band_31 : decode cX5_band 31 = .ok (.aload_n 0, 1) := by decide +kernel
theorem dX5_band_32 : decode cX5_band 32 = .ok (.invokevirtual 82, 3) := by decide +kernel
theorem dX5_band_35 : decode cX5_band 35 = .ok (.bipush 59, 2) := by decide +kernel
theorem dX5_band_37 : decode cX5_band 37 = .ok (.if_icmp .eq 11, 3) := by decide +kernel
theorem dX5_band_40 : decode cX5_band 40 = .ok (.bipush (-10), 2) := by decide +kernel
theorem dX5_band_42 : decode cX5_band 42 = .ok (.aload_n 0, 1) := by decide +kernel
theorem dX5_band_43 : decode cX5_band 43 = .ok (.getfield 79, 3) := by decide +kernel
theorem dX5_band_46 : decode cX5_band 46 = .ok (.isub, 1) := by decide +kernel
theorem dX5_band_47 : decode cX5_band 47 = .ok (.ireturn, 1) := by decide +kernel
theorem dX5_band_48 : decode cX5_band 48 = .ok (.aload_n 0, 1) := by decide +kernel
theorem dX5_band_49 : decode cX5_band 49 = .ok (.dup, 1) := by decide +kernel
theorem dX5_band_50 : decode cX5_band 50 = .ok (.getfield 79, 3) := by decide +kernel
theorem dX5_band_53 : decode cX5_band 53 = .ok (.iconst 1, 1) := by decide +kernel
theorem dX5_band_54 : decode cX5_band 54 = .ok (.iadd, 1) := by decide +kernel
theorem dX5_band_55 : decode cX5_band 55 = .ok (.putfield 79, 3) := by decide +kernel
theorem dX5_band_58 : decode cX5_band 58 = .ok (.iinc 1 1, 3) := by decide +kernel
theorem dX5_band_61 : decode cX5_band 61 = .ok (.goto (-45), 3) := by decide +kernel
theorem dX5_band_64 : decode cX5_band 64 = .ok (.aload_n 0, 1) := by decide +kernel
theorem dX5_band_65 : decode cX5_band 65 = .ok (.invokevirtual 56, 3) := by decide +kernel
theorem dX5_band_68 : decode cX5_band 68 = .ok (.aload_n 0, 1) := by decide +kernel
theorem dX5_band_69 : decode cX5_band 69 = .ok (.iconst 0, 1) := by decide +kernel
theorem dX5_band_70 : decode cX5_band 70 = .ok (.putfield 76, 3) := by decide +kernel
theorem dX5_band_73 : decode cX5_band 73 = .ok (.iload_n 1, 1) := by decide +kernel
theorem dX5_band_74 : decode cX5_band 74 = .ok (.ireturn, 1) := by decide +kernel
theorem dX5_isPlayer_0 : decode cX5_isPlayer 0 = .ok (.iload_n 1, 1) := by decide +kernel
theorem dX5_isPlayer_1 : decode cX5_isPlayer 1 = .ok (.iconst 0, 1) := by decide +kernel
theorem dX5_isPlayer_2 : decode cX5_isPlayer 2 = .ok (.aload_n 0, 1) := by decide +kernel
theorem dX5_isPlayer_3 : decode cX5_isPlayer 3 = .ok (.getfield 63, 3) := by decide +kernel
theorem dX5_isPlayer_6 : decode cX5_isPlayer 6 = .ok (.iconst 1, 1) := by decide +kernel
theorem dX5_isPlayer_7 : decode cX5_isPlayer 7 = .ok (.isub, 1) := by decide +kernel
theorem dX5_isPlayer_8 : decode cX5_isPlayer 8 = .ok (.invokestatic 72, 3) := by decide +kernel
theorem dX5_isPlayer_11 : decode cX5_isPlayer 11 = .ok (.ireturn, 1) := by decide +kernel
theorem dX5_isChord_0 : decode cX5_isChord 0 = .ok (.iload_n 1, 1) := by decide +kernel
theorem dX5_isChord_1 : decode cX5_isChord 1 = .ok (.iconst 0, 1) := by decide +kernel
theorem dX5_isChord_2 : decode cX5_isChord 2 = .ok (.aload_n 0, 1) := by decide +kernel
theorem dX5_isChord_3 : decode cX5_isChord 3 = .ok (.getfield 13, 3) := by decide +kernel
theorem dX5_isChord_6 : decode cX5_isChord 6 = .ok (.iconst 0, 1) := by decide +kernel
theorem dX5_isChord_7 : decode cX5_isChord 7 = .ok (.iaload, 1) := by decide +kernel
theorem dX5_isChord_8 : decode cX5_isChord 8 = .ok (.iconst 1, 1) := by decide +kernel
theorem dX5_isChord_9 : decode cX5_isChord 9 = .ok (.isub, 1) := by decide +kernel
theorem dX5_isChord_10 : decode cX5_isChord 10 = .ok (.invokestatic 72, 3) := by decide +kernel
theorem dX5_isChord_13 : decode cX5_isChord 13 = .ok (.ireturn, 1) := by decide +kernel
theorem dX5_kind_0 : decode cX5_kind 0 = .ok (.aload_n 0, 1) := by decide +kernel
theorem dX5_kind_1 : decode cX5_kind 1 = .ok (.getfield 7, 3) := by decide +kernel
theorem dX5_kind_4 : decode cX5_kind 4 = .ok (.iconst 5, 1) := by decide +kernel
theorem dX5_kind_5 : decode cX5_kind 5 = .ok (.iload_n 1, 1) := by decide +kernel
theorem dX5_kind_6 : decode cX5_kind 6 = .ok (.imul, 1) := by decide +kernel
theorem dX5_kind_7 : decode cX5_kind 7 = .ok (.iaload, 1) := by decide +kernel
theorem dX5_kind_8 : decode cX5_kind 8 = .ok (.ireturn, 1) := by decide +kernel
theorem dX5_isIn_0 : decode cX5_isIn 0 = .ok (.aload_n 0, 1) := by decide +kernel
theorem dX5_isIn_1 : decode cX5_isIn 1 = .ok (.getfield 13, 3) := by decide +kernel
theorem dX5_isIn_4 : decode cX5_isIn 4 = .ok (.bipush 33, 2) := by decide +kernel
theorem dX5_isIn_6 : decode cX5_isIn 6 = .ok (.iaload, 1) := by decide +kernel
theorem dX5_isIn_7 : decode cX5_isIn 7 = .ok (.iload_n 1, 1) := by decide +kernel
theorem dX5_isIn_8 : decode cX5_isIn 8 = .ok (.ishr, 1) := by decide +kernel
theorem dX5_isIn_9 : decode cX5_isIn 9 = .ok (.iconst 1, 1) := by decide +kernel
theorem dX5_isIn_10 : decode cX5_isIn 10 = .ok (.iand, 1) := by decide +kernel
theorem dX5_isIn_11 : decode cX5_isIn 11 = .ok (.iconst 1, 1) := by decide +kernel
theorem dX5_isIn_12 : decode cX5_isIn 12 = .ok (.if_icmp .ne 7, 3) := by decide +kernel
theorem dX5_isIn_15 : decode cX5_isIn 15 = .ok (.iconst 1, 1) := by decide +kernel
theorem dX5_isIn_16 : decode cX5_isIn 16 = .ok (.goto 4, 3) := by decide +kernel
theorem dX5_isIn_19 : decode cX5_isIn 19 = .ok (.iconst 0, 1) := by decide +kernel
theorem dX5_isIn_20 : decode cX5_isIn 20 = .ok (.ireturn, 1) := by decide +kernel
theorem dX5_notes_0 : decode cX5_notes 0 = .ok (.aload_n 0, 1) := by decide +kernel
theorem dX5_notes_1 : decode cX5_notes 1 = .ok (.getfield 13, 3) := by decide +kernel
theorem dX5_notes_4 : decode cX5_notes 4 = .ok (.iconst 1, 1) := by decide +kernel
theorem dX5_notes_5 : decode cX5_notes 5 = .ok (.iconst 4, 1) := by decide +kernel
theorem dX5_notes_6 : decode cX5_notes 6 = .ok (.iload_n 1, 1) := by decide +kernel
theorem dX5_notes_7 : decode cX5_notes 7 = .ok (.imul, 1) := by decide +kernel
theorem dX5_notes_8 : decode cX5_notes 8 = .ok (.iadd, 1) := by decide +kernel
theorem dX5_notes_9 : decode cX5_notes 9 = .ok (.iaload, 1) := by decide +kernel
theorem dX5_notes_10 : decode cX5_notes 10 = .ok (.ireturn, 1) := by decide +kernel
theorem dX5_note_0 : decode cX5_note 0 = .ok (.aload_n 0, 1) := by decide +kernel
theorem dX5_note_1 : decode cX5_note 1 = .ok (.getfield 13, 3) := by decide +kernel
theorem dX5_note_4 : decode cX5_note 4 = .ok (.iconst 1, 1) := by decide +kernel
theorem dX5_note_5 : decode cX5_note 5 = .ok (.iconst 4, 1) := by decide +kernel
theorem dX5_note_6 : decode cX5_note 6 = .ok (.iload_n 1, 1) := by decide +kernel
theorem dX5_note_7 : decode cX5_note 7 = .ok (.imul, 1) := by decide +kernel
theorem dX5_note_8 : decode cX5_note 8 = .ok (.iadd, 1) := by decide +kernel
theorem dX5_note_9 : decode cX5_note 9 = .ok (.iconst 1, 1) := by decide +kernel
theorem dX5_note_10 : decode cX5_note 10 = .ok (.iadd, 1) := by decide +kernel
theorem dX5_note_11 : decode cX5_note 11 = .ok (.iload_n 2, 1) := by decide +kernel
theorem dX5_note_12 : decode cX5_note 12 = .ok (.iadd, 1) := by decide +kernel
theorem dX5_note_13 : decode cX5_note 13 = .ok (.iaload, 1) := by decide +kernel
theorem dX5_note_14 : decode cX5_note 14 = .ok (.ireturn, 1) := by decide +kernel
theorem dX5_player_0 : decode cX5_player 0 = .ok (.aload_n 0, 1) := by decide +kernel
theorem dX5_player_1 : decode cX5_player 1 = .ok (.iload_n 1, 1) := by decide +kernel
theorem dX5_player_2 : decode cX5_player 2 = .ok (.invokevirtual 114, 3) := by decide +kernel
theorem dX5_player_5 : decode cX5_player 5 = .ok (.ifCond .eq 12, 3) := by decide +kernel
theorem dX5_player_8 : decode cX5_player 8 = .ok (.iload_n 2, 1) := by decide +kernel
theorem dX5_player_9 : decode cX5_player 9 = .ok (.iconst 0, 1) := by decide +kernel
theorem dX5_player_10 : decode cX5_player 10 = .ok (.iconst 4, 1) := by decide +kernel
theorem dX5_player_11 : decode cX5_player 11 = .ok (.invokestatic 72, 3) := by decide +kernel
theorem dX5_player_14 : decode cX5_player 14 = .ok (.ifCond .ne 5, 3) := by decide +kernel
theorem dX5_player_17 : decode cX5_player 17 = .ok (.iconst (-1), 1) := by decide +kernel
theorem dX5_player_18 : decode cX5_player 18 = .ok (.ireturn, 1) := by decide +kernel
theorem dX5_player_19 : decode cX5_player 19 = .ok (.iload_n 2, 1) := by decide +kernel
theorem dX5_player_20 : decode cX5_player 20 = .ok (.iconst 4, 1) := by decide +kernel
theorem dX5_player_21 : decode cX5_player 21 = .ok (.if_icmp .ge 16, 3) := by decide +kernel
theorem dX5_player_24 : decode cX5_player 24 = .ok (.aload_n 0, 1) := by decide +kernel
theorem dX5_player_25 : decode cX5_player 25 = .ok (.getfield 7, 3) := by decide +kernel
theorem dX5_player_28 : decode cX5_player 28 = .ok (.iconst 5, 1) := by decide +kernel
theorem dX5_player_29 : decode cX5_player 29 = .ok (.iload_n 1, 1) := by decide +kernel
theorem dX5_player_30 : decode cX5_player 30 = .ok (.imul, 1) := by decide +kernel
theorem dX5_player_31 : decode cX5_player 31 = .ok (.iload_n 2, 1) := by decide +kernel
theorem dX5_player_32 : decode cX5_player 32 = .ok (.iadd, 1) := by decide +kernel
theorem dX5_player_33 : decode cX5_player 33 = .ok (.iaload, 1) := by decide +kernel
theorem dX5_player_34 : decode cX5_player 34 = .ok (.goto 16, 3) := by decide +kernel
theorem dX5_player_37 : decode cX5_player 37 = .ok (.aload_n 0, 1) := by decide +kernel
theorem dX5_player_38 : decode cX5_player 38 = .ok (.iload_n 1, 1) := by decide +kernel
theorem dX5_player_39 : decode cX5_player 39 = .ok (.invokevirtual 117, 3) := by decide +kernel
theorem dX5_player_42 : decode cX5_player 42 = .ok (.ifCond .eq 7, 3) := by decide +kernel
theorem dX5_player_45 : decode cX5_player 45 = .ok (.iconst 1, 1) := by decide +kernel
theorem dX5_player_46 : decode cX5_player 46 = .ok (.goto 4, 3) := by decide +kernel
theorem dX5_player_49 : decode cX5_player 49 = .ok (.iconst 0, 1) := by decide +kernel
theorem dX5_player_50 : decode cX5_player 50 = .ok (.ireturn, 1) := by decide +kernel
theorem dX5_span_0 : decode cX5_span 0 = .ok (.aload_n 0, 1) := by decide +kernel
theorem dX5_span_1 : decode cX5_span 1 = .ok (.iload_n 1, 1) := by decide +kernel
theorem dX5_span_2 : decode cX5_span 2 = .ok (.invokevirtual 114, 3) := by decide +kernel
theorem dX5_span_5 : decode cX5_span 5 = .ok (.ifCond .eq 25, 3) := by decide +kernel
theorem dX5_span_8 : decode cX5_span 8 = .ok (.aload_n 0, 1) := by decide +kernel
theorem dX5_span_9 : decode cX5_span 9 = .ok (.iload_n 1, 1) := by decide +kernel
theorem dX5_span_10 : decode cX5_span 10 = .ok (.invokevirtual 120, 3) := by decide +kernel
theorem dX5_span_13 : decode cX5_span 13 = .ok (.iconst 1, 1) := by decide +kernel
theorem dX5_span_14 : decode cX5_span 14 = .ok (.if_icmp .ne 16, 3) := by decide +kernel
theorem dX5_span_17 : decode cX5_span 17 = .ok (.aload_n 0, 1) := by decide +kernel
theorem dX5_span_18 : decode cX5_span 18 = .ok (.getfield 7, 3) := by decide +kernel
theorem dX5_span_21 : decode cX5_span 21 = .ok (.iconst 5, 1) := by decide +kernel
theorem dX5_span_22 : decode cX5_span 22 = .ok (.iload_n 1, 1) := by decide +kernel
theorem dX5_span_23 : decode cX5_span 23 = .ok (.imul, 1) := by decide +kernel
theorem dX5_span_24 : decode cX5_span 24 = .ok (.iconst 4, 1) := by decide +kernel
theorem dX5_span_25 : decode cX5_span 25 = .ok (.iadd, 1) := by decide +kernel
theorem dX5_span_26 : decode cX5_span 26 = .ok (.iaload, 1) := by decide +kernel
theorem dX5_span_27 : decode cX5_span 27 = .ok (.goto 4, 3) := by decide +kernel
theorem dX5_span_30 : decode cX5_span 30 = .ok (.iconst (-1), 1) := by decide +kernel
theorem dX5_span_31 : decode cX5_span 31 = .ok (.ireturn, 1) := by decide +kernel
theorem dX5_chord_0 : decode cX5_chord 0 = .ok (.aload_n 0, 1) := by decide +kernel
theorem dX5_chord_1 : decode cX5_chord 1 = .ok (.iload_n 1, 1) := by decide +kernel
theorem dX5_chord_2 : decode cX5_chord 2 = .ok (.invokevirtual 124, 3) := by decide +kernel
theorem dX5_chord_5 : decode cX5_chord 5 = .ok (.ifCond .eq 8, 3) := by decide +kernel
theorem dX5_chord_8 : decode cX5_chord 8 = .ok (.iload_n 2, 1) := by decide +kernel
theorem dX5_chord_9 : decode cX5_chord 9 = .ok (.iconst (-1), 1) := by decide +kernel
theorem dX5_chord_10 : decode cX5_chord 10 = .ok (.if_icmp .ge 5, 3) := by decide +kernel
theorem dX5_chord_13 : decode cX5_chord 13 = .ok (.iconst (-1), 1) := by decide +kernel
theorem dX5_chord_14 : decode cX5_chord 14 = .ok (.ireturn, 1) := by decide +kernel
theorem dX5_chord_15 : decode cX5_chord 15 = .ok (.iload_n 2, 1) := by decide +kernel
theorem dX5_chord_16 : decode cX5_chord 16 = .ok (.iconst (-1), 1) := by decide +kernel
theorem dX5_chord_17 : decode cX5_chord 17 = .ok (.if_icmp .ne 11, 3) := by decide +kernel
theorem dX5_chord_20 : decode cX5_chord 20 = .ok (.aload_n 0, 1) := by decide +kernel
theorem dX5_chord_21 : decode cX5_chord 21 = .ok (.iload_n 1, 1) := by decide +kernel
theorem dX5_chord_22 : decode cX5_chord 22 = .ok (.invokevirtual 127, 3) := by decide +kernel
theorem dX5_chord_25 : decode cX5_chord 25 = .ok (.goto 23, 3) := by decide +kernel
theorem dX5_chord_28 : decode cX5_chord 28 = .ok (.iload_n 2, 1) := by decide +kernel
theorem dX5_chord_29 : decode cX5_chord 29 = .ok (.aload_n 0, 1) := by decide +kernel
theorem dX5_chord_30 : decode cX5_chord 30 = .ok (.iload_n 1, 1) := by decide +kernel
theorem dX5_chord_31 : decode cX5_chord 31 = .ok (.invokevirtual 127, 3) := by decide +kernel
theorem dX5_chord_34 : decode cX5_chord 34 = .ok (.if_icmp .ge 12, 3) := by decide +kernel
theorem dX5_chord_37 : decode cX5_chord 37 = .ok (.aload_n 0, 1) := by decide +kernel
theorem dX5_chord_38 : decode cX5_chord 38 = .ok (.iload_n 1, 1) := by decide +kernel
theorem dX5_chord_39 : decode cX5_chord 39 = .ok (.iload_n 2, 1) := by decide +kernel
theorem dX5_chord_40 : decode cX5_chord 40 = .ok (.invokevirtual 130, 3) := by decide +kernel
theorem dX5_chord_43 : decode cX5_chord 43 = .ok (.goto 5, 3) := by decide +kernel
theorem dX5_chord_46 : decode cX5_chord 46 = .ok (.bipush (-9), 2) := by decide +kernel
theorem dX5_chord_48 : decode cX5_chord 48 = .ok (.ireturn, 1) := by decide +kernel
theorem dX5_remembers_0 : decode cX5_remembers 0 = .ok (.aload_n 0, 1) := by decide +kernel
theorem dX5_remembers_1 : decode cX5_remembers 1 = .ok (.getfield 66, 3) := by decide +kernel
theorem dX5_remembers_4 : decode cX5_remembers 4 = .ok (.bipush 10, 2) := by decide +kernel
theorem dX5_remembers_6 : decode cX5_remembers 6 = .ok (.if_icmp .ne 43, 3) := by decide +kernel
theorem dX5_remembers_9 : decode cX5_remembers 9 = .ok (.iconst 0, 1) := by decide +kernel
theorem dX5_remembers_10 : decode cX5_remembers 10 = .ok (.istore_n 1, 1) := by decide +kernel
theorem dX5_remembers_11 : decode cX5_remembers 11 = .ok (.iload_n 1, 1) := by decide +kernel
theorem dX5_remembers_12 : decode cX5_remembers 12 = .ok (.sipush 324, 3) := by decide +kernel
theorem dX5_remembers_15 : decode cX5_remembers 15 = .ok (.if_icmp .ge 24, 3) := by decide +kernel
theorem dX5_remembers_18 : decode cX5_remembers 18 = .ok (.aload_n 0, 1) := by decide +kernel
theorem dX5_remembers_19 : decode cX5_remembers 19 = .ok (.getfield 16, 3) := by decide +kernel
theorem dX5_remembers_22 : decode cX5_remembers 22 = .ok (.iload_n 1, 1) := by decide +kernel
theorem dX5_remembers_23 : decode cX5_remembers 23 = .ok (.aload_n 0, 1) := by decide +kernel
theorem dX5_remembers_24 : decode cX5_remembers 24 = .ok (.getfield 16, 3) := by decide +kernel
theorem dX5_remembers_27 : decode cX5_remembers 27 = .ok (.iload_n 1, 1) := by decide +kernel
theorem dX5_remembers_28 : decode cX5_remembers 28 = .ok (.bipush 36, 2) := by decide +kernel
theorem dX5_remembers_30 : decode cX5_remembers 30 = .ok (.iadd, 1) := by decide +kernel
theorem dX5_remembers_31 : decode cX5_remembers 31 = .ok (.iaload, 1) := by decide +kernel
theorem dX5_remembers_32 : decode cX5_remembers 32 = .ok (.iastore, 1) := by decide +kernel
theorem dX5_remembers_33 : decode cX5_remembers 33 = .ok (.iinc 1 1, 3) := by decide +kernel
theorem dX5_remembers_36 : decode cX5_remembers 36 = .ok (.goto (-25), 3) := by decide +kernel
theorem dX5_remembers_39 : decode cX5_remembers 39 = .ok (.aload_n 0, 1) := by decide +kernel
theorem dX5_remembers_40 : decode cX5_remembers 40 = .ok (.dup, 1) := by decide +kernel
theorem dX5_remembers_41 : decode cX5_remembers 41 = .ok (.getfield 66, 3) := by decide +kernel
theorem dX5_remembers_44 : decode cX5_remembers 44 = .ok (.iconst 1, 1) := by decide +kernel
theorem dX5_remembers_45 : decode cX5_remembers 45 = .ok (.isub, 1) := by decide +kernel
theorem dX5_remembers_46 : decode cX5_remembers 46 = .ok (.putfield 66, 3) := by decide +kernel
theorem dX5_remembers_49 : decode cX5_remembers 49 = .ok (.iconst 0, 1) := by decide +kernel
theorem dX5_remembers_50 : decode cX5_remembers 50 = .ok (.istore_n 1, 1) := by decide +kernel
theorem dX5_remembers_51 : decode cX5_remembers 51 = .ok (.iload_n 1, 1) := by decide +kernel
theorem dX5_remembers_52 : decode cX5_remembers 52 = .ok (.bipush 36, 2) := by decide +kernel
theorem dX5_remembers_54 : decode cX5_remembers 54 = .ok (.if_icmp .ge 29, 3) := by decide +kernel
theorem dX5_remembers_57 : decode cX5_remembers 57 = .ok (.aload_n 0, 1) := by decide +kernel
theorem dX5_remembers_58 : decode cX5_remembers 58 = .ok (.getfield 16, 3) := by decide +kernel
theorem dX5_remembers_61 : decode cX5_remembers 61 = .ok (.bipush 36, 2) := by decide +kernel
theorem dX5_remembers_63 : decode cX5_remembers 63 = .ok (.aload_n 0, 1) := by decide +kernel
theorem dX5_remembers_64 : decode cX5_remembers 64 = .ok (.getfield 66, 3) := by decide +kernel
theorem dX5_remembers_67 : decode cX5_remembers 67 = .ok (.imul, 1) := by decide +kernel
theorem dX5_remembers_68 : decode cX5_remembers 68 = .ok (.iload_n 1, 1) := by decide +kernel
theorem dX5_remembers_69 : decode cX5_remembers 69 = .ok (.iadd, 1) := by decide +kernel
theorem dX5_remembers_70 : decode cX5_remembers 70 = .ok (.aload_n 0, 1) := by decide +kernel
theorem dX5_remembers_71 : decode cX5_remembers 71 = .ok (.getfield 13, 3) := by decide +kernel
theorem dX5_remembers_74 : decode cX5_remembers 74 = .ok (.iload_n 1, 1) := by decide +kernel
theorem dX5_remembers_75 : decode cX5_remembers 75 = .ok (.iaload, 1) := by decide +kernel
theorem dX5_remembers_76 : decode cX5_remembers 76 = .ok (.iastore, 1) := by decide +kernel
theorem dX5_remembers_77 : decode cX5_remembers 77 = .ok (.iinc 1 1, 3) := by decide +kernel
theorem dX5_remembers_80 : decode cX5_remembers 80 = .ok (.goto (-29), 3) := by decide +kernel
theorem dX5_remembers_83 : decode cX5_remembers 83 = .ok (.aload_n 0, 1) := by decide +kernel
theorem dX5_remembers_84 : decode cX5_remembers 84 = .ok (.dup, 1) := by decide +kernel
theorem dX5_remembers_85 : decode cX5_remembers 85 = .ok (.getfield 66, 3) := by decide +kernel
theorem dX5_remembers_88 : decode cX5_remembers 88 = .ok (.iconst 1, 1) := by decide +kernel
theorem dX5_remembers_89 : decode cX5_remembers 89 = .ok (.iadd, 1) := by decide +kernel
theorem dX5_remembers_90 : decode cX5_remembers 90 = .ok (.putfield 66, 3) := by decide +kernel
theorem dX5_remembers_93 : decode cX5_remembers 93 = .ok (.return_, 1) := by decide +kernel
theorem dX5_areNotes_0 : decode cX5_areNotes 0 = .ok (.iload_n 1, 1) := by decide +kernel
theorem dX5_areNotes_1 : decode cX5_areNotes 1 = .ok (.iconst (-1), 1) := by decide +kernel
theorem dX5_areNotes_2 : decode cX5_areNotes 2 = .ok (.if_icmp .eq 15, 3) := by decide +kernel
theorem dX5_areNotes_5 : decode cX5_areNotes 5 = .ok (.iload_n 1, 1) := by decide +kernel
theorem dX5_areNotes_6 : decode cX5_areNotes 6 = .ok (.iload_n 0, 1) := by decide +kernel
theorem dX5_areNotes_7 : decode cX5_areNotes 7 = .ok (.iconst 1, 1) := by decide +kernel
theorem dX5_areNotes_8 : decode cX5_areNotes 8 = .ok (.iadd, 1) := by decide +kernel
theorem dX5_areNotes_9 : decode cX5_areNotes 9 = .ok (.bipush 60, 2) := by decide +kernel
theorem dX5_areNotes_11 : decode cX5_areNotes 11 = .ok (.invokestatic 72, 3) := by decide +kernel
theorem dX5_areNotes_14 : decode cX5_areNotes 14 = .ok (.ifCond .eq 7, 3) := by decide +kernel
theorem dX5_areNotes_17 : decode cX5_areNotes 17 = .ok (.iconst 1, 1) := by decide +kernel
theorem dX5_areNotes_18 : decode cX5_areNotes 18 = .ok (.goto 4, 3) := by decide +kernel
theorem dX5_areNotes_21 : decode cX5_areNotes 21 = .ok (.iconst 0, 1) := by decide +kernel
theorem dX5_areNotes_22 : decode cX5_areNotes 22 = .ok (.istore_n 3, 1) := by decide +kernel
theorem dX5_areNotes_23 : decode cX5_areNotes 23 = .ok (.iload_n 2, 1) := by decide +kernel
theorem dX5_areNotes_24 : decode cX5_areNotes 24 = .ok (.iconst (-1), 1) := by decide +kernel
theorem dX5_areNotes_25 : decode cX5_areNotes 25 = .ok (.if_icmp .eq 20, 3) := by decide +kernel
theorem dX5_areNotes_28 : decode cX5_areNotes 28 = .ok (.iload_n 1, 1) := by decide +kernel
theorem dX5_areNotes_29 : decode cX5_areNotes 29 = .ok (.iconst (-1), 1) := by decide +kernel
theorem dX5_areNotes_30 : decode cX5_areNotes 30 = .ok (.if_icmp .eq 19, 3) := by decide +kernel
theorem dX5_areNotes_33 : decode cX5_areNotes 33 = .ok (.iload_n 2, 1) := by decide +kernel
theorem dX5_areNotes_34 : decode cX5_areNotes 34 = .ok (.iload_n 1, 1) := by decide +kernel
theorem dX5_areNotes_35 : decode cX5_areNotes 35 = .ok (.iconst 1, 1) := by decide +kernel
theorem dX5_areNotes_36 : decode cX5_areNotes 36 = .ok (.iadd, 1) := by decide +kernel
theorem dX5_areNotes_37 : decode cX5_areNotes 37 = .ok (.bipush 60, 2) := by decide +kernel
theorem dX5_areNotes_39 : decode cX5_areNotes 39 = .ok (.invokestatic 72, 3) := by decide +kernel
theorem dX5_areNotes_42 : decode cX5_areNotes 42 = .ok (.ifCond .eq 7, 3) := by decide +kernel
theorem dX5_areNotes_45 : decode cX5_areNotes 45 = .ok (.iconst 1, 1) := by decide +kernel
theorem dX5_areNotes_46 : decode cX5_areNotes 46 = .ok (.goto 4, 3) := by decide +kernel
theorem dX5_areNotes_49 : decode cX5_areNotes 49 = .ok (.iconst 0, 1) := by decide +kernel
theorem dX5_areNotes_50 : decode cX5_areNotes 50 = .ok (.istore 4, 2) := by decide +kernel
theorem dX5_areNotes_52 : decode cX5_areNotes 52 = .ok (.iload_n 0, 1) := by decide +kernel
theorem dX5_areNotes_53 : decode cX5_areNotes 53 = .ok (.iconst 0, 1) := by decide +kernel
theorem dX5_areNotes_54 : decode cX5_areNotes 54 = .ok (.bipush 60, 2) := by decide +kernel
theorem dX5_areNotes_56 : decode cX5_areNotes 56 = .ok (.invokestatic 72, 3) := by decide +kernel
theorem dX5_areNotes_59 : decode cX5_areNotes 59 = .ok (.ifCond .eq 16, 3) := by decide +kernel
theorem dX5_areNotes_62 : decode cX5_areNotes 62 = .ok (.iload_n 3, 1) := by decide +kernel
theorem dX5_areNotes_63 : decode cX5_areNotes 63 = .ok (.ifCond .eq 12, 3) := by decide +kernel
theorem dX5_areNotes_66 : decode cX5_areNotes 66 = .ok (.iload 4, 2) := by decide +kernel
theorem dX5_areNotes_68 : decode cX5_areNotes 68 = .ok (.ifCond .eq 7, 3) := by decide +kernel
theorem dX5_areNotes_71 : decode cX5_areNotes 71 = .ok (.iconst 1, 1) := by decide +kernel
theorem dX5_areNotes_72 : decode cX5_areNotes 72 = .ok (.goto 4, 3) := by decide +kernel
theorem dX5_areNotes_75 : decode cX5_areNotes 75 = .ok (.iconst 0, 1) := by decide +kernel
theorem dX5_areNotes_76 : decode cX5_areNotes 76 = .ok (.ireturn, 1) := by decide +kernel
theorem dX5_puts_0 : decode cX5_puts 0 = .ok (.iload_n 1, 1) := by decide +kernel
theorem dX5_puts_1 : decode cX5_puts 1 = .ok (.iconst 0, 1) := by decide +kernel
theorem dX5_puts_2 : decode cX5_puts 2 = .ok (.aload_n 0, 1) := by decide +kernel
theorem dX5_puts_3 : decode cX5_puts 3 = .ok (.getfield 13, 3) := by decide +kernel
theorem dX5_puts_6 : decode cX5_puts 6 = .ok (.iconst 0, 1) := by decide +kernel
theorem dX5_puts_7 : decode cX5_puts 7 = .ok (.iaload, 1) := by decide +kernel
theorem dX5_puts_8 : decode cX5_puts 8 = .ok (.invokestatic 72, 3) := by decide +kernel
theorem dX5_puts_11 : decode cX5_puts 11 = .ok (.ifCond .eq 13, 3) := by decide +kernel
theorem dX5_puts_14 : decode cX5_puts 14 = .ok (.iload_n 2, 1) := by decide +kernel
theorem dX5_puts_15 : decode cX5_puts 15 = .ok (.iload_n 3, 1) := by decide +kernel
theorem dX5_puts_16 : decode cX5_puts 16 = .ok (.iload 4, 2) := by decide +kernel
theorem dX5_puts_18 : decode cX5_puts 18 = .ok (.invokestatic 134, 3) := by decide +kernel
theorem dX5_puts_21 : decode cX5_puts 21 = .ok (.ifCond .ne 5, 3) := by decide +kernel
theorem dX5_puts_24 : decode cX5_puts 24 = .ok (.iconst (-1), 1) := by decide +kernel
theorem dX5_puts_25 : decode cX5_puts 25 = .ok (.ireturn, 1) := by decide +kernel
theorem dX5_puts_26 : decode cX5_puts 26 = .ok (.iload_n 3, 1) := by decide +kernel
theorem dX5_puts_27 : decode cX5_puts 27 = .ok (.iconst (-1), 1) := by decide +kernel
theorem dX5_puts_28 : decode cX5_puts 28 = .ok (.if_icmp .ne 7, 3) := by decide +kernel
theorem dX5_puts_31 : decode cX5_puts 31 = .ok (.iconst 1, 1) := by decide +kernel
theorem dX5_puts_32 : decode cX5_puts 32 = .ok (.goto 14, 3) := by decide +kernel
theorem dX5_puts_35 : decode cX5_puts 35 = .ok (.iload 4, 2) := by decide +kernel
theorem dX5_puts_37 : decode cX5_puts 37 = .ok (.iconst (-1), 1) := by decide +kernel
theorem dX5_puts_38 : decode cX5_puts 38 = .ok (.if_icmp .ne 7, 3) := by decide +kernel
theorem dX5_puts_41 : decode cX5_puts 41 = .ok (.iconst 2, 1) := by decide +kernel
theorem dX5_puts_42 : decode cX5_puts 42 = .ok (.goto 4, 3) := by decide +kernel
theorem dX5_puts_45 : decode cX5_puts 45 = .ok (.iconst 3, 1) := by decide +kernel
theorem dX5_puts_46 : decode cX5_puts 46 = .ok (.istore 5, 2) := by decide +kernel
theorem dX5_puts_48 : decode cX5_puts 48 = .ok (.iload_n 1, 1) := by decide +kernel
theorem dX5_puts_49 : decode cX5_puts 49 = .ok (.aload_n 0, 1) := by decide +kernel
theorem dX5_puts_50 : decode cX5_puts 50 = .ok (.getfield 13, 3) := by decide +kernel
theorem dX5_puts_53 : decode cX5_puts 53 = .ok (.iconst 0, 1) := by decide +kernel
theorem dX5_puts_54 : decode cX5_puts 54 = .ok (.iaload, 1) := by decide +kernel
theorem dX5_puts_55 : decode cX5_puts 55 = .ok (.if_icmp .ge 60, 3) := by decide +kernel
theorem dX5_puts_58 : decode cX5_puts 58 = .ok (.aload_n 0, 1) := by decide +kernel
theorem dX5_puts_59 : decode cX5_puts 59 = .ok (.iload_n 1, 1) := by decide +kernel
theorem dX5_puts_60 : decode cX5_puts 60 = .ok (.invokevirtual 127, 3) := by decide +kernel
theorem dX5_puts_63 : decode cX5_puts 63 = .ok (.iload 5, 2) := by decide +kernel
theorem dX5_puts_65 : decode cX5_puts 65 = .ok (.if_icmp .ne 50, 3) := by decide +kernel
theorem dX5_puts_68 : decode cX5_puts 68 = .ok (.aload_n 0, 1) := by decide +kernel
theorem dX5_puts_69 : decode cX5_puts 69 = .ok (.iload_n 1, 1) := by decide +kernel
theorem dX5_puts_70 : decode cX5_puts 70 = .ok (.iconst 0, 1) := by decide +kernel
theorem dX5_puts_71 : decode cX5_puts 71 = .ok (.invokevirtual 130, 3) := by decide +kernel
theorem dX5_puts_74 : decode cX5_puts 74 = .ok (.iload_n 2, 1) := by decide +kernel
theorem dX5_puts_75 : decode cX5_puts 75 = .ok (.if_icmp .ne 40, 3) := by decide +kernel
theorem dX5_puts_78 : decode cX5_puts 78 = .ok (.iload 5, 2) := by decide +kernel
theorem dX5_puts_80 : decode cX5_puts 80 = .ok (.iconst 2, 1) := by decide +kernel
theorem dX5_puts_81 : decode cX5_puts 81 = .ok (.if_icmp .lt 13, 3) := by decide +kernel
theorem dX5_puts_84 : decode cX5_puts 84 = .ok (.aload_n 0, 1) := by decide +kernel
theorem dX5_puts_85 : decode cX5_puts 85 = .ok (.iload_n 1, 1) := by decide +kernel
theorem dX5_puts_86 : decode cX5_puts 86 = .ok (.iconst 1, 1) := by decide +kernel
theorem dX5_puts_87 : decode cX5_puts 87 = .ok (.invokevirtual 130, 3) := by decide +kernel
theorem dX5_puts_90 : decode cX5_puts 90 = .ok (.iload_n 3, 1) := by decide +kernel
theorem dX5_puts_91 : decode cX5_puts 91 = .ok (.if_icmp .ne 24, 3) := by decide +kernel
theorem dX5_puts_94 : decode cX5_puts 94 = .ok (.iload 5, 2) := by decide +kernel
theorem dX5_puts_96 : decode cX5_puts 96 = .ok (.iconst 3, 1) := by decide +kernel
theorem dX5_puts_97 : decode cX5_puts 97 = .ok (.if_icmp .lt 14, 3) := by decide +kernel
theorem dX5_puts_100 : decode cX5_puts 100 = .ok (.aload_n 0, 1) := by decide +kernel
theorem dX5_puts_101 : decode cX5_puts 101 = .ok (.iload_n 1, 1) := by decide +kernel
theorem dX5_puts_102 : decode cX5_puts 102 = .ok (.iconst 2, 1) := by decide +kernel
theorem dX5_puts_103 : decode cX5_puts 103 = .ok (.invokevirtual 130, 3) := by decide +kernel
theorem dX5_puts_106 : decode cX5_puts 106 = .ok (.iload 4, 2) := by decide +kernel
theorem dX5_puts_108 : decode cX5_puts 108 = .ok (.if_icmp .ne 7, 3) := by decide +kernel
theorem dX5_puts_111 : decode cX5_puts 111 = .ok (.iconst 1, 1) := by decide +kernel
theorem dX5_puts_112 : decode cX5_puts 112 = .ok (.goto 4, 3) := by decide +kernel
theorem dX5_puts_115 : decode cX5_puts 115 = .ok (.iconst 0, 1) := by decide +kernel
theorem dX5_puts_116 : decode cX5_puts 116 = .ok (.istore 6, 2) := by decide +kernel
theorem dX5_puts_118 : decode cX5_puts 118 = .ok (.iload 6, 2) := by decide +kernel
theorem dX5_puts_120 : decode cX5_puts 120 = .ok (.ifCond .eq 6, 3) := by decide +kernel
theorem dX5_puts_123 : decode cX5_puts 123 = .ok (.bipush (-2), 2) := by decide +kernel
theorem dX5_puts_125 : decode cX5_puts 125 = .ok (.ireturn, 1) := by decide +kernel
theorem dX5_puts_126 : decode cX5_puts 126 = .ok (.iload_n 1, 1) := by decide +kernel
theorem dX5_puts_127 : decode cX5_puts 127 = .ok (.bipush 8, 2) := by decide +kernel
theorem dX5_puts_129 : decode cX5_puts 129 = .ok (.if_icmp .ne 6, 3) := by decide +kernel
theorem dX5_puts_132 : decode cX5_puts 132 = .ok (.bipush (-3), 2) := by decide +kernel
theorem dX5_puts_134 : decode cX5_puts 134 = .ok (.ireturn, 1) := by decide +kernel
theorem dX5_puts_135 : decode cX5_puts 135 = .ok (.aload_n 0, 1) := by decide +kernel
theorem dX5_puts_136 : decode cX5_puts 136 = .ok (.invokevirtual 137, 3) := by decide +kernel
theorem dX5_puts_139 : decode cX5_puts 139 = .ok (.iconst 1, 1) := by decide +kernel
theorem dX5_puts_140 : decode cX5_puts 140 = .ok (.iconst 4, 1) := by decide +kernel
theorem dX5_puts_141 : decode cX5_puts 141 = .ok (.iload_n 1, 1) := by decide +kernel
theorem dX5_puts_142 : decode cX5_puts 142 = .ok (.imul, 1) := by decide +kernel
theorem dX5_puts_143 : decode cX5_puts 143 = .ok (.iadd, 1) := by decide +kernel
theorem dX5_puts_144 : decode cX5_puts 144 = .ok (.istore 7, 2) := by decide +kernel
theorem dX5_puts_146 : decode cX5_puts 146 = .ok (.aload_n 0, 1) := by decide +kernel
theorem dX5_puts_147 : decode cX5_puts 147 = .ok (.getfield 13, 3) := by decide +kernel
theorem dX5_puts_150 : decode cX5_puts 150 = .ok (.iload 7, 2) := by decide +kernel
theorem dX5_puts_152 : decode cX5_puts 152 = .ok (.iload 5, 2) := by decide +kernel
theorem dX5_puts_154 : decode cX5_puts 154 = .ok (.iastore, 1) := by decide +kernel
theorem dX5_puts_155 : decode cX5_puts 155 = .ok (.aload_n 0, 1) := by decide +kernel
theorem dX5_puts_156 : decode cX5_puts 156 = .ok (.getfield 13, 3) := by decide +kernel
theorem dX5_puts_159 : decode cX5_puts 159 = .ok (.iload 7, 2) := by decide +kernel
theorem dX5_puts_161 : decode cX5_puts 161 = .ok (.iconst 1, 1) := by decide +kernel
theorem dX5_puts_162 : decode cX5_puts 162 = .ok (.iadd, 1) := by decide +kernel
theorem dX5_puts_163 : decode cX5_puts 163 = .ok (.iload_n 2, 1) := by decide +kernel
theorem dX5_puts_164 : decode cX5_puts 164 = .ok (.iastore, 1) := by decide +kernel
theorem dX5_puts_165 : decode cX5_puts 165 = .ok (.aload_n 0, 1) := by decide +kernel
theorem dX5_puts_166 : decode cX5_puts 166 = .ok (.getfield 13, 3) := by decide +kernel
theorem dX5_puts_169 : decode cX5_puts 169 = .ok (.iload 7, 2) := by decide +kernel
theorem dX5_puts_171 : decode cX5_puts 171 = .ok (.iconst 2, 1) := by decide +kernel
theorem dX5_puts_172 : decode cX5_puts 172 = .ok (.iadd, 1) := by decide +kernel
theorem dX5_puts_173 : decode cX5_puts 173 = .ok (.iload_n 3, 1) := by decide +kernel
theorem dX5_puts_174 : decode cX5_puts 174 = .ok (.iastore, 1) := by decide +kernel
theorem dX5_puts_175 : decode cX5_puts 175 = .ok (.aload_n 0, 1) := by decide +kernel
theorem dX5_puts_176 : decode cX5_puts 176 = .ok (.getfield 13, 3) := by decide +kernel
theorem dX5_puts_179 : decode cX5_puts 179 = .ok (.iload 7, 2) := by decide +kernel
theorem dX5_puts_181 : decode cX5_puts 181 = .ok (.iconst 3, 1) := by decide +kernel
theorem dX5_puts_182 : decode cX5_puts 182 = .ok (.iadd, 1) := by decide +kernel
theorem dX5_puts_183 : decode cX5_puts 183 = .ok (.iload 4, 2) := by decide +kernel
theorem dX5_puts_185 : decode cX5_puts 185 = .ok (.iastore, 1) := by decide +kernel
theorem dX5_puts_186 : decode cX5_puts 186 = .ok (.aload_n 0, 1) := by decide +kernel
theorem dX5_puts_187 : decode cX5_puts 187 = .ok (.getfield 13, 3) := by decide +kernel
theorem dX5_puts_190 : decode cX5_puts 190 = .ok (.iconst 0, 1) := by decide +kernel
theorem dX5_puts_191 : decode cX5_puts 191 = .ok (.dup2, 1) := by decide +kernel
theorem dX5_puts_192 : decode cX5_puts 192 = .ok (.iaload, 1) := by decide +kernel
theorem dX5_puts_193 : decode cX5_puts 193 = .ok (.iload_n 1, 1) := by decide +kernel
theorem dX5_puts_194 : decode cX5_puts 194 = .ok (.aload_n 0, 1) := by decide +kernel
theorem dX5_puts_195 : decode cX5_puts 195 = .ok (.getfield 13, 3) := by decide +kernel
theorem dX5_puts_198 : decode cX5_puts 198 = .ok (.iconst 0, 1) := by decide +kernel
theorem dX5_puts_199 : decode cX5_puts 199 = .ok (.iaload, 1) := by decide +kernel
theorem dX5_puts_200 : decode cX5_puts 200 = .ok (.if_icmp .ne 7, 3) := by decide +kernel
theorem dX5_puts_203 : decode cX5_puts 203 = .ok (.iconst 1, 1) := by decide +kernel
theorem dX5_puts_204 : decode cX5_puts 204 = .ok (.goto 4, 3) := by decide +kernel
theorem dX5_puts_207 : decode cX5_puts 207 = .ok (.iconst 0, 1) := by decide +kernel
theorem dX5_puts_208 : decode cX5_puts 208 = .ok (.iadd, 1) := by decide +kernel
theorem dX5_puts_209 : decode cX5_puts 209 = .ok (.iastore, 1) := by decide +kernel
theorem dX5_puts_210 : decode cX5_puts 210 = .ok (.aload_n 0, 1) := by decide +kernel
theorem dX5_puts_211 : decode cX5_puts 211 = .ok (.getfield 13, 3) := by decide +kernel
theorem dX5_puts_214 : decode cX5_puts 214 = .ok (.iconst 0, 1) := by decide +kernel
theorem dX5_puts_215 : decode cX5_puts 215 = .ok (.iaload, 1) := by decide +kernel
theorem dX5_puts_216 : decode cX5_puts 216 = .ok (.ireturn, 1) := by decide +kernel
theorem dX5_takes_0 : decode cX5_takes 0 = .ok (.aload_n 0, 1) := by decide +kernel
theorem dX5_takes_1 : decode cX5_takes 1 = .ok (.iload_n 1, 1) := by decide +kernel
theorem dX5_takes_2 : decode cX5_takes 2 = .ok (.invokevirtual 124, 3) := by decide +kernel
theorem dX5_takes_5 : decode cX5_takes 5 = .ok (.ifCond .ne 5, 3) := by decide +kernel
theorem dX5_takes_8 : decode cX5_takes 8 = .ok (.iconst (-1), 1) := by decide +kernel
theorem dX5_takes_9 : decode cX5_takes 9 = .ok (.ireturn, 1) := by decide +kernel
theorem dX5_takes_10 : decode cX5_takes 10 = .ok (.aload_n 0, 1) := by decide +kernel
theorem dX5_takes_11 : decode cX5_takes 11 = .ok (.invokevirtual 137, 3) := by decide +kernel
theorem dX5_takes_14 : decode cX5_takes 14 = .ok (.aload_n 0, 1) := by decide +kernel
theorem dX5_takes_15 : decode cX5_takes 15 = .ok (.getfield 13, 3) := by decide +kernel
theorem dX5_takes_18 : decode cX5_takes 18 = .ok (.iconst 0, 1) := by decide +kernel
theorem dX5_takes_19 : decode cX5_takes 19 = .ok (.dup2, 1) := by decide +kernel
theorem dX5_takes_20 : decode cX5_takes 20 = .ok (.iaload, 1) := by decide +kernel
theorem dX5_takes_21 : decode cX5_takes 21 = .ok (.iconst 1, 1) := by decide +kernel
theorem dX5_takes_22 : decode cX5_takes 22 = .ok (.isub, 1) := by decide +kernel
theorem dX5_takes_23 : decode cX5_takes 23 = .ok (.iastore, 1) := by decide +kernel
theorem dX5_takes_24 : decode cX5_takes 24 = .ok (.iconst 1, 1) := by decide +kernel
theorem dX5_takes_25 : decode cX5_takes 25 = .ok (.iconst 4, 1) := by decide +kernel
theorem dX5_takes_26 : decode cX5_takes 26 = .ok (.iload_n 1, 1) := by decide +kernel
theorem dX5_takes_27 : decode cX5_takes 27 = .ok (.imul, 1) := by decide +kernel
theorem dX5_takes_28 : decode cX5_takes 28 = .ok (.iadd, 1) := by decide +kernel
theorem dX5_takes_29 : decode cX5_takes 29 = .ok (.istore_n 2, 1) := by decide +kernel
theorem dX5_takes_30 : decode cX5_takes 30 = .ok (.iload_n 2, 1) := by decide +kernel
theorem dX5_takes_31 : decode cX5_takes 31 = .ok (.iconst 1, 1) := by decide +kernel
theorem dX5_takes_32 : decode cX5_takes 32 = .ok (.iconst 4, 1) := by decide +kernel
theorem dX5_takes_33 : decode cX5_takes 33 = .ok (.aload_n 0, 1) := by decide +kernel
theorem dX5_takes_34 : decode cX5_takes 34 = .ok (.getfield 13, 3) := by decide +kernel
theorem dX5_takes_37 : decode cX5_takes 37 = .ok (.iconst 0, 1) := by decide +kernel
theorem dX5_takes_38 : decode cX5_takes 38 = .ok (.iaload, 1) := by decide +kernel
theorem dX5_takes_39 : decode cX5_takes 39 = .ok (.imul, 1) := by decide +kernel
theorem dX5_takes_40 : decode cX5_takes 40 = .ok (.iadd, 1) := by decide +kernel
theorem dX5_takes_41 : decode cX5_takes 41 = .ok (.if_icmp .ge 23, 3) := by decide +kernel
theorem dX5_takes_44 : decode cX5_takes 44 = .ok (.aload_n 0, 1) := by decide +kernel
theorem dX5_takes_45 : decode cX5_takes 45 = .ok (.getfield 13, 3) := by decide +kernel
theorem dX5_takes_48 : decode cX5_takes 48 = .ok (.iload_n 2, 1) := by decide +kernel
theorem dX5_takes_49 : decode cX5_takes 49 = .ok (.aload_n 0, 1) := by decide +kernel
theorem dX5_takes_50 : decode cX5_takes 50 = .ok (.getfield 13, 3) := by decide +kernel
theorem dX5_takes_53 : decode cX5_takes 53 = .ok (.iload_n 2, 1) := by decide +kernel
theorem dX5_takes_54 : decode cX5_takes 54 = .ok (.iconst 4, 1) := by decide +kernel
theorem dX5_takes_55 : decode cX5_takes 55 = .ok (.iadd, 1) := by decide +kernel
theorem dX5_takes_56 : decode cX5_takes 56 = .ok (.iaload, 1) := by decide +kernel
theorem dX5_takes_57 : decode cX5_takes 57 = .ok (.iastore, 1) := by decide +kernel
theorem dX5_takes_58 : decode cX5_takes 58 = .ok (.iinc 2 1, 3) := by decide +kernel
theorem dX5_takes_61 : decode cX5_takes 61 = .ok (.goto (-31), 3) := by decide +kernel
theorem dX5_takes_64 : decode cX5_takes 64 = .ok (.aload_n 0, 1) := by decide +kernel
theorem dX5_takes_65 : decode cX5_takes 65 = .ok (.getfield 13, 3) := by decide +kernel
theorem dX5_takes_68 : decode cX5_takes 68 = .ok (.iconst 0, 1) := by decide +kernel
theorem dX5_takes_69 : decode cX5_takes 69 = .ok (.iaload, 1) := by decide +kernel
theorem dX5_takes_70 : decode cX5_takes 70 = .ok (.ireturn, 1) := by decide +kernel
theorem dX5_calls_0 : decode cX5_calls 0 = .ok (.aload_n 0, 1) := by decide +kernel
theorem dX5_calls_1 : decode cX5_calls 1 = .ok (.iload_n 1, 1) := by decide +kernel
theorem dX5_calls_2 : decode cX5_calls 2 = .ok (.invokevirtual 114, 3) := by decide +kernel
theorem dX5_calls_5 : decode cX5_calls 5 = .ok (.ifCond .ne 5, 3) := by decide +kernel
theorem dX5_calls_8 : decode cX5_calls 8 = .ok (.iconst (-1), 1) := by decide +kernel
theorem dX5_calls_9 : decode cX5_calls 9 = .ok (.ireturn, 1) := by decide +kernel
theorem dX5_calls_10 : decode cX5_calls 10 = .ok (.aload_n 0, 1) := by decide +kernel
theorem dX5_calls_11 : decode cX5_calls 11 = .ok (.invokevirtual 137, 3) := by decide +kernel
theorem dX5_calls_14 : decode cX5_calls 14 = .ok (.aload_n 0, 1) := by decide +kernel
theorem dX5_calls_15 : decode cX5_calls 15 = .ok (.getfield 13, 3) := by decide +kernel
theorem dX5_calls_18 : decode cX5_calls 18 = .ok (.bipush 33, 2) := by decide +kernel
theorem dX5_calls_20 : decode cX5_calls 20 = .ok (.dup2, 1) := by decide +kernel
theorem dX5_calls_21 : decode cX5_calls 21 = .ok (.iaload, 1) := by decide +kernel
theorem dX5_calls_22 : decode cX5_calls 22 = .ok (.iconst 1, 1) := by decide +kernel
theorem dX5_calls_23 : decode cX5_calls 23 = .ok (.iload_n 1, 1) := by decide +kernel
theorem dX5_calls_24 : decode cX5_calls 24 = .ok (.ishl, 1) := by decide +kernel
theorem dX5_calls_25 : decode cX5_calls 25 = .ok (.ixor, 1) := by decide +kernel
theorem dX5_calls_26 : decode cX5_calls 26 = .ok (.iastore, 1) := by decide +kernel
theorem dX5_calls_27 : decode cX5_calls 27 = .ok (.aload_n 0, 1) := by decide +kernel
theorem dX5_calls_28 : decode cX5_calls 28 = .ok (.iload_n 1, 1) := by decide +kernel
theorem dX5_calls_29 : decode cX5_calls 29 = .ok (.invokevirtual 117, 3) := by decide +kernel
theorem dX5_calls_32 : decode cX5_calls 32 = .ok (.ifCond .eq 7, 3) := by decide +kernel
theorem dX5_calls_35 : decode cX5_calls 35 = .ok (.iconst 1, 1) := by decide +kernel
theorem dX5_calls_36 : decode cX5_calls 36 = .ok (.goto 4, 3) := by decide +kernel
theorem dX5_calls_39 : decode cX5_calls 39 = .ok (.iconst 0, 1) := by decide +kernel
theorem dX5_calls_40 : decode cX5_calls 40 = .ok (.ireturn, 1) := by decide +kernel
theorem dX5_tells_0 : decode cX5_tells 0 = .ok (.iload_n 1, 1) := by decide +kernel
theorem dX5_tells_1 : decode cX5_tells 1 = .ok (.iconst 0, 1) := by decide +kernel
theorem dX5_tells_2 : decode cX5_tells 2 = .ok (.bipush 20, 2) := by decide +kernel
theorem dX5_tells_4 : decode cX5_tells 4 = .ok (.invokestatic 72, 3) := by decide +kernel
theorem dX5_tells_7 : decode cX5_tells 7 = .ok (.ifCond .eq 13, 3) := by decide +kernel
theorem dX5_tells_10 : decode cX5_tells 10 = .ok (.iload_n 2, 1) := by decide +kernel
theorem dX5_tells_11 : decode cX5_tells 11 = .ok (.iconst 0, 1) := by decide +kernel
theorem dX5_tells_12 : decode cX5_tells 12 = .ok (.bipush 30, 2) := by decide +kernel
theorem dX5_tells_14 : decode cX5_tells 14 = .ok (.invokestatic 72, 3) := by decide +kernel
theorem dX5_tells_17 : decode cX5_tells 17 = .ok (.ifCond .ne 5, 3) := by decide +kernel
theorem dX5_tells_20 : decode cX5_tells 20 = .ok (.iconst (-1), 1) := by decide +kernel
theorem dX5_tells_21 : decode cX5_tells 21 = .ok (.ireturn, 1) := by decide +kernel
theorem dX5_tells_22 : decode cX5_tells 22 = .ok (.aload_n 0, 1) := by decide +kernel
theorem dX5_tells_23 : decode cX5_tells 23 = .ok (.getfield 13, 3) := by decide +kernel
theorem dX5_tells_26 : decode cX5_tells 26 = .ok (.bipush 34, 2) := by decide +kernel
theorem dX5_tells_28 : decode cX5_tells 28 = .ok (.iaload, 1) := by decide +kernel
theorem dX5_tells_29 : decode cX5_tells 29 = .ok (.iload_n 1, 1) := by decide +kernel
theorem dX5_tells_30 : decode cX5_tells 30 = .ok (.if_icmp .ne 17, 3) := by decide +kernel
theorem dX5_tells_33 : decode cX5_tells 33 = .ok (.aload_n 0, 1) := by decide +kernel
theorem dX5_tells_34 : decode cX5_tells 34 = .ok (.getfield 13, 3) := by decide +kernel
theorem dX5_tells_37 : decode cX5_tells 37 = .ok (.bipush 35, 2) := by decide +kernel
theorem dX5_tells_39 : decode cX5_tells 39 = .ok (.iaload, 1) := by decide +kernel
theorem dX5_tells_40 : decode cX5_tells 40 = .ok (.iload_n 2, 1) := by decide +kernel
theorem dX5_tells_41 : decode cX5_tells 41 = .ok (.if_icmp .ne 6, 3) := by decide +kernel
theorem dX5_tells_44 : decode cX5_tells 44 = .ok (.bipush (-2), 2) := by decide +kernel
theorem dX5_tells_46 : decode cX5_tells 46 = .ok (.ireturn, 1) := by decide +kernel
theorem dX5_tells_47 : decode cX5_tells 47 = .ok (.aload_n 0, 1) := by decide +kernel
theorem dX5_tells_48 : decode cX5_tells 48 = .ok (.invokevirtual 137, 3) := by decide +kernel
theorem dX5_tells_51 : decode cX5_tells 51 = .ok (.aload_n 0, 1) := by decide +kernel
theorem dX5_tells_52 : decode cX5_tells 52 = .ok (.getfield 13, 3) := by decide +kernel
theorem dX5_tells_55 : decode cX5_tells 55 = .ok (.bipush 34, 2) := by decide +kernel
theorem dX5_tells_57 : decode cX5_tells 57 = .ok (.iload_n 1, 1) := by decide +kernel
theorem dX5_tells_58 : decode cX5_tells 58 = .ok (.iastore, 1) := by decide +kernel
theorem dX5_tells_59 : decode cX5_tells 59 = .ok (.aload_n 0, 1) := by decide +kernel
theorem dX5_tells_60 : decode cX5_tells 60 = .ok (.getfield 13, 3) := by decide +kernel
theorem dX5_tells_63 : decode cX5_tells 63 = .ok (.bipush 35, 2) := by decide +kernel
theorem dX5_tells_65 : decode cX5_tells 65 = .ok (.iload_n 2, 1) := by decide +kernel
theorem dX5_tells_66 : decode cX5_tells 66 = .ok (.iastore, 1) := by decide +kernel
theorem dX5_tells_67 : decode cX5_tells 67 = .ok (.iconst 1, 1) := by decide +kernel
theorem dX5_tells_68 : decode cX5_tells 68 = .ok (.ireturn, 1) := by decide +kernel
theorem dX5_undo_0 : decode cX5_undo 0 = .ok (.aload_n 0, 1) := by decide +kernel
theorem dX5_undo_1 : decode cX5_undo 1 = .ok (.getfield 66, 3) := by decide +kernel
theorem dX5_undo_4 : decode cX5_undo 4 = .ok (.ifCond .ne 6, 3) := by decide +kernel
theorem dX5_undo_7 : decode cX5_undo 7 = .ok (.bipush (-2), 2) := by decide +kernel
theorem dX5_undo_9 : decode cX5_undo 9 = .ok (.ireturn, 1) := by decide +kernel
theorem dX5_undo_10 : decode cX5_undo 10 = .ok (.aload_n 0, 1) := by decide +kernel
theorem dX5_undo_11 : decode cX5_undo 11 = .ok (.dup, 1) := by decide +kernel
theorem dX5_undo_12 : decode cX5_undo 12 = .ok (.getfield 66, 3) := by decide +kernel
theorem dX5_undo_15 : decode cX5_undo 15 = .ok (.iconst 1, 1) := by decide +kernel
theorem dX5_undo_16 : decode cX5_undo 16 = .ok (.isub, 1) := by decide +kernel
theorem dX5_undo_17 : decode cX5_undo 17 = .ok (.putfield 66, 3) := by decide +kernel
theorem dX5_undo_20 : decode cX5_undo 20 = .ok (.iconst 0, 1) := by decide +kernel
theorem dX5_undo_21 : decode cX5_undo 21 = .ok (.istore_n 1, 1) := by decide +kernel
theorem dX5_undo_22 : decode cX5_undo 22 = .ok (.iload_n 1, 1) := by decide +kernel
theorem dX5_undo_23 : decode cX5_undo 23 = .ok (.bipush 36, 2) := by decide +kernel
theorem dX5_undo_25 : decode cX5_undo 25 = .ok (.if_icmp .ge 29, 3) := by decide +kernel
theorem dX5_undo_28 : decode cX5_undo 28 = .ok (.aload_n 0, 1) := by decide +kernel
theorem dX5_undo_29 : decode cX5_undo 29 = .ok (.getfield 13, 3) := by decide +kernel
theorem dX5_undo_32 : decode cX5_undo 32 = .ok (.iload_n 1, 1) := by decide +kernel
theorem dX5_undo_33 : decode cX5_undo 33 = .ok (.aload_n 0, 1) := by decide +kernel
theorem dX5_undo_34 : decode cX5_undo 34 = .ok (.getfield 16, 3) := by decide +kernel
theorem dX5_undo_37 : decode cX5_undo 37 = .ok (.bipush 36, 2) := by decide +kernel
theorem dX5_undo_39 : decode cX5_undo 39 = .ok (.aload_n 0, 1) := by decide +kernel
theorem dX5_undo_40 : decode cX5_undo 40 = .ok (.getfield 66, 3) := by decide +kernel
theorem dX5_undo_43 : decode cX5_undo 43 = .ok (.imul, 1) := by decide +kernel
theorem dX5_undo_44 : decode cX5_undo 44 = .ok (.iload_n 1, 1) := by decide +kernel
theorem dX5_undo_45 : decode cX5_undo 45 = .ok (.iadd, 1) := by decide +kernel
theorem dX5_undo_46 : decode cX5_undo 46 = .ok (.iaload, 1) := by decide +kernel
theorem dX5_undo_47 : decode cX5_undo 47 = .ok (.iastore, 1) := by decide +kernel
theorem dX5_undo_48 : decode cX5_undo 48 = .ok (.iinc 1 1, 3) := by decide +kernel
theorem dX5_undo_51 : decode cX5_undo 51 = .ok (.goto (-29), 3) := by decide +kernel
theorem dX5_undo_54 : decode cX5_undo 54 = .ok (.aload_n 0, 1) := by decide +kernel
theorem dX5_undo_55 : decode cX5_undo 55 = .ok (.getfield 66, 3) := by decide +kernel
theorem dX5_undo_58 : decode cX5_undo 58 = .ok (.ireturn, 1) := by decide +kernel
theorem dX5_ones_0 : decode cX5_ones 0 = .ok (.iload_n 0, 1) := by decide +kernel
theorem dX5_ones_1 : decode cX5_ones 1 = .ok (.iconst 1, 1) := by decide +kernel
theorem dX5_ones_2 : decode cX5_ones 2 = .ok (.iand, 1) := by decide +kernel
theorem dX5_ones_3 : decode cX5_ones 3 = .ok (.iload_n 0, 1) := by decide +kernel
theorem dX5_ones_4 : decode cX5_ones 4 = .ok (.iconst 1, 1) := by decide +kernel
theorem dX5_ones_5 : decode cX5_ones 5 = .ok (.ishr, 1) := by decide +kernel
theorem dX5_ones_6 : decode cX5_ones 6 = .ok (.iconst 1, 1) := by decide +kernel
theorem dX5_ones_7 : decode cX5_ones 7 = .ok (.iand, 1) := by decide +kernel
theorem dX5_ones_8 : decode cX5_ones 8 = .ok (.iadd, 1) := by decide +kernel
theorem dX5_ones_9 : decode cX5_ones 9 = .ok (.iload_n 0, 1) := by decide +kernel
theorem dX5_ones_10 : decode cX5_ones 10 = .ok (.iconst 2, 1) := by decide +kernel
theorem dX5_ones_11 : decode cX5_ones 11 = .ok (.ishr, 1) := by decide +kernel
theorem dX5_ones_12 : decode cX5_ones 12 = .ok (.iconst 1, 1) := by decide +kernel
theorem dX5_ones_13 : decode cX5_ones 13 = .ok (.iand, 1) := by decide +kernel
theorem dX5_ones_14 : decode cX5_ones 14 = .ok (.iadd, 1) := by decide +kernel
theorem dX5_ones_15 : decode cX5_ones 15 = .ok (.ireturn, 1) := by decide +kernel
theorem dX5_lowest_0 : decode cX5_lowest 0 = .ok (.iload_n 0, 1) := by decide +kernel
theorem dX5_lowest_1 : decode cX5_lowest 1 = .ok (.iconst 1, 1) := by decide +kernel
theorem dX5_lowest_2 : decode cX5_lowest 2 = .ok (.iand, 1) := by decide +kernel
theorem dX5_lowest_3 : decode cX5_lowest 3 = .ok (.iconst 1, 1) := by decide +kernel
theorem dX5_lowest_4 : decode cX5_lowest 4 = .ok (.if_icmp .ne 7, 3) := by decide +kernel
theorem dX5_lowest_7 : decode cX5_lowest 7 = .ok (.iconst 0, 1) := by decide +kernel
theorem dX5_lowest_8 : decode cX5_lowest 8 = .ok (.goto 15, 3) := by decide +kernel
theorem dX5_lowest_11 : decode cX5_lowest 11 = .ok (.iload_n 0, 1) := by decide +kernel
theorem dX5_lowest_12 : decode cX5_lowest 12 = .ok (.iconst 2, 1) := by decide +kernel
theorem dX5_lowest_13 : decode cX5_lowest 13 = .ok (.iand, 1) := by decide +kernel
theorem dX5_lowest_14 : decode cX5_lowest 14 = .ok (.iconst 2, 1) := by decide +kernel
theorem dX5_lowest_15 : decode cX5_lowest 15 = .ok (.if_icmp .ne 7, 3) := by decide +kernel
theorem dX5_lowest_18 : decode cX5_lowest 18 = .ok (.iconst 1, 1) := by decide +kernel
theorem dX5_lowest_19 : decode cX5_lowest 19 = .ok (.goto 4, 3) := by decide +kernel
theorem dX5_lowest_22 : decode cX5_lowest 22 = .ok (.iconst 2, 1) := by decide +kernel
theorem dX5_lowest_23 : decode cX5_lowest 23 = .ok (.ireturn, 1) := by decide +kernel
theorem dX5_highest_0 : decode cX5_highest 0 = .ok (.iload_n 0, 1) := by decide +kernel
theorem dX5_highest_1 : decode cX5_highest 1 = .ok (.iconst 3, 1) := by decide +kernel
theorem dX5_highest_2 : decode cX5_highest 2 = .ok (.if_icmp .le 7, 3) := by decide +kernel
theorem dX5_highest_5 : decode cX5_highest 5 = .ok (.iconst 2, 1) := by decide +kernel
theorem dX5_highest_6 : decode cX5_highest 6 = .ok (.goto 13, 3) := by decide +kernel
theorem dX5_highest_9 : decode cX5_highest 9 = .ok (.iload_n 0, 1) := by decide +kernel
theorem dX5_highest_10 : decode cX5_highest 10 = .ok (.iconst 1, 1) := by decide +kernel
theorem dX5_highest_11 : decode cX5_highest 11 = .ok (.if_icmp .le 7, 3) := by decide +kernel
theorem dX5_highest_14 : decode cX5_highest 14 = .ok (.iconst 1, 1) := by decide +kernel
theorem dX5_highest_15 : decode cX5_highest 15 = .ok (.goto 4, 3) := by decide +kernel
theorem dX5_highest_18 : decode cX5_highest 18 = .ok (.iconst 0, 1) := by decide +kernel
theorem dX5_highest_19 : decode cX5_highest 19 = .ok (.ireturn, 1) := by decide +kernel
theorem dX5_isHand_0 : decode cX5_isHand 0 = .ok (.iload_n 3, 1) := by decide +kernel
theorem dX5_isHand_1 : decode cX5_isHand 1 = .ok (.ifCond .ne 5, 3) := by decide +kernel
theorem dX5_isHand_4 : decode cX5_isHand 4 = .ok (.iconst 1, 1) := by decide +kernel
theorem dX5_isHand_5 : decode cX5_isHand 5 = .ok (.ireturn, 1) := by decide +kernel
theorem dX5_isHand_6 : decode cX5_isHand 6 = .ok (.aload_n 0, 1) := by decide +kernel
theorem dX5_isHand_7 : decode cX5_isHand 7 = .ok (.iload_n 2, 1) := by decide +kernel
theorem dX5_isHand_8 : decode cX5_isHand 8 = .ok (.iload_n 3, 1) := by decide +kernel
theorem dX5_isHand_9 : decode cX5_isHand 9 = .ok (.invokestatic 140, 3) := by decide +kernel
theorem dX5_isHand_12 : decode cX5_isHand 12 = .ok (.invokevirtual 130, 3) := by decide +kernel
theorem dX5_isHand_15 : decode cX5_isHand 15 = .ok (.istore 4, 2) := by decide +kernel
theorem dX5_isHand_17 : decode cX5_isHand 17 = .ok (.aload_n 0, 1) := by decide +kernel
theorem dX5_isHand_18 : decode cX5_isHand 18 = .ok (.iload_n 2, 1) := by decide +kernel
theorem dX5_isHand_19 : decode cX5_isHand 19 = .ok (.iload_n 3, 1) := by decide +kernel
theorem dX5_isHand_20 : decode cX5_isHand 20 = .ok (.invokestatic 143, 3) := by decide +kernel
theorem dX5_isHand_23 : decode cX5_isHand 23 = .ok (.invokevirtual 130, 3) := by decide +kernel
theorem dX5_isHand_26 : decode cX5_isHand 26 = .ok (.istore 5, 2) := by decide +kernel
theorem dX5_isHand_28 : decode cX5_isHand 28 = .ok (.iload 4, 2) := by decide +kernel
theorem dX5_isHand_30 : decode cX5_isHand 30 = .ok (.aload_n 0, 1) := by decide +kernel
theorem dX5_isHand_31 : decode cX5_isHand 31 = .ok (.getfield 7, 3) := by decide +kernel
theorem dX5_isHand_34 : decode cX5_isHand 34 = .ok (.iconst 5, 1) := by decide +kernel
theorem dX5_isHand_35 : decode cX5_isHand 35 = .ok (.iload_n 1, 1) := by decide +kernel
theorem dX5_isHand_36 : decode cX5_isHand 36 = .ok (.imul, 1) := by decide +kernel
theorem dX5_isHand_37 : decode cX5_isHand 37 = .ok (.iconst 1, 1) := by decide +kernel
theorem dX5_isHand_38 : decode cX5_isHand 38 = .ok (.iadd, 1) := by decide +kernel
theorem dX5_isHand_39 : decode cX5_isHand 39 = .ok (.iaload, 1) := by decide +kernel
theorem dX5_isHand_40 : decode cX5_isHand 40 = .ok (.if_icmp .lt 22, 3) := by decide +kernel
theorem dX5_isHand_43 : decode cX5_isHand 43 = .ok (.iload 5, 2) := by decide +kernel
theorem dX5_isHand_45 : decode cX5_isHand 45 = .ok (.aload_n 0, 1) := by decide +kernel
theorem dX5_isHand_46 : decode cX5_isHand 46 = .ok (.getfield 7, 3) := by decide +kernel
theorem dX5_isHand_49 : decode cX5_isHand 49 = .ok (.iconst 5, 1) := by decide +kernel
theorem dX5_isHand_50 : decode cX5_isHand 50 = .ok (.iload_n 1, 1) := by decide +kernel
theorem dX5_isHand_51 : decode cX5_isHand 51 = .ok (.imul, 1) := by decide +kernel
theorem dX5_isHand_52 : decode cX5_isHand 52 = .ok (.iconst 2, 1) := by decide +kernel
theorem dX5_isHand_53 : decode cX5_isHand 53 = .ok (.iadd, 1) := by decide +kernel
theorem dX5_isHand_54 : decode cX5_isHand 54 = .ok (.iaload, 1) := by decide +kernel
theorem dX5_isHand_55 : decode cX5_isHand 55 = .ok (.if_icmp .gt 7, 3) := by decide +kernel
theorem dX5_isHand_58 : decode cX5_isHand 58 = .ok (.iconst 1, 1) := by decide +kernel
theorem dX5_isHand_59 : decode cX5_isHand 59 = .ok (.goto 4, 3) := by decide +kernel
theorem dX5_isHand_62 : decode cX5_isHand 62 = .ok (.iconst 0, 1) := by decide +kernel
theorem dX5_isHand_63 : decode cX5_isHand 63 = .ok (.istore 6, 2) := by decide +kernel
theorem dX5_isHand_65 : decode cX5_isHand 65 = .ok (.iload 6, 2) := by decide +kernel
theorem dX5_isHand_67 : decode cX5_isHand 67 = .ok (.ifCond .eq 50, 3) := by decide +kernel
theorem dX5_isHand_70 : decode cX5_isHand 70 = .ok (.iload_n 3, 1) := by decide +kernel
theorem dX5_isHand_71 : decode cX5_isHand 71 = .ok (.invokestatic 146, 3) := by decide +kernel
theorem dX5_isHand_74 : decode cX5_isHand 74 = .ok (.iconst 1, 1) := by decide +kernel
theorem dX5_isHand_75 : decode cX5_isHand 75 = .ok (.if_icmp .eq 38, 3) := by decide +kernel
theorem dX5_isHand_78 : decode cX5_isHand 78 = .ok (.iload_n 3, 1) := by decide +kernel
theorem dX5_isHand_79 : decode cX5_isHand 79 = .ok (.invokestatic 146, 3) := by decide +kernel
theorem dX5_isHand_82 : decode cX5_isHand 82 = .ok (.iconst 2, 1) := by decide +kernel
theorem dX5_isHand_83 : decode cX5_isHand 83 = .ok (.if_icmp .ne 34, 3) := by decide +kernel
theorem dX5_isHand_86 : decode cX5_isHand 86 = .ok (.aload_n 0, 1) := by decide +kernel
theorem dX5_isHand_87 : decode cX5_isHand 87 = .ok (.iload_n 1, 1) := by decide +kernel
theorem dX5_isHand_88 : decode cX5_isHand 88 = .ok (.invokevirtual 120, 3) := by decide +kernel
theorem dX5_isHand_91 : decode cX5_isHand 91 = .ok (.iconst 1, 1) := by decide +kernel
theorem dX5_isHand_92 : decode cX5_isHand 92 = .ok (.if_icmp .ne 25, 3) := by decide +kernel
theorem dX5_isHand_95 : decode cX5_isHand 95 = .ok (.iload 5, 2) := by decide +kernel
theorem dX5_isHand_97 : decode cX5_isHand 97 = .ok (.iload 4, 2) := by decide +kernel
theorem dX5_isHand_99 : decode cX5_isHand 99 = .ok (.isub, 1) := by decide +kernel
theorem dX5_isHand_100 : decode cX5_isHand 100 = .ok (.aload_n 0, 1) := by decide +kernel
theorem dX5_isHand_101 : decode cX5_isHand 101 = .ok (.getfield 7, 3) := by decide +kernel
theorem dX5_isHand_104 : decode cX5_isHand 104 = .ok (.iconst 5, 1) := by decide +kernel
theorem dX5_isHand_105 : decode cX5_isHand 105 = .ok (.iload_n 1, 1) := by decide +kernel
theorem dX5_isHand_106 : decode cX5_isHand 106 = .ok (.imul, 1) := by decide +kernel
theorem dX5_isHand_107 : decode cX5_isHand 107 = .ok (.iconst 4, 1) := by decide +kernel
theorem dX5_isHand_108 : decode cX5_isHand 108 = .ok (.iadd, 1) := by decide +kernel
theorem dX5_isHand_109 : decode cX5_isHand 109 = .ok (.iaload, 1) := by decide +kernel
theorem dX5_isHand_110 : decode cX5_isHand 110 = .ok (.if_icmp .gt 7, 3) := by decide +kernel
theorem dX5_isHand_113 : decode cX5_isHand 113 = .ok (.iconst 1, 1) := by decide +kernel
theorem dX5_isHand_114 : decode cX5_isHand 114 = .ok (.goto 4, 3) := by decide +kernel
theorem dX5_isHand_117 : decode cX5_isHand 117 = .ok (.iconst 0, 1) := by decide +kernel
theorem dX5_isHand_118 : decode cX5_isHand 118 = .ok (.ireturn, 1) := by decide +kernel
theorem dX5_could_0 : decode cX5_could 0 = .ok (.aload_n 0, 1) := by decide +kernel
theorem dX5_could_1 : decode cX5_could 1 = .ok (.iload_n 1, 1) := by decide +kernel
theorem dX5_could_2 : decode cX5_could 2 = .ok (.invokevirtual 114, 3) := by decide +kernel
theorem dX5_could_5 : decode cX5_could 5 = .ok (.ifCond .eq 31, 3) := by decide +kernel
theorem dX5_could_8 : decode cX5_could 8 = .ok (.aload_n 0, 1) := by decide +kernel
theorem dX5_could_9 : decode cX5_could 9 = .ok (.iload_n 2, 1) := by decide +kernel
theorem dX5_could_10 : decode cX5_could 10 = .ok (.invokevirtual 124, 3) := by decide +kernel
theorem dX5_could_13 : decode cX5_could 13 = .ok (.ifCond .eq 23, 3) := by decide +kernel
theorem dX5_could_16 : decode cX5_could 16 = .ok (.iload_n 3, 1) := by decide +kernel
theorem dX5_could_17 : decode cX5_could 17 = .ok (.iconst 0, 1) := by decide +kernel
theorem dX5_could_18 : decode cX5_could 18 = .ok (.bipush 7, 2) := by decide +kernel
theorem dX5_could_20 : decode cX5_could 20 = .ok (.invokestatic 72, 3) := by decide +kernel
theorem dX5_could_23 : decode cX5_could 23 = .ok (.ifCond .eq 13, 3) := by decide +kernel
theorem dX5_could_26 : decode cX5_could 26 = .ok (.iload_n 3, 1) := by decide +kernel
theorem dX5_could_27 : decode cX5_could 27 = .ok (.aload_n 0, 1) := by decide +kernel
theorem dX5_could_28 : decode cX5_could 28 = .ok (.iload_n 2, 1) := by decide +kernel
theorem dX5_could_29 : decode cX5_could 29 = .ok (.invokevirtual 127, 3) := by decide +kernel
theorem dX5_could_32 : decode cX5_could 32 = .ok (.ishr, 1) := by decide +kernel
theorem dX5_could_33 : decode cX5_could 33 = .ok (.ifCond .eq 5, 3) := by decide +kernel
theorem dX5_could_36 : decode cX5_could 36 = .ok (.iconst (-1), 1) := by decide +kernel
theorem dX5_could_37 : decode cX5_could 37 = .ok (.ireturn, 1) := by decide +kernel
theorem dX5_could_38 : decode cX5_could 38 = .ok (.aload_n 0, 1) := by decide +kernel
theorem dX5_could_39 : decode cX5_could 39 = .ok (.iload_n 1, 1) := by decide +kernel
theorem dX5_could_40 : decode cX5_could 40 = .ok (.iload_n 2, 1) := by decide +kernel
theorem dX5_could_41 : decode cX5_could 41 = .ok (.iload_n 3, 1) := by decide +kernel
theorem dX5_could_42 : decode cX5_could 42 = .ok (.invokevirtual 149, 3) := by decide +kernel
theorem dX5_could_45 : decode cX5_could 45 = .ok (.ifCond .eq 7, 3) := by decide +kernel
theorem dX5_could_48 : decode cX5_could 48 = .ok (.iconst 1, 1) := by decide +kernel
theorem dX5_could_49 : decode cX5_could 49 = .ok (.goto 4, 3) := by decide +kernel
theorem dX5_could_52 : decode cX5_could 52 = .ok (.iconst 0, 1) := by decide +kernel
theorem dX5_could_53 : decode cX5_could 53 = .ok (.ireturn, 1) := by decide +kernel
theorem dX5_handOf_0 : decode cX5_handOf 0 = .ok (.iload_n 0, 1) := by decide +kernel
theorem dX5_handOf_1 : decode cX5_handOf 1 = .ok (.iconst 3, 1) := by decide +kernel
theorem dX5_handOf_2 : decode cX5_handOf 2 = .ok (.iconst 3, 1) := by decide +kernel
theorem dX5_handOf_3 : decode cX5_handOf 3 = .ok (.iload_n 1, 1) := by decide +kernel
theorem dX5_handOf_4 : decode cX5_handOf 4 = .ok (.isub, 1) := by decide +kernel
theorem dX5_handOf_5 : decode cX5_handOf 5 = .ok (.imul, 1) := by decide +kernel
theorem dX5_handOf_6 : decode cX5_handOf 6 = .ok (.ishr, 1) := by decide +kernel
theorem dX5_handOf_7 : decode cX5_handOf 7 = .ok (.bipush 7, 2) := by decide +kernel
theorem dX5_handOf_9 : decode cX5_handOf 9 = .ok (.iand, 1) := by decide +kernel
theorem dX5_handOf_10 : decode cX5_handOf 10 = .ok (.ireturn, 1) := by decide +kernel
theorem dX5_loudOf_0 : decode cX5_loudOf 0 = .ok (.iconst 0, 1) := by decide +kernel
theorem dX5_loudOf_1 : decode cX5_loudOf 1 = .ok (.istore_n 3, 1) := by decide +kernel
theorem dX5_loudOf_2 : decode cX5_loudOf 2 = .ok (.iconst 0, 1) := by decide +kernel
theorem dX5_loudOf_3 : decode cX5_loudOf 3 = .ok (.istore 4, 2) := by decide +kernel
theorem dX5_loudOf_5 : decode cX5_loudOf 5 = .ok (.iload 4, 2) := by decide +kernel
theorem dX5_loudOf_7 : decode cX5_loudOf 7 = .ok (.aload_n 0, 1) := by decide +kernel
theorem dX5_loudOf_8 : decode cX5_loudOf 8 = .ok (.getfield 63, 3) := by decide +kernel
theorem dX5_loudOf_11 : decode cX5_loudOf 11 = .ok (.if_icmp .ge 64, 3) := by decide +kernel
theorem dX5_loudOf_14 : decode cX5_loudOf 14 = .ok (.iload_n 1, 1) := by decide +kernel
theorem dX5_loudOf_15 : decode cX5_loudOf 15 = .ok (.iload 4, 2) := by decide +kernel
theorem dX5_loudOf_17 : decode cX5_loudOf 17 = .ok (.invokestatic 152, 3) := by decide +kernel
theorem dX5_loudOf_20 : decode cX5_loudOf 20 = .ok (.istore 5, 2) := by decide +kernel
theorem dX5_loudOf_22 : decode cX5_loudOf 22 = .ok (.aload_n 0, 1) := by decide +kernel
theorem dX5_loudOf_23 : decode cX5_loudOf 23 = .ok (.getfield 7, 3) := by decide +kernel
theorem dX5_loudOf_26 : decode cX5_loudOf 26 = .ok (.iconst 5, 1) := by decide +kernel
theorem dX5_loudOf_27 : decode cX5_loudOf 27 = .ok (.iload 4, 2) := by decide +kernel
theorem dX5_loudOf_29 : decode cX5_loudOf 29 = .ok (.imul, 1) := by decide +kernel
theorem dX5_loudOf_30 : decode cX5_loudOf 30 = .ok (.iconst 3, 1) := by decide +kernel
theorem dX5_loudOf_31 : decode cX5_loudOf 31 = .ok (.iadd, 1) := by decide +kernel
theorem dX5_loudOf_32 : decode cX5_loudOf 32 = .ok (.iaload, 1) := by decide +kernel
theorem dX5_loudOf_33 : decode cX5_loudOf 33 = .ok (.istore 6, 2) := by decide +kernel
theorem dX5_loudOf_35 : decode cX5_loudOf 35 = .ok (.iload_n 3, 1) := by decide +kernel
theorem dX5_loudOf_36 : decode cX5_loudOf 36 = .ok (.iload 5, 2) := by decide +kernel
theorem dX5_loudOf_38 : decode cX5_loudOf 38 = .ok (.iload_n 2, 1) := by decide +kernel
theorem dX5_loudOf_39 : decode cX5_loudOf 39 = .ok (.ishr, 1) := by decide +kernel
theorem dX5_loudOf_40 : decode cX5_loudOf 40 = .ok (.iconst 1, 1) := by decide +kernel
theorem dX5_loudOf_41 : decode cX5_loudOf 41 = .ok (.iand, 1) := by decide +kernel
theorem dX5_loudOf_42 : decode cX5_loudOf 42 = .ok (.ifCond .ne 7, 3) := by decide +kernel
theorem dX5_loudOf_45 : decode cX5_loudOf 45 = .ok (.iconst 0, 1) := by decide +kernel
theorem dX5_loudOf_46 : decode cX5_loudOf 46 = .ok (.goto 21, 3) := by decide +kernel
theorem dX5_loudOf_49 : decode cX5_loudOf 49 = .ok (.iload 5, 2) := by decide +kernel
theorem dX5_loudOf_51 : decode cX5_loudOf 51 = .ok (.invokestatic 146, 3) := by decide +kernel
theorem dX5_loudOf_54 : decode cX5_loudOf 54 = .ok (.iconst 2, 1) := by decide +kernel
theorem dX5_loudOf_55 : decode cX5_loudOf 55 = .ok (.if_icmp .ne 10, 3) := by decide +kernel
theorem dX5_loudOf_58 : decode cX5_loudOf 58 = .ok (.iload 6, 2) := by decide +kernel
theorem dX5_loudOf_60 : decode cX5_loudOf 60 = .ok (.iconst 2, 1) := by decide +kernel
theorem dX5_loudOf_61 : decode cX5_loudOf 61 = .ok (.idiv, 1) := by decide +kernel
theorem dX5_loudOf_62 : decode cX5_loudOf 62 = .ok (.goto 5, 3) := by decide +kernel
theorem dX5_loudOf_65 : decode cX5_loudOf 65 = .ok (.iload 6, 2) := by decide +kernel
theorem dX5_loudOf_67 : decode cX5_loudOf 67 = .ok (.iadd, 1) := by decide +kernel
theorem dX5_loudOf_68 : decode cX5_loudOf 68 = .ok (.istore_n 3, 1) := by decide +kernel
theorem dX5_loudOf_69 : decode cX5_loudOf 69 = .ok (.iinc 4 1, 3) := by decide +kernel
theorem dX5_loudOf_72 : decode cX5_loudOf 72 = .ok (.goto (-67), 3) := by decide +kernel
theorem dX5_loudOf_75 : decode cX5_loudOf 75 = .ok (.iload_n 3, 1) := by decide +kernel
theorem dX5_loudOf_76 : decode cX5_loudOf 76 = .ok (.ireturn, 1) := by decide +kernel
theorem dX5_isEven_0 : decode cX5_isEven 0 = .ok (.iconst 0, 1) := by decide +kernel
theorem dX5_isEven_1 : decode cX5_isEven 1 = .ok (.istore 4, 2) := by decide +kernel
theorem dX5_isEven_3 : decode cX5_isEven 3 = .ok (.iconst 0, 1) := by decide +kernel
theorem dX5_isEven_4 : decode cX5_isEven 4 = .ok (.istore 5, 2) := by decide +kernel
theorem dX5_isEven_6 : decode cX5_isEven 6 = .ok (.iload 5, 2) := by decide +kernel
theorem dX5_isEven_8 : decode cX5_isEven 8 = .ok (.aload_n 0, 1) := by decide +kernel
theorem dX5_isEven_9 : decode cX5_isEven 9 = .ok (.getfield 63, 3) := by decide +kernel
theorem dX5_isEven_12 : decode cX5_isEven 12 = .ok (.if_icmp .ge 20, 3) := by decide +kernel
theorem dX5_isEven_15 : decode cX5_isEven 15 = .ok (.iload 4, 2) := by decide +kernel
theorem dX5_isEven_17 : decode cX5_isEven 17 = .ok (.iload_n 2, 1) := by decide +kernel
theorem dX5_isEven_18 : decode cX5_isEven 18 = .ok (.iload 5, 2) := by decide +kernel
theorem dX5_isEven_20 : decode cX5_isEven 20 = .ok (.invokestatic 152, 3) := by decide +kernel
theorem dX5_isEven_23 : decode cX5_isEven 23 = .ok (.ior, 1) := by decide +kernel
theorem dX5_isEven_24 : decode cX5_isEven 24 = .ok (.istore 4, 2) := by decide +kernel
theorem dX5_isEven_26 : decode cX5_isEven 26 = .ok (.iinc 5 1, 3) := by decide +kernel
theorem dX5_isEven_29 : decode cX5_isEven 29 = .ok (.goto (-23), 3) := by decide +kernel
theorem dX5_isEven_32 : decode cX5_isEven 32 = .ok (.iload 4, 2) := by decide +kernel
theorem dX5_isEven_34 : decode cX5_isEven 34 = .ok (.iconst 1, 1) := by decide +kernel
theorem dX5_isEven_35 : decode cX5_isEven 35 = .ok (.aload_n 0, 1) := by decide +kernel
theorem dX5_isEven_36 : decode cX5_isEven 36 = .ok (.iload_n 1, 1) := by decide +kernel
theorem dX5_isEven_37 : decode cX5_isEven 37 = .ok (.invokevirtual 127, 3) := by decide +kernel
theorem dX5_isEven_40 : decode cX5_isEven 40 = .ok (.ishl, 1) := by decide +kernel
theorem dX5_isEven_41 : decode cX5_isEven 41 = .ok (.iconst 1, 1) := by decide +kernel
theorem dX5_isEven_42 : decode cX5_isEven 42 = .ok (.isub, 1) := by decide +kernel
theorem dX5_isEven_43 : decode cX5_isEven 43 = .ok (.if_icmp .eq 5, 3) := by decide +kernel
theorem dX5_isEven_46 : decode cX5_isEven 46 = .ok (.iconst 0, 1) := by decide +kernel
theorem dX5_isEven_47 : decode cX5_isEven 47 = .ok (.ireturn, 1) := by decide +kernel
theorem dX5_isEven_48 : decode cX5_isEven 48 = .ok (.ldc 155, 2) := by decide +kernel
theorem dX5_isEven_50 : decode cX5_isEven 50 = .ok (.istore 5, 2) := by decide +kernel
theorem dX5_isEven_52 : decode cX5_isEven 52 = .ok (.iconst 0, 1) := by decide +kernel
theorem dX5_isEven_53 : decode cX5_isEven 53 = .ok (.istore 6, 2) := by decide +kernel
theorem dX5_isEven_55 : decode cX5_isEven 55 = .ok (.iconst 0, 1) := by decide +kernel
theorem dX5_isEven_56 : decode cX5_isEven 56 = .ok (.istore 7, 2) := by decide +kernel
theorem dX5_isEven_58 : decode cX5_isEven 58 = .ok (.iload 7, 2) := by decide +kernel
theorem dX5_isEven_60 : decode cX5_isEven 60 = .ok (.aload_n 0, 1) := by decide +kernel
theorem dX5_isEven_61 : decode cX5_isEven 61 = .ok (.iload_n 1, 1) := by decide +kernel
theorem dX5_isEven_62 : decode cX5_isEven 62 = .ok (.invokevirtual 127, 3) := by decide +kernel
theorem dX5_isEven_65 : decode cX5_isEven 65 = .ok (.if_icmp .ge 50, 3) := by decide +kernel
theorem dX5_isEven_68 : decode cX5_isEven 68 = .ok (.aload_n 0, 1) := by decide +kernel
theorem dX5_isEven_69 : decode cX5_isEven 69 = .ok (.iload_n 2, 1) := by decide +kernel
theorem dX5_isEven_70 : decode cX5_isEven 70 = .ok (.iload 7, 2) := by decide +kernel
theorem dX5_isEven_72 : decode cX5_isEven 72 = .ok (.invokevirtual 156, 3) := by decide +kernel
theorem dX5_isEven_75 : decode cX5_isEven 75 = .ok (.istore 8, 2) := by decide +kernel
theorem dX5_isEven_77 : decode cX5_isEven 77 = .ok (.iload 8, 2) := by decide +kernel
theorem dX5_isEven_79 : decode cX5_isEven 79 = .ok (.iload 5, 2) := by decide +kernel
theorem dX5_isEven_81 : decode cX5_isEven 81 = .ok (.if_icmp .ge 8, 3) := by decide +kernel
theorem dX5_isEven_84 : decode cX5_isEven 84 = .ok (.iload 8, 2) := by decide +kernel
theorem dX5_isEven_86 : decode cX5_isEven 86 = .ok (.goto 5, 3) := by decide +kernel
theorem dX5_isEven_89 : decode cX5_isEven 89 = .ok (.iload 5, 2) := by decide +kernel
theorem dX5_isEven_91 : decode cX5_isEven 91 = .ok (.istore 5, 2) := by decide +kernel
theorem dX5_isEven_93 : decode cX5_isEven 93 = .ok (.iload 8, 2) := by decide +kernel
theorem dX5_isEven_95 : decode cX5_isEven 95 = .ok (.iload 6, 2) := by decide +kernel
theorem dX5_isEven_97 : decode cX5_isEven 97 = .ok (.if_icmp .le 8, 3) := by decide +kernel
theorem dX5_isEven_100 : decode cX5_isEven 100 = .ok (.iload 8, 2) := by decide +kernel
theorem dX5_isEven_102 : decode cX5_isEven 102 = .ok (.goto 5, 3) := by decide +kernel
theorem dX5_isEven_105 : decode cX5_isEven 105 = .ok (.iload 6, 2) := by decide +kernel
theorem dX5_isEven_107 : decode cX5_isEven 107 = .ok (.istore 6, 2) := by decide +kernel
theorem dX5_isEven_109 : decode cX5_isEven 109 = .ok (.iinc 7 1, 3) := by decide +kernel
theorem dX5_isEven_112 : decode cX5_isEven 112 = .ok (.goto (-54), 3) := by decide +kernel
theorem dX5_isEven_115 : decode cX5_isEven 115 = .ok (.iload 6, 2) := by decide +kernel
theorem dX5_isEven_117 : decode cX5_isEven 117 = .ok (.iload 5, 2) := by decide +kernel
theorem dX5_isEven_119 : decode cX5_isEven 119 = .ok (.isub, 1) := by decide +kernel
theorem dX5_isEven_120 : decode cX5_isEven 120 = .ok (.iload_n 3, 1) := by decide +kernel
theorem dX5_isEven_121 : decode cX5_isEven 121 = .ok (.if_icmp .gt 7, 3) := by decide +kernel
theorem dX5_isEven_124 : decode cX5_isEven 124 = .ok (.iconst 1, 1) := by decide +kernel
theorem dX5_isEven_125 : decode cX5_isEven 125 = .ok (.goto 4, 3) := by decide +kernel
theorem dX5_isEven_128 : decode cX5_isEven 128 = .ok (.iconst 0, 1) := by decide +kernel
theorem dX5_isEven_129 : decode cX5_isEven 129 = .ok (.ireturn, 1) := by decide +kernel
theorem dX5_isSpread_0 : decode cX5_isSpread 0 = .ok (.iconst 0, 1) := by decide +kernel
theorem dX5_isSpread_1 : decode cX5_isSpread 1 = .ok (.istore 5, 2) := by decide +kernel
theorem dX5_isSpread_3 : decode cX5_isSpread 3 = .ok (.iload 5, 2) := by decide +kernel
theorem dX5_isSpread_5 : decode cX5_isSpread 5 = .ok (.iconst 4, 1) := by decide +kernel
theorem dX5_isSpread_6 : decode cX5_isSpread 6 = .ok (.if_icmp .ge 78, 3) := by decide +kernel
theorem dX5_isSpread_9 : decode cX5_isSpread 9 = .ok (.iload_n 2, 1) := by decide +kernel
theorem dX5_isSpread_10 : decode cX5_isSpread 10 = .ok (.iload 5, 2) := by decide +kernel
theorem dX5_isSpread_12 : decode cX5_isSpread 12 = .ok (.invokestatic 152, 3) := by decide +kernel
theorem dX5_isSpread_15 : decode cX5_isSpread 15 = .ok (.istore 6, 2) := by decide +kernel
theorem dX5_isSpread_17 : decode cX5_isSpread 17 = .ok (.iload 6, 2) := by decide +kernel
theorem dX5_isSpread_19 : decode cX5_isSpread 19 = .ok (.ifCond .eq 45, 3) := by decide +kernel
theorem dX5_isSpread_22 : decode cX5_isSpread 22 = .ok (.iload 5, 2) := by decide +kernel
theorem dX5_isSpread_24 : decode cX5_isSpread 24 = .ok (.aload_n 0, 1) := by decide +kernel
theorem dX5_isSpread_25 : decode cX5_isSpread 25 = .ok (.getfield 63, 3) := by decide +kernel
theorem dX5_isSpread_28 : decode cX5_isSpread 28 = .ok (.if_icmp .ge 40, 3) := by decide +kernel
theorem dX5_isSpread_31 : decode cX5_isSpread 31 = .ok (.iload_n 3, 1) := by decide +kernel
theorem dX5_isSpread_32 : decode cX5_isSpread 32 = .ok (.iload 5, 2) := by decide +kernel
theorem dX5_isSpread_34 : decode cX5_isSpread 34 = .ok (.ishr, 1) := by decide +kernel
theorem dX5_isSpread_35 : decode cX5_isSpread 35 = .ok (.iconst 1, 1) := by decide +kernel
theorem dX5_isSpread_36 : decode cX5_isSpread 36 = .ok (.iand, 1) := by decide +kernel
theorem dX5_isSpread_37 : decode cX5_isSpread 37 = .ok (.iconst 1, 1) := by decide +kernel
theorem dX5_isSpread_38 : decode cX5_isSpread 38 = .ok (.if_icmp .ne 30, 3) := by decide +kernel
theorem dX5_isSpread_41 : decode cX5_isSpread 41 = .ok (.iload 6, 2) := by decide +kernel
theorem dX5_isSpread_43 : decode cX5_isSpread 43 = .ok (.aload_n 0, 1) := by decide +kernel
theorem dX5_isSpread_44 : decode cX5_isSpread 44 = .ok (.iload_n 1, 1) := by decide +kernel
theorem dX5_isSpread_45 : decode cX5_isSpread 45 = .ok (.invokevirtual 127, 3) := by decide +kernel
theorem dX5_isSpread_48 : decode cX5_isSpread 48 = .ok (.ishr, 1) := by decide +kernel
theorem dX5_isSpread_49 : decode cX5_isSpread 49 = .ok (.ifCond .ne 19, 3) := by decide +kernel
theorem dX5_isSpread_52 : decode cX5_isSpread 52 = .ok (.aload_n 0, 1) := by decide +kernel
theorem dX5_isSpread_53 : decode cX5_isSpread 53 = .ok (.iload 5, 2) := by decide +kernel
theorem dX5_isSpread_55 : decode cX5_isSpread 55 = .ok (.iload_n 1, 1) := by decide +kernel
theorem dX5_isSpread_56 : decode cX5_isSpread 56 = .ok (.iload 6, 2) := by decide +kernel
theorem dX5_isSpread_58 : decode cX5_isSpread 58 = .ok (.invokevirtual 149, 3) := by decide +kernel
theorem dX5_isSpread_61 : decode cX5_isSpread 61 = .ok (.ifCond .eq 7, 3) := by decide +kernel
theorem dX5_isSpread_64 : decode cX5_isSpread 64 = .ok (.iconst 1, 1) := by decide +kernel
theorem dX5_isSpread_65 : decode cX5_isSpread 65 = .ok (.goto 4, 3) := by decide +kernel
theorem dX5_isSpread_68 : decode cX5_isSpread 68 = .ok (.iconst 0, 1) := by decide +kernel
theorem dX5_isSpread_69 : decode cX5_isSpread 69 = .ok (.istore 7, 2) := by decide +kernel
theorem dX5_isSpread_71 : decode cX5_isSpread 71 = .ok (.iload 7, 2) := by decide +kernel
theorem dX5_isSpread_73 : decode cX5_isSpread 73 = .ok (.ifCond .ne 5, 3) := by decide +kernel
theorem dX5_isSpread_76 : decode cX5_isSpread 76 = .ok (.iconst 0, 1) := by decide +kernel
theorem dX5_isSpread_77 : decode cX5_isSpread 77 = .ok (.ireturn, 1) := by decide +kernel
theorem dX5_isSpread_78 : decode cX5_isSpread 78 = .ok (.iinc 5 1, 3) := by decide +kernel
theorem dX5_isSpread_81 : decode cX5_isSpread 81 = .ok (.goto (-78), 3) := by decide +kernel
theorem dX5_isSpread_84 : decode cX5_isSpread 84 = .ok (.aload_n 0, 1) := by decide +kernel
theorem dX5_isSpread_85 : decode cX5_isSpread 85 = .ok (.iload_n 1, 1) := by decide +kernel
theorem dX5_isSpread_86 : decode cX5_isSpread 86 = .ok (.iload_n 2, 1) := by decide +kernel
theorem dX5_isSpread_87 : decode cX5_isSpread 87 = .ok (.iload 4, 2) := by decide +kernel
theorem dX5_isSpread_89 : decode cX5_isSpread 89 = .ok (.invokevirtual 159, 3) := by decide +kernel
theorem dX5_isSpread_92 : decode cX5_isSpread 92 = .ok (.ireturn, 1) := by decide +kernel
theorem dX5_laysSpreads_0 : decode cX5_laysSpreads 0 = .ok (.aload_n 0, 1) := by decide +kernel
theorem dX5_laysSpreads_1 : decode cX5_laysSpreads 1 = .ok (.getfield 44, 3) := by decide +kernel
theorem dX5_laysSpreads_4 : decode cX5_laysSpreads 4 = .ok (.iload_n 1, 1) := by decide +kernel
theorem dX5_laysSpreads_5 : decode cX5_laysSpreads 5 = .ok (.iconst 0, 1) := by decide +kernel
theorem dX5_laysSpreads_6 : decode cX5_laysSpreads 6 = .ok (.iastore, 1) := by decide +kernel
theorem dX5_laysSpreads_7 : decode cX5_laysSpreads 7 = .ok (.iconst 0, 1) := by decide +kernel
theorem dX5_laysSpreads_8 : decode cX5_laysSpreads 8 = .ok (.istore 4, 2) := by decide +kernel
theorem dX5_laysSpreads_10 : decode cX5_laysSpreads 10 = .ok (.iload 4, 2) := by decide +kernel
theorem dX5_laysSpreads_12 : decode cX5_laysSpreads 12 = .ok (.sipush 4096, 3) := by decide +kernel
theorem dX5_laysSpreads_15 : decode cX5_laysSpreads 15 = .ok (.if_icmp .ge 50, 3) := by decide +kernel
theorem dX5_laysSpreads_18 : decode cX5_laysSpreads 18 = .ok (.aload_n 0, 1) := by decide +kernel
theorem dX5_laysSpreads_19 : decode cX5_laysSpreads 19 = .ok (.iload_n 1, 1) := by decide +kernel
theorem dX5_laysSpreads_20 : decode cX5_laysSpreads 20 = .ok (.iload 4, 2) := by decide +kernel
theorem dX5_laysSpreads_22 : decode cX5_laysSpreads 22 = .ok (.iload_n 2, 1) := by decide +kernel
theorem dX5_laysSpreads_23 : decode cX5_laysSpreads 23 = .ok (.iload_n 3, 1) := by decide +kernel
theorem dX5_laysSpreads_24 : decode cX5_laysSpreads 24 = .ok (.invokevirtual 162, 3) := by decide +kernel
theorem dX5_laysSpreads_27 : decode cX5_laysSpreads 27 = .ok (.ifCond .eq 32, 3) := by decide +kernel
theorem dX5_laysSpreads_30 : decode cX5_laysSpreads 30 = .ok (.aload_n 0, 1) := by decide +kernel
theorem dX5_laysSpreads_31 : decode cX5_laysSpreads 31 = .ok (.getfield 41, 3) := by decide +kernel
theorem dX5_laysSpreads_34 : decode cX5_laysSpreads 34 = .ok (.sipush 784, 3) := by decide +kernel
theorem dX5_laysSpreads_37 : decode cX5_laysSpreads 37 = .ok (.iload_n 1, 1) := by decide +kernel
theorem dX5_laysSpreads_38 : decode cX5_laysSpreads 38 = .ok (.imul, 1) := by decide +kernel
theorem dX5_laysSpreads_39 : decode cX5_laysSpreads 39 = .ok (.aload_n 0, 1) := by decide +kernel
theorem dX5_laysSpreads_40 : decode cX5_laysSpreads 40 = .ok (.getfield 44, 3) := by decide +kernel
theorem dX5_laysSpreads_43 : decode cX5_laysSpreads 43 = .ok (.iload_n 1, 1) := by decide +kernel
theorem dX5_laysSpreads_44 : decode cX5_laysSpreads 44 = .ok (.iaload, 1) := by decide +kernel
theorem dX5_laysSpreads_45 : decode cX5_laysSpreads 45 = .ok (.iadd, 1) := by decide +kernel
theorem dX5_laysSpreads_46 : decode cX5_laysSpreads 46 = .ok (.iload 4, 2) := by decide +kernel
theorem dX5_laysSpreads_48 : decode cX5_laysSpreads 48 = .ok (.iastore, 1) := by decide +kernel
theorem dX5_laysSpreads_49 : decode cX5_laysSpreads 49 = .ok (.aload_n 0, 1) := by decide +kernel
theorem dX5_laysSpreads_50 : decode cX5_laysSpreads 50 = .ok (.getfield 44, 3) := by decide +kernel
theorem dX5_laysSpreads_53 : decode cX5_laysSpreads 53 = .ok (.iload_n 1, 1) := by decide +kernel
theorem dX5_laysSpreads_54 : decode cX5_laysSpreads 54 = .ok (.dup2, 1) := by decide +kernel
theorem dX5_laysSpreads_55 : decode cX5_laysSpreads 55 = .ok (.iaload, 1) := by decide +kernel
theorem dX5_laysSpreads_56 : decode cX5_laysSpreads 56 = .ok (.iconst 1, 1) := by decide +kernel
theorem dX5_laysSpreads_57 : decode cX5_laysSpreads 57 = .ok (.iadd, 1) := by decide +kernel
theorem dX5_laysSpreads_58 : decode cX5_laysSpreads 58 = .ok (.iastore, 1) := by decide +kernel
theorem dX5_laysSpreads_59 : decode cX5_laysSpreads 59 = .ok (.iinc 4 1, 3) := by decide +kernel
theorem dX5_laysSpreads_62 : decode cX5_laysSpreads 62 = .ok (.goto (-52), 3) := by decide +kernel
theorem dX5_laysSpreads_65 : decode cX5_laysSpreads 65 = .ok (.return_, 1) := by decide +kernel
theorem dX5_spreads_0 : decode cX5_spreads 0 = .ok (.aload_n 0, 1) := by decide +kernel
theorem dX5_spreads_1 : decode cX5_spreads 1 = .ok (.iload_n 1, 1) := by decide +kernel
theorem dX5_spreads_2 : decode cX5_spreads 2 = .ok (.invokevirtual 124, 3) := by decide +kernel
theorem dX5_spreads_5 : decode cX5_spreads 5 = .ok (.ifCond .ne 5, 3) := by decide +kernel
theorem dX5_spreads_8 : decode cX5_spreads 8 = .ok (.iconst (-1), 1) := by decide +kernel
theorem dX5_spreads_9 : decode cX5_spreads 9 = .ok (.ireturn, 1) := by decide +kernel
theorem dX5_spreads_10 : decode cX5_spreads 10 = .ok (.aload_n 0, 1) := by decide +kernel
theorem dX5_spreads_11 : decode cX5_spreads 11 = .ok (.iload_n 1, 1) := by decide +kernel
theorem dX5_spreads_12 : decode cX5_spreads 12 = .ok (.aload_n 0, 1) := by decide +kernel
theorem dX5_spreads_13 : decode cX5_spreads 13 = .ok (.getfield 13, 3) := by decide +kernel
theorem dX5_spreads_16 : decode cX5_spreads 16 = .ok (.bipush 33, 2) := by decide +kernel
theorem dX5_spreads_18 : decode cX5_spreads 18 = .ok (.iaload, 1) := by decide +kernel
theorem dX5_spreads_19 : decode cX5_spreads 19 = .ok (.aload_n 0, 1) := by decide +kernel
theorem dX5_spreads_20 : decode cX5_spreads 20 = .ok (.getfield 13, 3) := by decide +kernel
theorem dX5_spreads_23 : decode cX5_spreads 23 = .ok (.bipush 35, 2) := by decide +kernel
theorem dX5_spreads_25 : decode cX5_spreads 25 = .ok (.iaload, 1) := by decide +kernel
theorem dX5_spreads_26 : decode cX5_spreads 26 = .ok (.invokevirtual 166, 3) := by decide +kernel
theorem dX5_spreads_29 : decode cX5_spreads 29 = .ok (.aload_n 0, 1) := by decide +kernel
theorem dX5_spreads_30 : decode cX5_spreads 30 = .ok (.getfield 44, 3) := by decide +kernel
theorem dX5_spreads_33 : decode cX5_spreads 33 = .ok (.iload_n 1, 1) := by decide +kernel
theorem dX5_spreads_34 : decode cX5_spreads 34 = .ok (.iaload, 1) := by decide +kernel
theorem dX5_spreads_35 : decode cX5_spreads 35 = .ok (.ireturn, 1) := by decide +kernel
theorem dX5_moveOf_0 : decode cX5_moveOf 0 = .ok (.iload_n 2, 1) := by decide +kernel
theorem dX5_moveOf_1 : decode cX5_moveOf 1 = .ok (.ifCond .eq 7, 3) := by decide +kernel
theorem dX5_moveOf_4 : decode cX5_moveOf 4 = .ok (.iload_n 3, 1) := by decide +kernel
theorem dX5_moveOf_5 : decode cX5_moveOf 5 = .ok (.ifCond .ne 20, 3) := by decide +kernel
theorem dX5_moveOf_8 : decode cX5_moveOf 8 = .ok (.iload_n 2, 1) := by decide +kernel
theorem dX5_moveOf_9 : decode cX5_moveOf 9 = .ok (.iload_n 3, 1) := by decide +kernel
theorem dX5_moveOf_10 : decode cX5_moveOf 10 = .ok (.if_icmp .ne 7, 3) := by decide +kernel
theorem dX5_moveOf_13 : decode cX5_moveOf 13 = .ok (.iconst 0, 1) := by decide +kernel
theorem dX5_moveOf_14 : decode cX5_moveOf 14 = .ok (.goto 10, 3) := by decide +kernel
theorem dX5_moveOf_17 : decode cX5_moveOf 17 = .ok (.aload_n 0, 1) := by decide +kernel
theorem dX5_moveOf_18 : decode cX5_moveOf 18 = .ok (.getfield 13, 3) := by decide +kernel
theorem dX5_moveOf_21 : decode cX5_moveOf 21 = .ok (.bipush 34, 2) := by decide +kernel
theorem dX5_moveOf_23 : decode cX5_moveOf 23 = .ok (.iaload, 1) := by decide +kernel
theorem dX5_moveOf_24 : decode cX5_moveOf 24 = .ok (.ireturn, 1) := by decide +kernel
theorem dX5_moveOf_25 : decode cX5_moveOf 25 = .ok (.aload_n 0, 1) := by decide +kernel
theorem dX5_moveOf_26 : decode cX5_moveOf 26 = .ok (.iload_n 1, 1) := by decide +kernel
theorem dX5_moveOf_27 : decode cX5_moveOf 27 = .ok (.iload_n 2, 1) := by decide +kernel
theorem dX5_moveOf_28 : decode cX5_moveOf 28 = .ok (.invokestatic 140, 3) := by decide +kernel
theorem dX5_moveOf_31 : decode cX5_moveOf 31 = .ok (.invokevirtual 130, 3) := by decide +kernel
theorem dX5_moveOf_34 : decode cX5_moveOf 34 = .ok (.aload_n 0, 1) := by decide +kernel
theorem dX5_moveOf_35 : decode cX5_moveOf 35 = .ok (.iload_n 1, 1) := by decide +kernel
theorem dX5_moveOf_36 : decode cX5_moveOf 36 = .ok (.iconst 1, 1) := by decide +kernel
theorem dX5_moveOf_37 : decode cX5_moveOf 37 = .ok (.iadd, 1) := by decide +kernel
theorem dX5_moveOf_38 : decode cX5_moveOf 38 = .ok (.iload_n 3, 1) := by decide +kernel
theorem dX5_moveOf_39 : decode cX5_moveOf 39 = .ok (.invokestatic 140, 3) := by decide +kernel
theorem dX5_moveOf_42 : decode cX5_moveOf 42 = .ok (.invokevirtual 130, 3) := by decide +kernel
theorem dX5_moveOf_45 : decode cX5_moveOf 45 = .ok (.isub, 1) := by decide +kernel
theorem dX5_moveOf_46 : decode cX5_moveOf 46 = .ok (.istore 4, 2) := by decide +kernel
theorem dX5_moveOf_48 : decode cX5_moveOf 48 = .ok (.iload 4, 2) := by decide +kernel
theorem dX5_moveOf_50 : decode cX5_moveOf 50 = .ok (.ifCond .ge 9, 3) := by decide +kernel
theorem dX5_moveOf_53 : decode cX5_moveOf 53 = .ok (.iload 4, 2) := by decide +kernel
theorem dX5_moveOf_55 : decode cX5_moveOf 55 = .ok (.ineg, 1) := by decide +kernel
theorem dX5_moveOf_56 : decode cX5_moveOf 56 = .ok (.goto 5, 3) := by decide +kernel
theorem dX5_moveOf_59 : decode cX5_moveOf 59 = .ok (.iload 4, 2) := by decide +kernel
theorem dX5_moveOf_61 : decode cX5_moveOf 61 = .ok (.iload_n 2, 1) := by decide +kernel
theorem dX5_moveOf_62 : decode cX5_moveOf 62 = .ok (.invokestatic 146, 3) := by decide +kernel
theorem dX5_moveOf_65 : decode cX5_moveOf 65 = .ok (.iload_n 3, 1) := by decide +kernel
theorem dX5_moveOf_66 : decode cX5_moveOf 66 = .ok (.invokestatic 146, 3) := by decide +kernel
theorem dX5_moveOf_69 : decode cX5_moveOf 69 = .ok (.if_icmp .ne 7, 3) := by decide +kernel
theorem dX5_moveOf_72 : decode cX5_moveOf 72 = .ok (.iconst 0, 1) := by decide +kernel
theorem dX5_moveOf_73 : decode cX5_moveOf 73 = .ok (.goto 4, 3) := by decide +kernel
theorem dX5_moveOf_76 : decode cX5_moveOf 76 = .ok (.iconst 2, 1) := by decide +kernel
theorem dX5_moveOf_77 : decode cX5_moveOf 77 = .ok (.iadd, 1) := by decide +kernel
theorem dX5_moveOf_78 : decode cX5_moveOf 78 = .ok (.ireturn, 1) := by decide +kernel
theorem dX5_movesOf_0 : decode cX5_movesOf 0 = .ok (.iconst 0, 1) := by decide +kernel
theorem dX5_movesOf_1 : decode cX5_movesOf 1 = .ok (.istore 4, 2) := by decide +kernel
theorem dX5_movesOf_3 : decode cX5_movesOf 3 = .ok (.iconst 0, 1) := by decide +kernel
theorem dX5_movesOf_4 : decode cX5_movesOf 4 = .ok (.istore 5, 2) := by decide +kernel
theorem dX5_movesOf_6 : decode cX5_movesOf 6 = .ok (.iload 5, 2) := by decide +kernel
theorem dX5_movesOf_8 : decode cX5_movesOf 8 = .ok (.aload_n 0, 1) := by decide +kernel
theorem dX5_movesOf_9 : decode cX5_movesOf 9 = .ok (.getfield 63, 3) := by decide +kernel
theorem dX5_movesOf_12 : decode cX5_movesOf 12 = .ok (.if_icmp .ge 87, 3) := by decide +kernel
theorem dX5_movesOf_15 : decode cX5_movesOf 15 = .ok (.iload_n 2, 1) := by decide +kernel
theorem dX5_movesOf_16 : decode cX5_movesOf 16 = .ok (.iload 5, 2) := by decide +kernel
theorem dX5_movesOf_18 : decode cX5_movesOf 18 = .ok (.invokestatic 152, 3) := by decide +kernel
theorem dX5_movesOf_21 : decode cX5_movesOf 21 = .ok (.istore 6, 2) := by decide +kernel
theorem dX5_movesOf_23 : decode cX5_movesOf 23 = .ok (.iload_n 3, 1) := by decide +kernel
theorem dX5_movesOf_24 : decode cX5_movesOf 24 = .ok (.iload 5, 2) := by decide +kernel
theorem dX5_movesOf_26 : decode cX5_movesOf 26 = .ok (.invokestatic 152, 3) := by decide +kernel
theorem dX5_movesOf_29 : decode cX5_movesOf 29 = .ok (.istore 7, 2) := by decide +kernel
theorem dX5_movesOf_31 : decode cX5_movesOf 31 = .ok (.aload_n 0, 1) := by decide +kernel
theorem dX5_movesOf_32 : decode cX5_movesOf 32 = .ok (.iload 5, 2) := by decide +kernel
theorem dX5_movesOf_34 : decode cX5_movesOf 34 = .ok (.invokevirtual 120, 3) := by decide +kernel
theorem dX5_movesOf_37 : decode cX5_movesOf 37 = .ok (.iconst 2, 1) := by decide +kernel
theorem dX5_movesOf_38 : decode cX5_movesOf 38 = .ok (.if_icmp .ne 41, 3) := by decide +kernel
theorem dX5_movesOf_41 : decode cX5_movesOf 41 = .ok (.iload 6, 2) := by decide +kernel
theorem dX5_movesOf_43 : decode cX5_movesOf 43 = .ok (.ifCond .eq 36, 3) := by decide +kernel
theorem dX5_movesOf_46 : decode cX5_movesOf 46 = .ok (.iload 7, 2) := by decide +kernel
theorem dX5_movesOf_48 : decode cX5_movesOf 48 = .ok (.ifCond .eq 31, 3) := by decide +kernel
theorem dX5_movesOf_51 : decode cX5_movesOf 51 = .ok (.aload_n 0, 1) := by decide +kernel
theorem dX5_movesOf_52 : decode cX5_movesOf 52 = .ok (.iload_n 1, 1) := by decide +kernel
theorem dX5_movesOf_53 : decode cX5_movesOf 53 = .ok (.iload 6, 2) := by decide +kernel
theorem dX5_movesOf_55 : decode cX5_movesOf 55 = .ok (.invokestatic 140, 3) := by decide +kernel
theorem dX5_movesOf_58 : decode cX5_movesOf 58 = .ok (.invokevirtual 130, 3) := by decide +kernel
theorem dX5_movesOf_61 : decode cX5_movesOf 61 = .ok (.aload_n 0, 1) := by decide +kernel
theorem dX5_movesOf_62 : decode cX5_movesOf 62 = .ok (.iload_n 1, 1) := by decide +kernel
theorem dX5_movesOf_63 : decode cX5_movesOf 63 = .ok (.iconst 1, 1) := by decide +kernel
theorem dX5_movesOf_64 : decode cX5_movesOf 64 = .ok (.iadd, 1) := by decide +kernel
theorem dX5_movesOf_65 : decode cX5_movesOf 65 = .ok (.iload 7, 2) := by decide +kernel
theorem dX5_movesOf_67 : decode cX5_movesOf 67 = .ok (.invokestatic 140, 3) := by decide +kernel
theorem dX5_movesOf_70 : decode cX5_movesOf 70 = .ok (.invokevirtual 130, 3) := by decide +kernel
theorem dX5_movesOf_73 : decode cX5_movesOf 73 = .ok (.if_icmp .ne 6, 3) := by decide +kernel
theorem dX5_movesOf_76 : decode cX5_movesOf 76 = .ok (.ldc 155, 2) := by decide +kernel
theorem dX5_movesOf_78 : decode cX5_movesOf 78 = .ok (.ireturn, 1) := by decide +kernel
theorem dX5_movesOf_79 : decode cX5_movesOf 79 = .ok (.iload 4, 2) := by decide +kernel
theorem dX5_movesOf_81 : decode cX5_movesOf 81 = .ok (.aload_n 0, 1) := by decide +kernel
theorem dX5_movesOf_82 : decode cX5_movesOf 82 = .ok (.iload_n 1, 1) := by decide +kernel
theorem dX5_movesOf_83 : decode cX5_movesOf 83 = .ok (.iload 6, 2) := by decide +kernel
theorem dX5_movesOf_85 : decode cX5_movesOf 85 = .ok (.iload 7, 2) := by decide +kernel
theorem dX5_movesOf_87 : decode cX5_movesOf 87 = .ok (.invokevirtual 170, 3) := by decide +kernel
theorem dX5_movesOf_90 : decode cX5_movesOf 90 = .ok (.iadd, 1) := by decide +kernel
theorem dX5_movesOf_91 : decode cX5_movesOf 91 = .ok (.istore 4, 2) := by decide +kernel
theorem dX5_movesOf_93 : decode cX5_movesOf 93 = .ok (.iinc 5 1, 3) := by decide +kernel
theorem dX5_movesOf_96 : decode cX5_movesOf 96 = .ok (.goto (-90), 3) := by decide +kernel
theorem dX5_movesOf_99 : decode cX5_movesOf 99 = .ok (.iload 4, 2) := by decide +kernel
theorem dX5_movesOf_101 : decode cX5_movesOf 101 = .ok (.ireturn, 1) := by decide +kernel
theorem dX5_leastBehind_0 : decode cX5_leastBehind 0 = .ok (.iload_n 1, 1) := by decide +kernel
theorem dX5_leastBehind_1 : decode cX5_leastBehind 1 = .ok (.iload_n 3, 1) := by decide +kernel
theorem dX5_leastBehind_2 : decode cX5_leastBehind 2 = .ok (.iconst 1, 1) := by decide +kernel
theorem dX5_leastBehind_3 : decode cX5_leastBehind 3 = .ok (.isub, 1) := by decide +kernel
theorem dX5_leastBehind_4 : decode cX5_leastBehind 4 = .ok (.if_icmp .ne 5, 3) := by decide +kernel
theorem dX5_leastBehind_7 : decode cX5_leastBehind 7 = .ok (.iconst 0, 1) := by decide +kernel
theorem dX5_leastBehind_8 : decode cX5_leastBehind 8 = .ok (.ireturn, 1) := by decide +kernel
theorem dX5_leastBehind_9 : decode cX5_leastBehind 9 = .ok (.ldc 155, 2) := by decide +kernel
theorem dX5_leastBehind_11 : decode cX5_leastBehind 11 = .ok (.istore 4, 2) := by decide +kernel
theorem dX5_leastBehind_13 : decode cX5_leastBehind 13 = .ok (.iconst 0, 1) := by decide +kernel
theorem dX5_leastBehind_14 : decode cX5_leastBehind 14 = .ok (.istore 5, 2) := by decide +kernel
theorem dX5_leastBehind_16 : decode cX5_leastBehind 16 = .ok (.iload 5, 2) := by decide +kernel
theorem dX5_leastBehind_18 : decode cX5_leastBehind 18 = .ok (.aload_n 0, 1) := by decide +kernel
theorem dX5_leastBehind_19 : decode cX5_leastBehind 19 = .ok (.getfield 44, 3) := by decide +kernel
theorem dX5_leastBehind_22 : decode cX5_leastBehind 22 = .ok (.iload_n 1, 1) := by decide +kernel
theorem dX5_leastBehind_23 : decode cX5_leastBehind 23 = .ok (.iconst 1, 1) := by decide +kernel
theorem dX5_leastBehind_24 : decode cX5_leastBehind 24 = .ok (.iadd, 1) := by decide +kernel
theorem dX5_leastBehind_25 : decode cX5_leastBehind 25 = .ok (.iaload, 1) := by decide +kernel
theorem dX5_leastBehind_26 : decode cX5_leastBehind 26 = .ok (.if_icmp .ge 75, 3) := by decide +kernel
theorem dX5_leastBehind_29 : decode cX5_leastBehind 29 = .ok (.aload_n 0, 1) := by decide +kernel
theorem dX5_leastBehind_30 : decode cX5_leastBehind 30 = .ok (.getfield 47, 3) := by decide +kernel
theorem dX5_leastBehind_33 : decode cX5_leastBehind 33 = .ok (.sipush 784, 3) := by decide +kernel
theorem dX5_leastBehind_36 : decode cX5_leastBehind 36 = .ok (.iload_n 1, 1) := by decide +kernel
theorem dX5_leastBehind_37 : decode cX5_leastBehind 37 = .ok (.iconst 1, 1) := by decide +kernel
theorem dX5_leastBehind_38 : decode cX5_leastBehind 38 = .ok (.iadd, 1) := by decide +kernel
theorem dX5_leastBehind_39 : decode cX5_leastBehind 39 = .ok (.imul, 1) := by decide +kernel
theorem dX5_leastBehind_40 : decode cX5_leastBehind 40 = .ok (.iload 5, 2) := by decide +kernel
theorem dX5_leastBehind_42 : decode cX5_leastBehind 42 = .ok (.iadd, 1) := by decide +kernel
theorem dX5_leastBehind_43 : decode cX5_leastBehind 43 = .ok (.iaload, 1) := by decide +kernel
theorem dX5_leastBehind_44 : decode cX5_leastBehind 44 = .ok (.istore 6, 2) := by decide +kernel
theorem dX5_leastBehind_46 : decode cX5_leastBehind 46 = .ok (.iload 6, 2) := by decide +kernel
theorem dX5_leastBehind_48 : decode cX5_leastBehind 48 = .ok (.iload 4, 2) := by decide +kernel
theorem dX5_leastBehind_50 : decode cX5_leastBehind 50 = .ok (.if_icmp .ge 45, 3) := by decide +kernel
theorem dX5_leastBehind_53 : decode cX5_leastBehind 53 = .ok (.iload 6, 2) := by decide +kernel
theorem dX5_leastBehind_55 : decode cX5_leastBehind 55 = .ok (.aload_n 0, 1) := by decide +kernel
theorem dX5_leastBehind_56 : decode cX5_leastBehind 56 = .ok (.iload_n 1, 1) := by decide +kernel
theorem dX5_leastBehind_57 : decode cX5_leastBehind 57 = .ok (.iload_n 2, 1) := by decide +kernel
theorem dX5_leastBehind_58 : decode cX5_leastBehind 58 = .ok (.aload_n 0, 1) := by decide +kernel
theorem dX5_leastBehind_59 : decode cX5_leastBehind 59 = .ok (.getfield 41, 3) := by decide +kernel
theorem dX5_leastBehind_62 : decode cX5_leastBehind 62 = .ok (.sipush 784, 3) := by decide +kernel
theorem dX5_leastBehind_65 : decode cX5_leastBehind 65 = .ok (.iload_n 1, 1) := by decide +kernel
theorem dX5_leastBehind_66 : decode cX5_leastBehind 66 = .ok (.iconst 1, 1) := by decide +kernel
theorem dX5_leastBehind_67 : decode cX5_leastBehind 67 = .ok (.iadd, 1) := by decide +kernel
theorem dX5_leastBehind_68 : decode cX5_leastBehind 68 = .ok (.imul, 1) := by decide +kernel
theorem dX5_leastBehind_69 : decode cX5_leastBehind 69 = .ok (.iload 5, 2) := by decide +kernel
theorem dX5_leastBehind_71 : decode cX5_leastBehind 71 = .ok (.iadd, 1) := by decide +kernel
theorem dX5_leastBehind_72 : decode cX5_leastBehind 72 = .ok (.iaload, 1) := by decide +kernel
theorem dX5_leastBehind_73 : decode cX5_leastBehind 73 = .ok (.invokevirtual 174, 3) := by decide +kernel
theorem dX5_leastBehind_76 : decode cX5_leastBehind 76 = .ok (.iadd, 1) := by decide +kernel
theorem dX5_leastBehind_77 : decode cX5_leastBehind 77 = .ok (.istore 7, 2) := by decide +kernel
theorem dX5_leastBehind_79 : decode cX5_leastBehind 79 = .ok (.iload 7, 2) := by decide +kernel
theorem dX5_leastBehind_81 : decode cX5_leastBehind 81 = .ok (.iload 4, 2) := by decide +kernel
theorem dX5_leastBehind_83 : decode cX5_leastBehind 83 = .ok (.if_icmp .ge 8, 3) := by decide +kernel
theorem dX5_leastBehind_86 : decode cX5_leastBehind 86 = .ok (.iload 7, 2) := by decide +kernel
theorem dX5_leastBehind_88 : decode cX5_leastBehind 88 = .ok (.goto 5, 3) := by decide +kernel
theorem dX5_leastBehind_91 : decode cX5_leastBehind 91 = .ok (.iload 4, 2) := by decide +kernel
theorem dX5_leastBehind_93 : decode cX5_leastBehind 93 = .ok (.istore 4, 2) := by decide +kernel
theorem dX5_leastBehind_95 : decode cX5_leastBehind 95 = .ok (.iinc 5 1, 3) := by decide +kernel
theorem dX5_leastBehind_98 : decode cX5_leastBehind 98 = .ok (.goto (-82), 3) := by decide +kernel
theorem dX5_leastBehind_101 : decode cX5_leastBehind 101 = .ok (.iload 4, 2) := by decide +kernel
theorem dX5_leastBehind_103 : decode cX5_leastBehind 103 = .ok (.ireturn, 1) := by decide +kernel
theorem dX5_laysScore_0 : decode cX5_laysScore 0 = .ok (.iload_n 3, 1) := by decide +kernel
theorem dX5_laysScore_1 : decode cX5_laysScore 1 = .ok (.ifCond .ne 7, 3) := by decide +kernel
theorem dX5_laysScore_4 : decode cX5_laysScore 4 = .ok (.iconst 0, 1) := by decide +kernel
theorem dX5_laysScore_5 : decode cX5_laysScore 5 = .ok (.goto 5, 3) := by decide +kernel
theorem dX5_laysScore_8 : decode cX5_laysScore 8 = .ok (.ldc 155, 2) := by decide +kernel
theorem dX5_laysScore_10 : decode cX5_laysScore 10 = .ok (.istore 4, 2) := by decide +kernel
theorem dX5_laysScore_12 : decode cX5_laysScore 12 = .ok (.iload_n 3, 1) := by decide +kernel
theorem dX5_laysScore_13 : decode cX5_laysScore 13 = .ok (.iconst 1, 1) := by decide +kernel
theorem dX5_laysScore_14 : decode cX5_laysScore 14 = .ok (.isub, 1) := by decide +kernel
theorem dX5_laysScore_15 : decode cX5_laysScore 15 = .ok (.istore 5, 2) := by decide +kernel
theorem dX5_laysScore_17 : decode cX5_laysScore 17 = .ok (.iload 5, 2) := by decide +kernel
theorem dX5_laysScore_19 : decode cX5_laysScore 19 = .ok (.ifCond .lt 99, 3) := by decide +kernel
theorem dX5_laysScore_22 : decode cX5_laysScore 22 = .ok (.aload_n 0, 1) := by decide +kernel
theorem dX5_laysScore_23 : decode cX5_laysScore 23 = .ok (.iload 5, 2) := by decide +kernel
theorem dX5_laysScore_25 : decode cX5_laysScore 25 = .ok (.iload_n 1, 1) := by decide +kernel
theorem dX5_laysScore_26 : decode cX5_laysScore 26 = .ok (.iload_n 2, 1) := by decide +kernel
theorem dX5_laysScore_27 : decode cX5_laysScore 27 = .ok (.invokevirtual 166, 3) := by decide +kernel
theorem dX5_laysScore_30 : decode cX5_laysScore 30 = .ok (.iconst 0, 1) := by decide +kernel
theorem dX5_laysScore_31 : decode cX5_laysScore 31 = .ok (.istore 6, 2) := by decide +kernel
theorem dX5_laysScore_33 : decode cX5_laysScore 33 = .ok (.iload 6, 2) := by decide +kernel
theorem dX5_laysScore_35 : decode cX5_laysScore 35 = .ok (.aload_n 0, 1) := by decide +kernel
theorem dX5_laysScore_36 : decode cX5_laysScore 36 = .ok (.getfield 44, 3) := by decide +kernel
theorem dX5_laysScore_39 : decode cX5_laysScore 39 = .ok (.iload 5, 2) := by decide +kernel
theorem dX5_laysScore_41 : decode cX5_laysScore 41 = .ok (.iaload, 1) := by decide +kernel
theorem dX5_laysScore_42 : decode cX5_laysScore 42 = .ok (.if_icmp .ge 70, 3) := by decide +kernel
theorem dX5_laysScore_45 : decode cX5_laysScore 45 = .ok (.aload_n 0, 1) := by decide +kernel
theorem dX5_laysScore_46 : decode cX5_laysScore 46 = .ok (.getfield 47, 3) := by decide +kernel
theorem dX5_laysScore_49 : decode cX5_laysScore 49 = .ok (.sipush 784, 3) := by decide +kernel
theorem dX5_laysScore_52 : decode cX5_laysScore 52 = .ok (.iload 5, 2) := by decide +kernel
theorem dX5_laysScore_54 : decode cX5_laysScore 54 = .ok (.imul, 1) := by decide +kernel
theorem dX5_laysScore_55 : decode cX5_laysScore 55 = .ok (.iload 6, 2) := by decide +kernel
theorem dX5_laysScore_57 : decode cX5_laysScore 57 = .ok (.iadd, 1) := by decide +kernel
theorem dX5_laysScore_58 : decode cX5_laysScore 58 = .ok (.aload_n 0, 1) := by decide +kernel
theorem dX5_laysScore_59 : decode cX5_laysScore 59 = .ok (.iload 5, 2) := by decide +kernel
theorem dX5_laysScore_61 : decode cX5_laysScore 61 = .ok (.aload_n 0, 1) := by decide +kernel
theorem dX5_laysScore_62 : decode cX5_laysScore 62 = .ok (.getfield 41, 3) := by decide +kernel
theorem dX5_laysScore_65 : decode cX5_laysScore 65 = .ok (.sipush 784, 3) := by decide +kernel
theorem dX5_laysScore_68 : decode cX5_laysScore 68 = .ok (.iload 5, 2) := by decide +kernel
theorem dX5_laysScore_70 : decode cX5_laysScore 70 = .ok (.imul, 1) := by decide +kernel
theorem dX5_laysScore_71 : decode cX5_laysScore 71 = .ok (.iload 6, 2) := by decide +kernel
theorem dX5_laysScore_73 : decode cX5_laysScore 73 = .ok (.iadd, 1) := by decide +kernel
theorem dX5_laysScore_74 : decode cX5_laysScore 74 = .ok (.iaload, 1) := by decide +kernel
theorem dX5_laysScore_75 : decode cX5_laysScore 75 = .ok (.iload_n 3, 1) := by decide +kernel
theorem dX5_laysScore_76 : decode cX5_laysScore 76 = .ok (.invokevirtual 177, 3) := by decide +kernel
theorem dX5_laysScore_79 : decode cX5_laysScore 79 = .ok (.iastore, 1) := by decide +kernel
theorem dX5_laysScore_80 : decode cX5_laysScore 80 = .ok (.iload 5, 2) := by decide +kernel
theorem dX5_laysScore_82 : decode cX5_laysScore 82 = .ok (.ifCond .ne 24, 3) := by decide +kernel
theorem dX5_laysScore_85 : decode cX5_laysScore 85 = .ok (.aload_n 0, 1) := by decide +kernel
theorem dX5_laysScore_86 : decode cX5_laysScore 86 = .ok (.getfield 47, 3) := by decide +kernel
theorem dX5_laysScore_89 : decode cX5_laysScore 89 = .ok (.iload 6, 2) := by decide +kernel
theorem dX5_laysScore_91 : decode cX5_laysScore 91 = .ok (.iaload, 1) := by decide +kernel
theorem dX5_laysScore_92 : decode cX5_laysScore 92 = .ok (.iload 4, 2) := by decide +kernel
theorem dX5_laysScore_94 : decode cX5_laysScore 94 = .ok (.if_icmp .ge 12, 3) := by decide +kernel
theorem dX5_laysScore_97 : decode cX5_laysScore 97 = .ok (.aload_n 0, 1) := by decide +kernel
theorem dX5_laysScore_98 : decode cX5_laysScore 98 = .ok (.getfield 47, 3) := by decide +kernel
theorem dX5_laysScore_101 : decode cX5_laysScore 101 = .ok (.iload 6, 2) := by decide +kernel
theorem dX5_laysScore_103 : decode cX5_laysScore 103 = .ok (.iaload, 1) := by decide +kernel
theorem dX5_laysScore_104 : decode cX5_laysScore 104 = .ok (.istore 4, 2) := by decide +kernel
theorem dX5_laysScore_106 : decode cX5_laysScore 106 = .ok (.iinc 6 1, 3) := by decide +kernel
theorem dX5_laysScore_109 : decode cX5_laysScore 109 = .ok (.goto (-76), 3) := by decide +kernel
theorem dX5_laysScore_112 : decode cX5_laysScore 112 = .ok (.iinc 5 (-1), 3) := by decide +kernel
theorem dX5_laysScore_115 : decode cX5_laysScore 115 = .ok (.goto (-98), 3) := by decide +kernel
theorem dX5_laysScore_118 : decode cX5_laysScore 118 = .ok (.iload 4, 2) := by decide +kernel
theorem dX5_laysScore_120 : decode cX5_laysScore 120 = .ok (.ireturn, 1) := by decide +kernel
theorem dX5_laysFirst_0 : decode cX5_laysFirst 0 = .ok (.aload_n 0, 1) := by decide +kernel
theorem dX5_laysFirst_1 : decode cX5_laysFirst 1 = .ok (.aload_n 0, 1) := by decide +kernel
theorem dX5_laysFirst_2 : decode cX5_laysFirst 2 = .ok (.aload_n 0, 1) := by decide +kernel
theorem dX5_laysFirst_3 : decode cX5_laysFirst 3 = .ok (.getfield 13, 3) := by decide +kernel
theorem dX5_laysFirst_6 : decode cX5_laysFirst 6 = .ok (.bipush 33, 2) := by decide +kernel
theorem dX5_laysFirst_8 : decode cX5_laysFirst 8 = .ok (.iaload, 1) := by decide +kernel
theorem dX5_laysFirst_9 : decode cX5_laysFirst 9 = .ok (.aload_n 0, 1) := by decide +kernel
theorem dX5_laysFirst_10 : decode cX5_laysFirst 10 = .ok (.getfield 13, 3) := by decide +kernel
theorem dX5_laysFirst_13 : decode cX5_laysFirst 13 = .ok (.bipush 35, 2) := by decide +kernel
theorem dX5_laysFirst_15 : decode cX5_laysFirst 15 = .ok (.iaload, 1) := by decide +kernel
theorem dX5_laysFirst_16 : decode cX5_laysFirst 16 = .ok (.aload_n 0, 1) := by decide +kernel
theorem dX5_laysFirst_17 : decode cX5_laysFirst 17 = .ok (.getfield 13, 3) := by decide +kernel
theorem dX5_laysFirst_20 : decode cX5_laysFirst 20 = .ok (.iconst 0, 1) := by decide +kernel
theorem dX5_laysFirst_21 : decode cX5_laysFirst 21 = .ok (.iaload, 1) := by decide +kernel
theorem dX5_laysFirst_22 : decode cX5_laysFirst 22 = .ok (.invokevirtual 180, 3) := by decide +kernel
theorem dX5_laysFirst_25 : decode cX5_laysFirst 25 = .ok (.putfield 183, 3) := by decide +kernel
theorem dX5_laysFirst_28 : decode cX5_laysFirst 28 = .ok (.aload_n 0, 1) := by decide +kernel
theorem dX5_laysFirst_29 : decode cX5_laysFirst 29 = .ok (.getfield 183, 3) := by decide +kernel
theorem dX5_laysFirst_32 : decode cX5_laysFirst 32 = .ok (.ldc 155, 2) := by decide +kernel
theorem dX5_laysFirst_34 : decode cX5_laysFirst 34 = .ok (.if_icmp .ne 5, 3) := by decide +kernel
theorem dX5_laysFirst_37 : decode cX5_laysFirst 37 = .ok (.iconst 0, 1) := by decide +kernel
theorem dX5_laysFirst_38 : decode cX5_laysFirst 38 = .ok (.ireturn, 1) := by decide +kernel
theorem dX5_laysFirst_39 : decode cX5_laysFirst 39 = .ok (.aload_n 0, 1) := by decide +kernel
theorem dX5_laysFirst_40 : decode cX5_laysFirst 40 = .ok (.getfield 183, 3) := by decide +kernel
theorem dX5_laysFirst_43 : decode cX5_laysFirst 43 = .ok (.istore_n 1, 1) := by decide +kernel
theorem dX5_laysFirst_44 : decode cX5_laysFirst 44 = .ok (.iconst 0, 1) := by decide +kernel
theorem dX5_laysFirst_45 : decode cX5_laysFirst 45 = .ok (.istore_n 2, 1) := by decide +kernel
theorem dX5_laysFirst_46 : decode cX5_laysFirst 46 = .ok (.iload_n 2, 1) := by decide +kernel
theorem dX5_laysFirst_47 : decode cX5_laysFirst 47 = .ok (.aload_n 0, 1) := by decide +kernel
theorem dX5_laysFirst_48 : decode cX5_laysFirst 48 = .ok (.getfield 13, 3) := by decide +kernel
theorem dX5_laysFirst_51 : decode cX5_laysFirst 51 = .ok (.iconst 0, 1) := by decide +kernel
theorem dX5_laysFirst_52 : decode cX5_laysFirst 52 = .ok (.iaload, 1) := by decide +kernel
theorem dX5_laysFirst_53 : decode cX5_laysFirst 53 = .ok (.if_icmp .ge 139, 3) := by decide +kernel
theorem dX5_laysFirst_56 : decode cX5_laysFirst 56 = .ok (.iconst 0, 1) := by decide +kernel
theorem dX5_laysFirst_57 : decode cX5_laysFirst 57 = .ok (.istore_n 3, 1) := by decide +kernel
theorem dX5_laysFirst_58 : decode cX5_laysFirst 58 = .ok (.iload_n 2, 1) := by decide +kernel
theorem dX5_laysFirst_59 : decode cX5_laysFirst 59 = .ok (.ifCond .ne 7, 3) := by decide +kernel
theorem dX5_laysFirst_62 : decode cX5_laysFirst 62 = .ok (.iconst 0, 1) := by decide +kernel
theorem dX5_laysFirst_63 : decode cX5_laysFirst 63 = .ok (.goto 28, 3) := by decide +kernel
theorem dX5_laysFirst_66 : decode cX5_laysFirst 66 = .ok (.aload_n 0, 1) := by decide +kernel
theorem dX5_laysFirst_67 : decode cX5_laysFirst 67 = .ok (.iload_n 2, 1) := by decide +kernel
theorem dX5_laysFirst_68 : decode cX5_laysFirst 68 = .ok (.iconst 1, 1) := by decide +kernel
theorem dX5_laysFirst_69 : decode cX5_laysFirst 69 = .ok (.isub, 1) := by decide +kernel
theorem dX5_laysFirst_70 : decode cX5_laysFirst 70 = .ok (.aload_n 0, 1) := by decide +kernel
theorem dX5_laysFirst_71 : decode cX5_laysFirst 71 = .ok (.getfield 50, 3) := by decide +kernel
theorem dX5_laysFirst_74 : decode cX5_laysFirst 74 = .ok (.iload_n 2, 1) := by decide +kernel
theorem dX5_laysFirst_75 : decode cX5_laysFirst 75 = .ok (.iconst 1, 1) := by decide +kernel
theorem dX5_laysFirst_76 : decode cX5_laysFirst 76 = .ok (.isub, 1) := by decide +kernel
theorem dX5_laysFirst_77 : decode cX5_laysFirst 77 = .ok (.iaload, 1) := by decide +kernel
theorem dX5_laysFirst_78 : decode cX5_laysFirst 78 = .ok (.aload_n 0, 1) := by decide +kernel
theorem dX5_laysFirst_79 : decode cX5_laysFirst 79 = .ok (.getfield 41, 3) := by decide +kernel
theorem dX5_laysFirst_82 : decode cX5_laysFirst 82 = .ok (.sipush 784, 3) := by decide +kernel
theorem dX5_laysFirst_85 : decode cX5_laysFirst 85 = .ok (.iload_n 2, 1) := by decide +kernel
theorem dX5_laysFirst_86 : decode cX5_laysFirst 86 = .ok (.imul, 1) := by decide +kernel
theorem dX5_laysFirst_87 : decode cX5_laysFirst 87 = .ok (.iaload, 1) := by decide +kernel
theorem dX5_laysFirst_88 : decode cX5_laysFirst 88 = .ok (.invokevirtual 174, 3) := by decide +kernel
theorem dX5_laysFirst_91 : decode cX5_laysFirst 91 = .ok (.istore 4, 2) := by decide +kernel
theorem dX5_laysFirst_93 : decode cX5_laysFirst 93 = .ok (.iload 4, 2) := by decide +kernel
theorem dX5_laysFirst_95 : decode cX5_laysFirst 95 = .ok (.aload_n 0, 1) := by decide +kernel
theorem dX5_laysFirst_96 : decode cX5_laysFirst 96 = .ok (.getfield 47, 3) := by decide +kernel
theorem dX5_laysFirst_99 : decode cX5_laysFirst 99 = .ok (.sipush 784, 3) := by decide +kernel
theorem dX5_laysFirst_102 : decode cX5_laysFirst 102 = .ok (.iload_n 2, 1) := by decide +kernel
theorem dX5_laysFirst_103 : decode cX5_laysFirst 103 = .ok (.imul, 1) := by decide +kernel
theorem dX5_laysFirst_104 : decode cX5_laysFirst 104 = .ok (.iload_n 3, 1) := by decide +kernel
theorem dX5_laysFirst_105 : decode cX5_laysFirst 105 = .ok (.iadd, 1) := by decide +kernel
theorem dX5_laysFirst_106 : decode cX5_laysFirst 106 = .ok (.iaload, 1) := by decide +kernel
theorem dX5_laysFirst_107 : decode cX5_laysFirst 107 = .ok (.iadd, 1) := by decide +kernel
theorem dX5_laysFirst_108 : decode cX5_laysFirst 108 = .ok (.iload_n 1, 1) := by decide +kernel
theorem dX5_laysFirst_109 : decode cX5_laysFirst 109 = .ok (.if_icmp .eq 46, 3) := by decide +kernel
theorem dX5_laysFirst_112 : decode cX5_laysFirst 112 = .ok (.iinc 3 1, 3) := by decide +kernel
theorem dX5_laysFirst_115 : decode cX5_laysFirst 115 = .ok (.iload_n 2, 1) := by decide +kernel
theorem dX5_laysFirst_116 : decode cX5_laysFirst 116 = .ok (.ifCond .ne 7, 3) := by decide +kernel
theorem dX5_laysFirst_119 : decode cX5_laysFirst 119 = .ok (.iconst 0, 1) := by decide +kernel
theorem dX5_laysFirst_120 : decode cX5_laysFirst 120 = .ok (.goto 30, 3) := by decide +kernel
theorem dX5_laysFirst_123 : decode cX5_laysFirst 123 = .ok (.aload_n 0, 1) := by decide +kernel
theorem dX5_laysFirst_124 : decode cX5_laysFirst 124 = .ok (.iload_n 2, 1) := by decide +kernel
theorem dX5_laysFirst_125 : decode cX5_laysFirst 125 = .ok (.iconst 1, 1) := by decide +kernel
theorem dX5_laysFirst_126 : decode cX5_laysFirst 126 = .ok (.isub, 1) := by decide +kernel
theorem dX5_laysFirst_127 : decode cX5_laysFirst 127 = .ok (.aload_n 0, 1) := by decide +kernel
theorem dX5_laysFirst_128 : decode cX5_laysFirst 128 = .ok (.getfield 50, 3) := by decide +kernel
theorem dX5_laysFirst_131 : decode cX5_laysFirst 131 = .ok (.iload_n 2, 1) := by decide +kernel
theorem dX5_laysFirst_132 : decode cX5_laysFirst 132 = .ok (.iconst 1, 1) := by decide +kernel
theorem dX5_laysFirst_133 : decode cX5_laysFirst 133 = .ok (.isub, 1) := by decide +kernel
theorem dX5_laysFirst_134 : decode cX5_laysFirst 134 = .ok (.iaload, 1) := by decide +kernel
theorem dX5_laysFirst_135 : decode cX5_laysFirst 135 = .ok (.aload_n 0, 1) := by decide +kernel
theorem dX5_laysFirst_136 : decode cX5_laysFirst 136 = .ok (.getfield 41, 3) := by decide +kernel
theorem dX5_laysFirst_139 : decode cX5_laysFirst 139 = .ok (.sipush 784, 3) := by decide +kernel
theorem dX5_laysFirst_142 : decode cX5_laysFirst 142 = .ok (.iload_n 2, 1) := by decide +kernel
theorem dX5_laysFirst_143 : decode cX5_laysFirst 143 = .ok (.imul, 1) := by decide +kernel
theorem dX5_laysFirst_144 : decode cX5_laysFirst 144 = .ok (.iload_n 3, 1) := by decide +kernel
theorem dX5_laysFirst_145 : decode cX5_laysFirst 145 = .ok (.iadd, 1) := by decide +kernel
theorem dX5_laysFirst_146 : decode cX5_laysFirst 146 = .ok (.iaload, 1) := by decide +kernel
theorem dX5_laysFirst_147 : decode cX5_laysFirst 147 = .ok (.invokevirtual 174, 3) := by decide +kernel
theorem dX5_laysFirst_150 : decode cX5_laysFirst 150 = .ok (.istore 4, 2) := by decide +kernel
theorem dX5_laysFirst_152 : decode cX5_laysFirst 152 = .ok (.goto (-59), 3) := by decide +kernel
theorem dX5_laysFirst_155 : decode cX5_laysFirst 155 = .ok (.aload_n 0, 1) := by decide +kernel
theorem dX5_laysFirst_156 : decode cX5_laysFirst 156 = .ok (.getfield 50, 3) := by decide +kernel
theorem dX5_laysFirst_159 : decode cX5_laysFirst 159 = .ok (.iload_n 2, 1) := by decide +kernel
theorem dX5_laysFirst_160 : decode cX5_laysFirst 160 = .ok (.aload_n 0, 1) := by decide +kernel
theorem dX5_laysFirst_161 : decode cX5_laysFirst 161 = .ok (.getfield 41, 3) := by decide +kernel
theorem dX5_laysFirst_164 : decode cX5_laysFirst 164 = .ok (.sipush 784, 3) := by decide +kernel
theorem dX5_laysFirst_167 : decode cX5_laysFirst 167 = .ok (.iload_n 2, 1) := by decide +kernel
theorem dX5_laysFirst_168 : decode cX5_laysFirst 168 = .ok (.imul, 1) := by decide +kernel
theorem dX5_laysFirst_169 : decode cX5_laysFirst 169 = .ok (.iload_n 3, 1) := by decide +kernel
theorem dX5_laysFirst_170 : decode cX5_laysFirst 170 = .ok (.iadd, 1) := by decide +kernel
theorem dX5_laysFirst_171 : decode cX5_laysFirst 171 = .ok (.iaload, 1) := by decide +kernel
theorem dX5_laysFirst_172 : decode cX5_laysFirst 172 = .ok (.iastore, 1) := by decide +kernel
theorem dX5_laysFirst_173 : decode cX5_laysFirst 173 = .ok (.aload_n 0, 1) := by decide +kernel
theorem dX5_laysFirst_174 : decode cX5_laysFirst 174 = .ok (.getfield 47, 3) := by decide +kernel
theorem dX5_laysFirst_177 : decode cX5_laysFirst 177 = .ok (.sipush 784, 3) := by decide +kernel
theorem dX5_laysFirst_180 : decode cX5_laysFirst 180 = .ok (.iload_n 2, 1) := by decide +kernel
theorem dX5_laysFirst_181 : decode cX5_laysFirst 181 = .ok (.imul, 1) := by decide +kernel
theorem dX5_laysFirst_182 : decode cX5_laysFirst 182 = .ok (.iload_n 3, 1) := by decide +kernel
theorem dX5_laysFirst_183 : decode cX5_laysFirst 183 = .ok (.iadd, 1) := by decide +kernel
theorem dX5_laysFirst_184 : decode cX5_laysFirst 184 = .ok (.iaload, 1) := by decide +kernel
theorem dX5_laysFirst_185 : decode cX5_laysFirst 185 = .ok (.istore_n 1, 1) := by decide +kernel
theorem dX5_laysFirst_186 : decode cX5_laysFirst 186 = .ok (.iinc 2 1, 3) := by decide +kernel
theorem dX5_laysFirst_189 : decode cX5_laysFirst 189 = .ok (.goto (-143), 3) := by decide +kernel
theorem dX5_laysFirst_192 : decode cX5_laysFirst 192 = .ok (.iconst 1, 1) := by decide +kernel
theorem dX5_laysFirst_193 : decode cX5_laysFirst 193 = .ok (.ireturn, 1) := by decide +kernel
theorem dX5_playing_0 : decode cX5_playing 0 = .ok (.iconst 0, 1) := by decide +kernel
theorem dX5_playing_1 : decode cX5_playing 1 = .ok (.istore_n 3, 1) := by decide +kernel
theorem dX5_playing_2 : decode cX5_playing 2 = .ok (.iconst 0, 1) := by decide +kernel
theorem dX5_playing_3 : decode cX5_playing 3 = .ok (.istore 4, 2) := by decide +kernel
theorem dX5_playing_5 : decode cX5_playing 5 = .ok (.iload 4, 2) := by decide +kernel
theorem dX5_playing_7 : decode cX5_playing 7 = .ok (.aload_n 0, 1) := by decide +kernel
theorem dX5_playing_8 : decode cX5_playing 8 = .ok (.getfield 63, 3) := by decide +kernel
theorem dX5_playing_11 : decode cX5_playing 11 = .ok (.if_icmp .ge 27, 3) := by decide +kernel
theorem dX5_playing_14 : decode cX5_playing 14 = .ok (.iload_n 3, 1) := by decide +kernel
theorem dX5_playing_15 : decode cX5_playing 15 = .ok (.aload_n 0, 1) := by decide +kernel
theorem dX5_playing_16 : decode cX5_playing 16 = .ok (.getfield 50, 3) := by decide +kernel
theorem dX5_playing_19 : decode cX5_playing 19 = .ok (.iload_n 1, 1) := by decide +kernel
theorem dX5_playing_20 : decode cX5_playing 20 = .ok (.iaload, 1) := by decide +kernel
theorem dX5_playing_21 : decode cX5_playing 21 = .ok (.iload 4, 2) := by decide +kernel
theorem dX5_playing_23 : decode cX5_playing 23 = .ok (.invokestatic 152, 3) := by decide +kernel
theorem dX5_playing_26 : decode cX5_playing 26 = .ok (.iload_n 2, 1) := by decide +kernel
theorem dX5_playing_27 : decode cX5_playing 27 = .ok (.ishr, 1) := by decide +kernel
theorem dX5_playing_28 : decode cX5_playing 28 = .ok (.iconst 1, 1) := by decide +kernel
theorem dX5_playing_29 : decode cX5_playing 29 = .ok (.iand, 1) := by decide +kernel
theorem dX5_playing_30 : decode cX5_playing 30 = .ok (.iadd, 1) := by decide +kernel
theorem dX5_playing_31 : decode cX5_playing 31 = .ok (.istore_n 3, 1) := by decide +kernel
theorem dX5_playing_32 : decode cX5_playing 32 = .ok (.iinc 4 1, 3) := by decide +kernel
theorem dX5_playing_35 : decode cX5_playing 35 = .ok (.goto (-30), 3) := by decide +kernel
theorem dX5_playing_38 : decode cX5_playing 38 = .ok (.iload_n 3, 1) := by decide +kernel
theorem dX5_playing_39 : decode cX5_playing 39 = .ok (.ireturn, 1) := by decide +kernel
theorem dX5_score_0 : decode cX5_score 0 = .ok (.iload_n 1, 1) := by decide +kernel
theorem dX5_score_1 : decode cX5_score 1 = .ok (.iconst 0, 1) := by decide +kernel
theorem dX5_score_2 : decode cX5_score 2 = .ok (.iconst 2, 1) := by decide +kernel
theorem dX5_score_3 : decode cX5_score 3 = .ok (.invokestatic 72, 3) := by decide +kernel
theorem dX5_score_6 : decode cX5_score 6 = .ok (.ifCond .ne 5, 3) := by decide +kernel
theorem dX5_score_9 : decode cX5_score 9 = .ok (.iconst (-1), 1) := by decide +kernel
theorem dX5_score_10 : decode cX5_score 10 = .ok (.ireturn, 1) := by decide +kernel
theorem dX5_score_11 : decode cX5_score 11 = .ok (.aload_n 0, 1) := by decide +kernel
theorem dX5_score_12 : decode cX5_score 12 = .ok (.invokevirtual 186, 3) := by decide +kernel
theorem dX5_score_15 : decode cX5_score 15 = .ok (.ifCond .ne 6, 3) := by decide +kernel
theorem dX5_score_18 : decode cX5_score 18 = .ok (.bipush (-9), 2) := by decide +kernel
theorem dX5_score_20 : decode cX5_score 20 = .ok (.ireturn, 1) := by decide +kernel
theorem dX5_score_21 : decode cX5_score 21 = .ok (.iconst 0, 1) := by decide +kernel
theorem dX5_score_22 : decode cX5_score 22 = .ok (.istore_n 2, 1) := by decide +kernel
theorem dX5_score_23 : decode cX5_score 23 = .ok (.iconst 0, 1) := by decide +kernel
theorem dX5_score_24 : decode cX5_score 24 = .ok (.istore_n 3, 1) := by decide +kernel
theorem dX5_score_25 : decode cX5_score 25 = .ok (.iconst 0, 1) := by decide +kernel
theorem dX5_score_26 : decode cX5_score 26 = .ok (.istore 4, 2) := by decide +kernel
theorem dX5_score_28 : decode cX5_score 28 = .ok (.iload 4, 2) := by decide +kernel
theorem dX5_score_30 : decode cX5_score 30 = .ok (.aload_n 0, 1) := by decide +kernel
theorem dX5_score_31 : decode cX5_score 31 = .ok (.getfield 13, 3) := by decide +kernel
theorem dX5_score_34 : decode cX5_score 34 = .ok (.iconst 0, 1) := by decide +kernel
theorem dX5_score_35 : decode cX5_score 35 = .ok (.iaload, 1) := by decide +kernel
theorem dX5_score_36 : decode cX5_score 36 = .ok (.if_icmp .ge 90, 3) := by decide +kernel
theorem dX5_score_39 : decode cX5_score 39 = .ok (.iconst 0, 1) := by decide +kernel
theorem dX5_score_40 : decode cX5_score 40 = .ok (.istore 5, 2) := by decide +kernel
theorem dX5_score_42 : decode cX5_score 42 = .ok (.iload 5, 2) := by decide +kernel
theorem dX5_score_44 : decode cX5_score 44 = .ok (.aload_n 0, 1) := by decide +kernel
theorem dX5_score_45 : decode cX5_score 45 = .ok (.getfield 63, 3) := by decide +kernel
theorem dX5_score_48 : decode cX5_score 48 = .ok (.if_icmp .ge 32, 3) := by decide +kernel
theorem dX5_score_51 : decode cX5_score 51 = .ok (.iload_n 2, 1) := by decide +kernel
theorem dX5_score_52 : decode cX5_score 52 = .ok (.aload_n 0, 1) := by decide +kernel
theorem dX5_score_53 : decode cX5_score 53 = .ok (.getfield 50, 3) := by decide +kernel
theorem dX5_score_56 : decode cX5_score 56 = .ok (.iload 4, 2) := by decide +kernel
theorem dX5_score_58 : decode cX5_score 58 = .ok (.iaload, 1) := by decide +kernel
theorem dX5_score_59 : decode cX5_score 59 = .ok (.iload 5, 2) := by decide +kernel
theorem dX5_score_61 : decode cX5_score 61 = .ok (.invokestatic 152, 3) := by decide +kernel
theorem dX5_score_64 : decode cX5_score 64 = .ok (.ifCond .ne 7, 3) := by decide +kernel
theorem dX5_score_67 : decode cX5_score 67 = .ok (.iconst 0, 1) := by decide +kernel
theorem dX5_score_68 : decode cX5_score 68 = .ok (.goto 4, 3) := by decide +kernel
theorem dX5_score_71 : decode cX5_score 71 = .ok (.iconst 1, 1) := by decide +kernel
theorem dX5_score_72 : decode cX5_score 72 = .ok (.iadd, 1) := by decide +kernel
theorem dX5_score_73 : decode cX5_score 73 = .ok (.istore_n 2, 1) := by decide +kernel
theorem dX5_score_74 : decode cX5_score 74 = .ok (.iinc 5 1, 3) := by decide +kernel
theorem dX5_score_77 : decode cX5_score 77 = .ok (.goto (-35), 3) := by decide +kernel
theorem dX5_score_80 : decode cX5_score 80 = .ok (.iconst 0, 1) := by decide +kernel
theorem dX5_score_81 : decode cX5_score 81 = .ok (.istore 5, 2) := by decide +kernel
theorem dX5_score_83 : decode cX5_score 83 = .ok (.iload 5, 2) := by decide +kernel
theorem dX5_score_85 : decode cX5_score 85 = .ok (.aload_n 0, 1) := by decide +kernel
theorem dX5_score_86 : decode cX5_score 86 = .ok (.iload 4, 2) := by decide +kernel
theorem dX5_score_88 : decode cX5_score 88 = .ok (.invokevirtual 127, 3) := by decide +kernel
theorem dX5_score_91 : decode cX5_score 91 = .ok (.if_icmp .ge 29, 3) := by decide +kernel
theorem dX5_score_94 : decode cX5_score 94 = .ok (.iload_n 3, 1) := by decide +kernel
theorem dX5_score_95 : decode cX5_score 95 = .ok (.aload_n 0, 1) := by decide +kernel
theorem dX5_score_96 : decode cX5_score 96 = .ok (.iload 4, 2) := by decide +kernel
theorem dX5_score_98 : decode cX5_score 98 = .ok (.iload 5, 2) := by decide +kernel
theorem dX5_score_100 : decode cX5_score 100 = .ok (.invokevirtual 189, 3) := by decide +kernel
theorem dX5_score_103 : decode cX5_score 103 = .ok (.iconst 1, 1) := by decide +kernel
theorem dX5_score_104 : decode cX5_score 104 = .ok (.if_icmp .le 7, 3) := by decide +kernel
theorem dX5_score_107 : decode cX5_score 107 = .ok (.iconst 1, 1) := by decide +kernel
theorem dX5_score_108 : decode cX5_score 108 = .ok (.goto 4, 3) := by decide +kernel
theorem dX5_score_111 : decode cX5_score 111 = .ok (.iconst 0, 1) := by decide +kernel
theorem dX5_score_112 : decode cX5_score 112 = .ok (.iadd, 1) := by decide +kernel
theorem dX5_score_113 : decode cX5_score 113 = .ok (.istore_n 3, 1) := by decide +kernel
theorem dX5_score_114 : decode cX5_score 114 = .ok (.iinc 5 1, 3) := by decide +kernel
theorem dX5_score_117 : decode cX5_score 117 = .ok (.goto (-34), 3) := by decide +kernel
theorem dX5_score_120 : decode cX5_score 120 = .ok (.iinc 4 1, 3) := by decide +kernel
theorem dX5_score_123 : decode cX5_score 123 = .ok (.goto (-95), 3) := by decide +kernel
theorem dX5_score_126 : decode cX5_score 126 = .ok (.iload_n 1, 1) := by decide +kernel
theorem dX5_score_127 : decode cX5_score 127 = .ok (.ifCond .ne 10, 3) := by decide +kernel
theorem dX5_score_130 : decode cX5_score 130 = .ok (.aload_n 0, 1) := by decide +kernel
theorem dX5_score_131 : decode cX5_score 131 = .ok (.getfield 183, 3) := by decide +kernel
theorem dX5_score_134 : decode cX5_score 134 = .ok (.goto 13, 3) := by decide +kernel
theorem dX5_score_137 : decode cX5_score 137 = .ok (.iload_n 1, 1) := by decide +kernel
theorem dX5_score_138 : decode cX5_score 138 = .ok (.iconst 1, 1) := by decide +kernel
theorem dX5_score_139 : decode cX5_score 139 = .ok (.if_icmp .ne 7, 3) := by decide +kernel
theorem dX5_score_142 : decode cX5_score 142 = .ok (.iload_n 2, 1) := by decide +kernel
theorem dX5_score_143 : decode cX5_score 143 = .ok (.goto 4, 3) := by decide +kernel
theorem dX5_score_146 : decode cX5_score 146 = .ok (.iload_n 3, 1) := by decide +kernel
theorem dX5_score_147 : decode cX5_score 147 = .ok (.ireturn, 1) := by decide +kernel
theorem dX5_hand_0 : decode cX5_hand 0 = .ok (.aload_n 0, 1) := by decide +kernel
theorem dX5_hand_1 : decode cX5_hand 1 = .ok (.iload_n 1, 1) := by decide +kernel
theorem dX5_hand_2 : decode cX5_hand 2 = .ok (.invokevirtual 124, 3) := by decide +kernel
theorem dX5_hand_5 : decode cX5_hand 5 = .ok (.ifCond .eq 11, 3) := by decide +kernel
theorem dX5_hand_8 : decode cX5_hand 8 = .ok (.aload_n 0, 1) := by decide +kernel
theorem dX5_hand_9 : decode cX5_hand 9 = .ok (.iload_n 2, 1) := by decide +kernel
theorem dX5_hand_10 : decode cX5_hand 10 = .ok (.invokevirtual 114, 3) := by decide +kernel
theorem dX5_hand_13 : decode cX5_hand 13 = .ok (.ifCond .ne 5, 3) := by decide +kernel
theorem dX5_hand_16 : decode cX5_hand 16 = .ok (.iconst (-1), 1) := by decide +kernel
theorem dX5_hand_17 : decode cX5_hand 17 = .ok (.ireturn, 1) := by decide +kernel
theorem dX5_hand_18 : decode cX5_hand 18 = .ok (.aload_n 0, 1) := by decide +kernel
theorem dX5_hand_19 : decode cX5_hand 19 = .ok (.invokevirtual 186, 3) := by decide +kernel
theorem dX5_hand_22 : decode cX5_hand 22 = .ok (.ifCond .eq 16, 3) := by decide +kernel
theorem dX5_hand_25 : decode cX5_hand 25 = .ok (.aload_n 0, 1) := by decide +kernel
theorem dX5_hand_26 : decode cX5_hand 26 = .ok (.getfield 50, 3) := by decide +kernel
theorem dX5_hand_29 : decode cX5_hand 29 = .ok (.iload_n 1, 1) := by decide +kernel
theorem dX5_hand_30 : decode cX5_hand 30 = .ok (.iaload, 1) := by decide +kernel
theorem dX5_hand_31 : decode cX5_hand 31 = .ok (.iload_n 2, 1) := by decide +kernel
theorem dX5_hand_32 : decode cX5_hand 32 = .ok (.invokestatic 152, 3) := by decide +kernel
theorem dX5_hand_35 : decode cX5_hand 35 = .ok (.goto 5, 3) := by decide +kernel
theorem dX5_hand_38 : decode cX5_hand 38 = .ok (.bipush (-9), 2) := by decide +kernel
theorem dX5_hand_40 : decode cX5_hand 40 = .ok (.ireturn, 1) := by decide +kernel
theorem dX5_loud_0 : decode cX5_loud 0 = .ok (.aload_n 0, 1) := by decide +kernel
theorem dX5_loud_1 : decode cX5_loud 1 = .ok (.iload_n 1, 1) := by decide +kernel
theorem dX5_loud_2 : decode cX5_loud 2 = .ok (.invokevirtual 124, 3) := by decide +kernel
theorem dX5_loud_5 : decode cX5_loud 5 = .ok (.ifCond .eq 18, 3) := by decide +kernel
theorem dX5_loud_8 : decode cX5_loud 8 = .ok (.iload_n 2, 1) := by decide +kernel
theorem dX5_loud_9 : decode cX5_loud 9 = .ok (.iconst 0, 1) := by decide +kernel
theorem dX5_loud_10 : decode cX5_loud 10 = .ok (.aload_n 0, 1) := by decide +kernel
theorem dX5_loud_11 : decode cX5_loud 11 = .ok (.iload_n 1, 1) := by decide +kernel
theorem dX5_loud_12 : decode cX5_loud 12 = .ok (.invokevirtual 127, 3) := by decide +kernel
theorem dX5_loud_15 : decode cX5_loud 15 = .ok (.iconst 1, 1) := by decide +kernel
theorem dX5_loud_16 : decode cX5_loud 16 = .ok (.isub, 1) := by decide +kernel
theorem dX5_loud_17 : decode cX5_loud 17 = .ok (.invokestatic 72, 3) := by decide +kernel
theorem dX5_loud_20 : decode cX5_loud 20 = .ok (.ifCond .ne 5, 3) := by decide +kernel
theorem dX5_loud_23 : decode cX5_loud 23 = .ok (.iconst (-1), 1) := by decide +kernel
theorem dX5_loud_24 : decode cX5_loud 24 = .ok (.ireturn, 1) := by decide +kernel
theorem dX5_loud_25 : decode cX5_loud 25 = .ok (.aload_n 0, 1) := by decide +kernel
theorem dX5_loud_26 : decode cX5_loud 26 = .ok (.invokevirtual 186, 3) := by decide +kernel
theorem dX5_loud_29 : decode cX5_loud 29 = .ok (.ifCond .eq 17, 3) := by decide +kernel
theorem dX5_loud_32 : decode cX5_loud 32 = .ok (.aload_n 0, 1) := by decide +kernel
theorem dX5_loud_33 : decode cX5_loud 33 = .ok (.aload_n 0, 1) := by decide +kernel
theorem dX5_loud_34 : decode cX5_loud 34 = .ok (.getfield 50, 3) := by decide +kernel
theorem dX5_loud_37 : decode cX5_loud 37 = .ok (.iload_n 1, 1) := by decide +kernel
theorem dX5_loud_38 : decode cX5_loud 38 = .ok (.iaload, 1) := by decide +kernel
theorem dX5_loud_39 : decode cX5_loud 39 = .ok (.iload_n 2, 1) := by decide +kernel
theorem dX5_loud_40 : decode cX5_loud 40 = .ok (.invokevirtual 156, 3) := by decide +kernel
theorem dX5_loud_43 : decode cX5_loud 43 = .ok (.goto 5, 3) := by decide +kernel
theorem dX5_loud_46 : decode cX5_loud 46 = .ok (.bipush (-9), 2) := by decide +kernel
theorem dX5_loud_48 : decode cX5_loud 48 = .ok (.ireturn, 1) := by decide +kernel
theorem dX5_couldRest_0 : decode cX5_couldRest 0 = .ok (.aload_n 0, 1) := by decide +kernel
theorem dX5_couldRest_1 : decode cX5_couldRest 1 = .ok (.iload_n 1, 1) := by decide +kernel
theorem dX5_couldRest_2 : decode cX5_couldRest 2 = .ok (.invokevirtual 124, 3) := by decide +kernel
theorem dX5_couldRest_5 : decode cX5_couldRest 5 = .ok (.ifCond .ne 5, 3) := by decide +kernel
theorem dX5_couldRest_8 : decode cX5_couldRest 8 = .ok (.iconst (-1), 1) := by decide +kernel
theorem dX5_couldRest_9 : decode cX5_couldRest 9 = .ok (.ireturn, 1) := by decide +kernel
theorem dX5_couldRest_10 : decode cX5_couldRest 10 = .ok (.aload_n 0, 1) := by decide +kernel
theorem dX5_couldRest_11 : decode cX5_couldRest 11 = .ok (.invokevirtual 186, 3) := by decide +kernel
theorem dX5_couldRest_14 : decode cX5_couldRest 14 = .ok (.ifCond .ne 6, 3) := by decide +kernel
theorem dX5_couldRest_17 : decode cX5_couldRest 17 = .ok (.bipush (-9), 2) := by decide +kernel
theorem dX5_couldRest_19 : decode cX5_couldRest 19 = .ok (.ireturn, 1) := by decide +kernel
theorem dX5_couldRest_20 : decode cX5_couldRest 20 = .ok (.iconst 0, 1) := by decide +kernel
theorem dX5_couldRest_21 : decode cX5_couldRest 21 = .ok (.istore_n 2, 1) := by decide +kernel
theorem dX5_couldRest_22 : decode cX5_couldRest 22 = .ok (.iconst 0, 1) := by decide +kernel
theorem dX5_couldRest_23 : decode cX5_couldRest 23 = .ok (.istore_n 3, 1) := by decide +kernel
theorem dX5_couldRest_24 : decode cX5_couldRest 24 = .ok (.iload_n 3, 1) := by decide +kernel
theorem dX5_couldRest_25 : decode cX5_couldRest 25 = .ok (.aload_n 0, 1) := by decide +kernel
theorem dX5_couldRest_26 : decode cX5_couldRest 26 = .ok (.getfield 63, 3) := by decide +kernel
theorem dX5_couldRest_29 : decode cX5_couldRest 29 = .ok (.if_icmp .ge 66, 3) := by decide +kernel
theorem dX5_couldRest_32 : decode cX5_couldRest 32 = .ok (.aload_n 0, 1) := by decide +kernel
theorem dX5_couldRest_33 : decode cX5_couldRest 33 = .ok (.getfield 50, 3) := by decide +kernel
theorem dX5_couldRest_36 : decode cX5_couldRest 36 = .ok (.iload_n 1, 1) := by decide +kernel
theorem dX5_couldRest_37 : decode cX5_couldRest 37 = .ok (.iaload, 1) := by decide +kernel
theorem dX5_couldRest_38 : decode cX5_couldRest 38 = .ok (.bipush 7, 2) := by decide +kernel
theorem dX5_couldRest_40 : decode cX5_couldRest 40 = .ok (.iconst 3, 1) := by decide +kernel
theorem dX5_couldRest_41 : decode cX5_couldRest 41 = .ok (.iconst 3, 1) := by decide +kernel
theorem dX5_couldRest_42 : decode cX5_couldRest 42 = .ok (.iload_n 3, 1) := by decide +kernel
theorem dX5_couldRest_43 : decode cX5_couldRest 43 = .ok (.isub, 1) := by decide +kernel
theorem dX5_couldRest_44 : decode cX5_couldRest 44 = .ok (.imul, 1) := by decide +kernel
theorem dX5_couldRest_45 : decode cX5_couldRest 45 = .ok (.ishl, 1) := by decide +kernel
theorem dX5_couldRest_46 : decode cX5_couldRest 46 = .ok (.iconst (-1), 1) := by decide +kernel
theorem dX5_couldRest_47 : decode cX5_couldRest 47 = .ok (.ixor, 1) := by decide +kernel
theorem dX5_couldRest_48 : decode cX5_couldRest 48 = .ok (.iand, 1) := by decide +kernel
theorem dX5_couldRest_49 : decode cX5_couldRest 49 = .ok (.istore 4, 2) := by decide +kernel
theorem dX5_couldRest_51 : decode cX5_couldRest 51 = .ok (.iload_n 2, 1) := by decide +kernel
theorem dX5_couldRest_52 : decode cX5_couldRest 52 = .ok (.iload 4, 2) := by decide +kernel
theorem dX5_couldRest_54 : decode cX5_couldRest 54 = .ok (.aload_n 0, 1) := by decide +kernel
theorem dX5_couldRest_55 : decode cX5_couldRest 55 = .ok (.getfield 50, 3) := by decide +kernel
theorem dX5_couldRest_58 : decode cX5_couldRest 58 = .ok (.iload_n 1, 1) := by decide +kernel
theorem dX5_couldRest_59 : decode cX5_couldRest 59 = .ok (.iaload, 1) := by decide +kernel
theorem dX5_couldRest_60 : decode cX5_couldRest 60 = .ok (.if_icmp .eq 26, 3) := by decide +kernel
theorem dX5_couldRest_63 : decode cX5_couldRest 63 = .ok (.aload_n 0, 1) := by decide +kernel
theorem dX5_couldRest_64 : decode cX5_couldRest 64 = .ok (.iload_n 1, 1) := by decide +kernel
theorem dX5_couldRest_65 : decode cX5_couldRest 65 = .ok (.iload 4, 2) := by decide +kernel
theorem dX5_couldRest_67 : decode cX5_couldRest 67 = .ok (.aload_n 0, 1) := by decide +kernel
theorem dX5_couldRest_68 : decode cX5_couldRest 68 = .ok (.getfield 13, 3) := by decide +kernel
theorem dX5_couldRest_71 : decode cX5_couldRest 71 = .ok (.bipush 35, 2) := by decide +kernel
theorem dX5_couldRest_73 : decode cX5_couldRest 73 = .ok (.iaload, 1) := by decide +kernel
theorem dX5_couldRest_74 : decode cX5_couldRest 74 = .ok (.invokevirtual 159, 3) := by decide +kernel
theorem dX5_couldRest_77 : decode cX5_couldRest 77 = .ok (.ifCond .eq 9, 3) := by decide +kernel
theorem dX5_couldRest_80 : decode cX5_couldRest 80 = .ok (.iconst 1, 1) := by decide +kernel
theorem dX5_couldRest_81 : decode cX5_couldRest 81 = .ok (.iload_n 3, 1) := by decide +kernel
theorem dX5_couldRest_82 : decode cX5_couldRest 82 = .ok (.ishl, 1) := by decide +kernel
theorem dX5_couldRest_83 : decode cX5_couldRest 83 = .ok (.goto 4, 3) := by decide +kernel
theorem dX5_couldRest_86 : decode cX5_couldRest 86 = .ok (.iconst 0, 1) := by decide +kernel
theorem dX5_couldRest_87 : decode cX5_couldRest 87 = .ok (.ior, 1) := by decide +kernel
theorem dX5_couldRest_88 : decode cX5_couldRest 88 = .ok (.istore_n 2, 1) := by decide +kernel
theorem dX5_couldRest_89 : decode cX5_couldRest 89 = .ok (.iinc 3 1, 3) := by decide +kernel
theorem dX5_couldRest_92 : decode cX5_couldRest 92 = .ok (.goto (-68), 3) := by decide +kernel
theorem dX5_couldRest_95 : decode cX5_couldRest 95 = .ok (.iload_n 2, 1) := by decide +kernel
theorem dX5_couldRest_96 : decode cX5_couldRest 96 = .ok (.ireturn, 1) := by decide +kernel
theorem dX5_move_0 : decode cX5_move 0 = .ok (.aload_n 0, 1) := by decide +kernel
theorem dX5_move_1 : decode cX5_move 1 = .ok (.iload_n 1, 1) := by decide +kernel
theorem dX5_move_2 : decode cX5_move 2 = .ok (.invokevirtual 124, 3) := by decide +kernel
theorem dX5_move_5 : decode cX5_move 5 = .ok (.ifCond .eq 21, 3) := by decide +kernel
theorem dX5_move_8 : decode cX5_move 8 = .ok (.aload_n 0, 1) := by decide +kernel
theorem dX5_move_9 : decode cX5_move 9 = .ok (.iload_n 1, 1) := by decide +kernel
theorem dX5_move_10 : decode cX5_move 10 = .ok (.iconst 1, 1) := by decide +kernel
theorem dX5_move_11 : decode cX5_move 11 = .ok (.iadd, 1) := by decide +kernel
theorem dX5_move_12 : decode cX5_move 12 = .ok (.invokevirtual 124, 3) := by decide +kernel
theorem dX5_move_15 : decode cX5_move 15 = .ok (.ifCond .eq 11, 3) := by decide +kernel
theorem dX5_move_18 : decode cX5_move 18 = .ok (.aload_n 0, 1) := by decide +kernel
theorem dX5_move_19 : decode cX5_move 19 = .ok (.iload_n 2, 1) := by decide +kernel
theorem dX5_move_20 : decode cX5_move 20 = .ok (.invokevirtual 114, 3) := by decide +kernel
theorem dX5_move_23 : decode cX5_move 23 = .ok (.ifCond .ne 5, 3) := by decide +kernel
theorem dX5_move_26 : decode cX5_move 26 = .ok (.iconst (-1), 1) := by decide +kernel
theorem dX5_move_27 : decode cX5_move 27 = .ok (.ireturn, 1) := by decide +kernel
theorem dX5_move_28 : decode cX5_move 28 = .ok (.aload_n 0, 1) := by decide +kernel
theorem dX5_move_29 : decode cX5_move 29 = .ok (.invokevirtual 186, 3) := by decide +kernel
theorem dX5_move_32 : decode cX5_move 32 = .ok (.ifCond .eq 33, 3) := by decide +kernel
theorem dX5_move_35 : decode cX5_move 35 = .ok (.aload_n 0, 1) := by decide +kernel
theorem dX5_move_36 : decode cX5_move 36 = .ok (.iload_n 1, 1) := by decide +kernel
theorem dX5_move_37 : decode cX5_move 37 = .ok (.aload_n 0, 1) := by decide +kernel
theorem dX5_move_38 : decode cX5_move 38 = .ok (.getfield 50, 3) := by decide +kernel
theorem dX5_move_41 : decode cX5_move 41 = .ok (.iload_n 1, 1) := by decide +kernel
theorem dX5_move_42 : decode cX5_move 42 = .ok (.iaload, 1) := by decide +kernel
theorem dX5_move_43 : decode cX5_move 43 = .ok (.iload_n 2, 1) := by decide +kernel
theorem dX5_move_44 : decode cX5_move 44 = .ok (.invokestatic 152, 3) := by decide +kernel
theorem dX5_move_47 : decode cX5_move 47 = .ok (.aload_n 0, 1) := by decide +kernel
theorem dX5_move_48 : decode cX5_move 48 = .ok (.getfield 50, 3) := by decide +kernel
theorem dX5_move_51 : decode cX5_move 51 = .ok (.iload_n 1, 1) := by decide +kernel
theorem dX5_move_52 : decode cX5_move 52 = .ok (.iconst 1, 1) := by decide +kernel
theorem dX5_move_53 : decode cX5_move 53 = .ok (.iadd, 1) := by decide +kernel
theorem dX5_move_54 : decode cX5_move 54 = .ok (.iaload, 1) := by decide +kernel
theorem dX5_move_55 : decode cX5_move 55 = .ok (.iload_n 2, 1) := by decide +kernel
theorem dX5_move_56 : decode cX5_move 56 = .ok (.invokestatic 152, 3) := by decide +kernel
theorem dX5_move_59 : decode cX5_move 59 = .ok (.invokevirtual 170, 3) := by decide +kernel
theorem dX5_move_62 : decode cX5_move 62 = .ok (.goto 5, 3) := by decide +kernel
theorem dX5_move_65 : decode cX5_move 65 = .ok (.bipush (-9), 2) := by decide +kernel
theorem dX5_move_67 : decode cX5_move 67 = .ok (.ireturn, 1) := by decide +kernel
theorem dX5_reach_0 : decode cX5_reach 0 = .ok (.aload_n 0, 1) := by decide +kernel
theorem dX5_reach_1 : decode cX5_reach 1 = .ok (.getfield 13, 3) := by decide +kernel
theorem dX5_reach_4 : decode cX5_reach 4 = .ok (.iconst 0, 1) := by decide +kernel
theorem dX5_reach_5 : decode cX5_reach 5 = .ok (.iaload, 1) := by decide +kernel
theorem dX5_reach_6 : decode cX5_reach 6 = .ok (.istore_n 1, 1) := by decide +kernel
theorem dX5_reach_7 : decode cX5_reach 7 = .ok (.aload_n 0, 1) := by decide +kernel
theorem dX5_reach_8 : decode cX5_reach 8 = .ok (.aload_n 0, 1) := by decide +kernel
theorem dX5_reach_9 : decode cX5_reach 9 = .ok (.getfield 13, 3) := by decide +kernel
theorem dX5_reach_12 : decode cX5_reach 12 = .ok (.bipush 33, 2) := by decide +kernel
theorem dX5_reach_14 : decode cX5_reach 14 = .ok (.iaload, 1) := by decide +kernel
theorem dX5_reach_15 : decode cX5_reach 15 = .ok (.aload_n 0, 1) := by decide +kernel
theorem dX5_reach_16 : decode cX5_reach 16 = .ok (.getfield 13, 3) := by decide +kernel
theorem dX5_reach_19 : decode cX5_reach 19 = .ok (.bipush 35, 2) := by decide +kernel
theorem dX5_reach_21 : decode cX5_reach 21 = .ok (.iaload, 1) := by decide +kernel
theorem dX5_reach_22 : decode cX5_reach 22 = .ok (.iload_n 1, 1) := by decide +kernel
theorem dX5_reach_23 : decode cX5_reach 23 = .ok (.invokevirtual 180, 3) := by decide +kernel
theorem dX5_reach_26 : decode cX5_reach 26 = .ok (.ldc 155, 2) := by decide +kernel
theorem dX5_reach_28 : decode cX5_reach 28 = .ok (.if_icmp .ne 9, 3) := by decide +kernel
theorem dX5_reach_31 : decode cX5_reach 31 = .ok (.iinc 1 (-1), 3) := by decide +kernel
theorem dX5_reach_34 : decode cX5_reach 34 = .ok (.goto (-27), 3) := by decide +kernel
theorem dX5_reach_37 : decode cX5_reach 37 = .ok (.iload_n 1, 1) := by decide +kernel
theorem dX5_reach_38 : decode cX5_reach 38 = .ok (.ireturn, 1) := by decide +kernel
theorem dX5_bits_0 : decode cX5_bits 0 = .ok (.iload_n 0, 1) := by decide +kernel
theorem dX5_bits_1 : decode cX5_bits 1 = .ok (.invokestatic 146, 3) := by decide +kernel
theorem dX5_bits_4 : decode cX5_bits 4 = .ok (.iload_n 0, 1) := by decide +kernel
theorem dX5_bits_5 : decode cX5_bits 5 = .ok (.iconst 3, 1) := by decide +kernel
theorem dX5_bits_6 : decode cX5_bits 6 = .ok (.ishr, 1) := by decide +kernel
theorem dX5_bits_7 : decode cX5_bits 7 = .ok (.iconst 1, 1) := by decide +kernel
theorem dX5_bits_8 : decode cX5_bits 8 = .ok (.iand, 1) := by decide +kernel
theorem dX5_bits_9 : decode cX5_bits 9 = .ok (.iadd, 1) := by decide +kernel
theorem dX5_bits_10 : decode cX5_bits 10 = .ok (.ireturn, 1) := by decide +kernel
theorem dX5_fewest_0 : decode cX5_fewest 0 = .ok (.iconst 0, 1) := by decide +kernel
theorem dX5_fewest_1 : decode cX5_fewest 1 = .ok (.istore_n 1, 1) := by decide +kernel
theorem dX5_fewest_2 : decode cX5_fewest 2 = .ok (.iload_n 1, 1) := by decide +kernel
theorem dX5_fewest_3 : decode cX5_fewest 3 = .ok (.aload_n 0, 1) := by decide +kernel
theorem dX5_fewest_4 : decode cX5_fewest 4 = .ok (.getfield 63, 3) := by decide +kernel
theorem dX5_fewest_7 : decode cX5_fewest 7 = .ok (.if_icmp .gt 60, 3) := by decide +kernel
theorem dX5_fewest_10 : decode cX5_fewest 10 = .ok (.iconst 0, 1) := by decide +kernel
theorem dX5_fewest_11 : decode cX5_fewest 11 = .ok (.istore_n 2, 1) := by decide +kernel
theorem dX5_fewest_12 : decode cX5_fewest 12 = .ok (.iload_n 2, 1) := by decide +kernel
theorem dX5_fewest_13 : decode cX5_fewest 13 = .ok (.iconst 1, 1) := by decide +kernel
theorem dX5_fewest_14 : decode cX5_fewest 14 = .ok (.aload_n 0, 1) := by decide +kernel
theorem dX5_fewest_15 : decode cX5_fewest 15 = .ok (.getfield 63, 3) := by decide +kernel
theorem dX5_fewest_18 : decode cX5_fewest 18 = .ok (.ishl, 1) := by decide +kernel
theorem dX5_fewest_19 : decode cX5_fewest 19 = .ok (.if_icmp .ge 42, 3) := by decide +kernel
theorem dX5_fewest_22 : decode cX5_fewest 22 = .ok (.iload_n 2, 1) := by decide +kernel
theorem dX5_fewest_23 : decode cX5_fewest 23 = .ok (.invokestatic 192, 3) := by decide +kernel
theorem dX5_fewest_26 : decode cX5_fewest 26 = .ok (.iload_n 1, 1) := by decide +kernel
theorem dX5_fewest_27 : decode cX5_fewest 27 = .ok (.if_icmp .ne 28, 3) := by decide +kernel
theorem dX5_fewest_30 : decode cX5_fewest 30 = .ok (.aload_n 0, 1) := by decide +kernel
theorem dX5_fewest_31 : decode cX5_fewest 31 = .ok (.iload_n 2, 1) := by decide +kernel
theorem dX5_fewest_32 : decode cX5_fewest 32 = .ok (.aload_n 0, 1) := by decide +kernel
theorem dX5_fewest_33 : decode cX5_fewest 33 = .ok (.getfield 13, 3) := by decide +kernel
theorem dX5_fewest_36 : decode cX5_fewest 36 = .ok (.bipush 35, 2) := by decide +kernel
theorem dX5_fewest_38 : decode cX5_fewest 38 = .ok (.iaload, 1) := by decide +kernel
theorem dX5_fewest_39 : decode cX5_fewest 39 = .ok (.aload_n 0, 1) := by decide +kernel
theorem dX5_fewest_40 : decode cX5_fewest 40 = .ok (.getfield 13, 3) := by decide +kernel
theorem dX5_fewest_43 : decode cX5_fewest 43 = .ok (.iconst 0, 1) := by decide +kernel
theorem dX5_fewest_44 : decode cX5_fewest 44 = .ok (.iaload, 1) := by decide +kernel
theorem dX5_fewest_45 : decode cX5_fewest 45 = .ok (.invokevirtual 180, 3) := by decide +kernel
theorem dX5_fewest_48 : decode cX5_fewest 48 = .ok (.ldc 155, 2) := by decide +kernel
theorem dX5_fewest_50 : decode cX5_fewest 50 = .ok (.if_icmp .eq 5, 3) := by decide +kernel
theorem dX5_fewest_53 : decode cX5_fewest 53 = .ok (.iload_n 2, 1) := by decide +kernel
theorem dX5_fewest_54 : decode cX5_fewest 54 = .ok (.ireturn, 1) := by decide +kernel
theorem dX5_fewest_55 : decode cX5_fewest 55 = .ok (.iinc 2 1, 3) := by decide +kernel
theorem dX5_fewest_58 : decode cX5_fewest 58 = .ok (.goto (-46), 3) := by decide +kernel
theorem dX5_fewest_61 : decode cX5_fewest 61 = .ok (.iinc 1 1, 3) := by decide +kernel
theorem dX5_fewest_64 : decode cX5_fewest 64 = .ok (.goto (-62), 3) := by decide +kernel
theorem dX5_fewest_67 : decode cX5_fewest 67 = .ok (.bipush (-9), 2) := by decide +kernel
theorem dX5_fewest_69 : decode cX5_fewest 69 = .ok (.ireturn, 1) := by decide +kernel
theorem dX5_bear_0 : decode cX5_bear 0 = .ok (.iconst 0, 1) := by decide +kernel
theorem dX5_bear_1 : decode cX5_bear 1 = .ok (.istore_n 1, 1) := by decide +kernel
theorem dX5_bear_2 : decode cX5_bear 2 = .ok (.iload_n 1, 1) := by decide +kernel
theorem dX5_bear_3 : decode cX5_bear 3 = .ok (.bipush 30, 2) := by decide +kernel
theorem dX5_bear_5 : decode cX5_bear 5 = .ok (.if_icmp .gt 34, 3) := by decide +kernel
theorem dX5_bear_8 : decode cX5_bear 8 = .ok (.aload_n 0, 1) := by decide +kernel
theorem dX5_bear_9 : decode cX5_bear 9 = .ok (.aload_n 0, 1) := by decide +kernel
theorem dX5_bear_10 : decode cX5_bear 10 = .ok (.getfield 13, 3) := by decide +kernel
theorem dX5_bear_13 : decode cX5_bear 13 = .ok (.bipush 33, 2) := by decide +kernel
theorem dX5_bear_15 : decode cX5_bear 15 = .ok (.iaload, 1) := by decide +kernel
theorem dX5_bear_16 : decode cX5_bear 16 = .ok (.iload_n 1, 1) := by decide +kernel
theorem dX5_bear_17 : decode cX5_bear 17 = .ok (.aload_n 0, 1) := by decide +kernel
theorem dX5_bear_18 : decode cX5_bear 18 = .ok (.getfield 13, 3) := by decide +kernel
theorem dX5_bear_21 : decode cX5_bear 21 = .ok (.iconst 0, 1) := by decide +kernel
theorem dX5_bear_22 : decode cX5_bear 22 = .ok (.iaload, 1) := by decide +kernel
theorem dX5_bear_23 : decode cX5_bear 23 = .ok (.invokevirtual 180, 3) := by decide +kernel
theorem dX5_bear_26 : decode cX5_bear 26 = .ok (.ldc 155, 2) := by decide +kernel
theorem dX5_bear_28 : decode cX5_bear 28 = .ok (.if_icmp .eq 5, 3) := by decide +kernel
theorem dX5_bear_31 : decode cX5_bear 31 = .ok (.iload_n 1, 1) := by decide +kernel
theorem dX5_bear_32 : decode cX5_bear 32 = .ok (.ireturn, 1) := by decide +kernel
theorem dX5_bear_33 : decode cX5_bear 33 = .ok (.iinc 1 1, 3) := by decide +kernel
theorem dX5_bear_36 : decode cX5_bear 36 = .ok (.goto (-34), 3) := by decide +kernel
theorem dX5_bear_39 : decode cX5_bear 39 = .ok (.bipush (-9), 2) := by decide +kernel
theorem dX5_bear_41 : decode cX5_bear 41 = .ok (.ireturn, 1) := by decide +kernel
theorem dX5_hears_0 : decode cX5_hears 0 = .ok (.aload_n 0, 1) := by decide +kernel
theorem dX5_hears_1 : decode cX5_hears 1 = .ok (.iload_n 1, 1) := by decide +kernel
theorem dX5_hears_2 : decode cX5_hears 2 = .ok (.invokevirtual 124, 3) := by decide +kernel
theorem dX5_hears_5 : decode cX5_hears 5 = .ok (.ifCond .eq 12, 3) := by decide +kernel
theorem dX5_hears_8 : decode cX5_hears 8 = .ok (.iload_n 2, 1) := by decide +kernel
theorem dX5_hears_9 : decode cX5_hears 9 = .ok (.iconst 0, 1) := by decide +kernel
theorem dX5_hears_10 : decode cX5_hears 10 = .ok (.iconst 1, 1) := by decide +kernel
theorem dX5_hears_11 : decode cX5_hears 11 = .ok (.invokestatic 72, 3) := by decide +kernel
theorem dX5_hears_14 : decode cX5_hears 14 = .ok (.ifCond .ne 5, 3) := by decide +kernel
theorem dX5_hears_17 : decode cX5_hears 17 = .ok (.iconst (-1), 1) := by decide +kernel
theorem dX5_hears_18 : decode cX5_hears 18 = .ok (.ireturn, 1) := by decide +kernel
theorem dX5_hears_19 : decode cX5_hears 19 = .ok (.aload_n 0, 1) := by decide +kernel
theorem dX5_hears_20 : decode cX5_hears 20 = .ok (.getfield 69, 3) := by decide +kernel
theorem dX5_hears_23 : decode cX5_hears 23 = .ok (.bipush 6, 2) := by decide +kernel
theorem dX5_hears_25 : decode cX5_hears 25 = .ok (.if_icmp .ne 6, 3) := by decide +kernel
theorem dX5_hears_28 : decode cX5_hears 28 = .ok (.bipush (-3), 2) := by decide +kernel
theorem dX5_hears_30 : decode cX5_hears 30 = .ok (.ireturn, 1) := by decide +kernel
theorem dX5_hears_31 : decode cX5_hears 31 = .ok (.aload_n 0, 1) := by decide +kernel
theorem dX5_hears_32 : decode cX5_hears 32 = .ok (.getfield 26, 3) := by decide +kernel
theorem dX5_hears_35 : decode cX5_hears 35 = .ok (.aload_n 0, 1) := by decide +kernel
theorem dX5_hears_36 : decode cX5_hears 36 = .ok (.getfield 69, 3) := by decide +kernel
theorem dX5_hears_39 : decode cX5_hears 39 = .ok (.iload_n 1, 1) := by decide +kernel
theorem dX5_hears_40 : decode cX5_hears 40 = .ok (.iastore, 1) := by decide +kernel
theorem dX5_hears_41 : decode cX5_hears 41 = .ok (.aload_n 0, 1) := by decide +kernel
theorem dX5_hears_42 : decode cX5_hears 42 = .ok (.getfield 29, 3) := by decide +kernel
theorem dX5_hears_45 : decode cX5_hears 45 = .ok (.aload_n 0, 1) := by decide +kernel
theorem dX5_hears_46 : decode cX5_hears 46 = .ok (.getfield 69, 3) := by decide +kernel
theorem dX5_hears_49 : decode cX5_hears 49 = .ok (.iload_n 2, 1) := by decide +kernel
theorem dX5_hears_50 : decode cX5_hears 50 = .ok (.iastore, 1) := by decide +kernel
theorem dX5_hears_51 : decode cX5_hears 51 = .ok (.aload_n 0, 1) := by decide +kernel
theorem dX5_hears_52 : decode cX5_hears 52 = .ok (.dup, 1) := by decide +kernel
theorem dX5_hears_53 : decode cX5_hears 53 = .ok (.getfield 69, 3) := by decide +kernel
theorem dX5_hears_56 : decode cX5_hears 56 = .ok (.iconst 1, 1) := by decide +kernel
theorem dX5_hears_57 : decode cX5_hears 57 = .ok (.iadd, 1) := by decide +kernel
theorem dX5_hears_58 : decode cX5_hears 58 = .ok (.putfield 69, 3) := by decide +kernel
theorem dX5_hears_61 : decode cX5_hears 61 = .ok (.aload_n 0, 1) := by decide +kernel
theorem dX5_hears_62 : decode cX5_hears 62 = .ok (.getfield 69, 3) := by decide +kernel
theorem dX5_hears_65 : decode cX5_hears 65 = .ok (.ireturn, 1) := by decide +kernel
theorem dX5_forget_0 : decode cX5_forget 0 = .ok (.aload_n 0, 1) := by decide +kernel
theorem dX5_forget_1 : decode cX5_forget 1 = .ok (.getfield 69, 3) := by decide +kernel
theorem dX5_forget_4 : decode cX5_forget 4 = .ok (.istore_n 1, 1) := by decide +kernel
theorem dX5_forget_5 : decode cX5_forget 5 = .ok (.aload_n 0, 1) := by decide +kernel
theorem dX5_forget_6 : decode cX5_forget 6 = .ok (.iconst 0, 1) := by decide +kernel
theorem dX5_forget_7 : decode cX5_forget 7 = .ok (.putfield 69, 3) := by decide +kernel
theorem dX5_forget_10 : decode cX5_forget 10 = .ok (.iload_n 1, 1) := by decide +kernel
theorem dX5_forget_11 : decode cX5_forget 11 = .ok (.ireturn, 1) := by decide +kernel
theorem dX5_ill_0 : decode cX5_ill 0 = .ok (.iconst 0, 1) := by decide +kernel
theorem dX5_ill_1 : decode cX5_ill 1 = .ok (.istore_n 1, 1) := by decide +kernel
theorem dX5_ill_2 : decode cX5_ill 2 = .ok (.iconst 0, 1) := by decide +kernel
theorem dX5_ill_3 : decode cX5_ill 3 = .ok (.istore_n 2, 1) := by decide +kernel
theorem dX5_ill_4 : decode cX5_ill 4 = .ok (.iload_n 2, 1) := by decide +kernel
theorem dX5_ill_5 : decode cX5_ill 5 = .ok (.aload_n 0, 1) := by decide +kernel
theorem dX5_ill_6 : decode cX5_ill 6 = .ok (.getfield 63, 3) := by decide +kernel
theorem dX5_ill_9 : decode cX5_ill 9 = .ok (.if_icmp .ge 141, 3) := by decide +kernel
theorem dX5_ill_12 : decode cX5_ill 12 = .ok (.aload_n 0, 1) := by decide +kernel
theorem dX5_ill_13 : decode cX5_ill 13 = .ok (.iload_n 2, 1) := by decide +kernel
theorem dX5_ill_14 : decode cX5_ill 14 = .ok (.invokevirtual 117, 3) := by decide +kernel
theorem dX5_ill_17 : decode cX5_ill 17 = .ok (.istore_n 3, 1) := by decide +kernel
theorem dX5_ill_18 : decode cX5_ill 18 = .ok (.iconst 0, 1) := by decide +kernel
theorem dX5_ill_19 : decode cX5_ill 19 = .ok (.istore 4, 2) := by decide +kernel
theorem dX5_ill_21 : decode cX5_ill 21 = .ok (.iload 4, 2) := by decide +kernel
theorem dX5_ill_23 : decode cX5_ill 23 = .ok (.aload_n 0, 1) := by decide +kernel
theorem dX5_ill_24 : decode cX5_ill 24 = .ok (.getfield 69, 3) := by decide +kernel
theorem dX5_ill_27 : decode cX5_ill 27 = .ok (.if_icmp .ge 103, 3) := by decide +kernel
theorem dX5_ill_30 : decode cX5_ill 30 = .ok (.iload_n 3, 1) := by decide +kernel
theorem dX5_ill_31 : decode cX5_ill 31 = .ok (.ifCond .eq 99, 3) := by decide +kernel
theorem dX5_ill_34 : decode cX5_ill 34 = .ok (.aload_n 0, 1) := by decide +kernel
theorem dX5_ill_35 : decode cX5_ill 35 = .ok (.aload_n 0, 1) := by decide +kernel
theorem dX5_ill_36 : decode cX5_ill 36 = .ok (.getfield 26, 3) := by decide +kernel
theorem dX5_ill_39 : decode cX5_ill 39 = .ok (.iload 4, 2) := by decide +kernel
theorem dX5_ill_41 : decode cX5_ill 41 = .ok (.iaload, 1) := by decide +kernel
theorem dX5_ill_42 : decode cX5_ill 42 = .ok (.invokevirtual 124, 3) := by decide +kernel
theorem dX5_ill_45 : decode cX5_ill 45 = .ok (.ifCond .eq 79, 3) := by decide +kernel
theorem dX5_ill_48 : decode cX5_ill 48 = .ok (.aload_n 0, 1) := by decide +kernel
theorem dX5_ill_49 : decode cX5_ill 49 = .ok (.aload_n 0, 1) := by decide +kernel
theorem dX5_ill_50 : decode cX5_ill 50 = .ok (.getfield 26, 3) := by decide +kernel
theorem dX5_ill_53 : decode cX5_ill 53 = .ok (.iload 4, 2) := by decide +kernel
theorem dX5_ill_55 : decode cX5_ill 55 = .ok (.iaload, 1) := by decide +kernel
theorem dX5_ill_56 : decode cX5_ill 56 = .ok (.aload_n 0, 1) := by decide +kernel
theorem dX5_ill_57 : decode cX5_ill 57 = .ok (.getfield 13, 3) := by decide +kernel
theorem dX5_ill_60 : decode cX5_ill 60 = .ok (.bipush 33, 2) := by decide +kernel
theorem dX5_ill_62 : decode cX5_ill 62 = .ok (.iaload, 1) := by decide +kernel
theorem dX5_ill_63 : decode cX5_ill 63 = .ok (.iconst 1, 1) := by decide +kernel
theorem dX5_ill_64 : decode cX5_ill 64 = .ok (.iload_n 2, 1) := by decide +kernel
theorem dX5_ill_65 : decode cX5_ill 65 = .ok (.ishl, 1) := by decide +kernel
theorem dX5_ill_66 : decode cX5_ill 66 = .ok (.iconst (-1), 1) := by decide +kernel
theorem dX5_ill_67 : decode cX5_ill 67 = .ok (.ixor, 1) := by decide +kernel
theorem dX5_ill_68 : decode cX5_ill 68 = .ok (.iand, 1) := by decide +kernel
theorem dX5_ill_69 : decode cX5_ill 69 = .ok (.aload_n 0, 1) := by decide +kernel
theorem dX5_ill_70 : decode cX5_ill 70 = .ok (.getfield 13, 3) := by decide +kernel
theorem dX5_ill_73 : decode cX5_ill 73 = .ok (.bipush 35, 2) := by decide +kernel
theorem dX5_ill_75 : decode cX5_ill 75 = .ok (.iaload, 1) := by decide +kernel
theorem dX5_ill_76 : decode cX5_ill 76 = .ok (.invokevirtual 166, 3) := by decide +kernel
theorem dX5_ill_79 : decode cX5_ill 79 = .ok (.aload_n 0, 1) := by decide +kernel
theorem dX5_ill_80 : decode cX5_ill 80 = .ok (.getfield 44, 3) := by decide +kernel
theorem dX5_ill_83 : decode cX5_ill 83 = .ok (.aload_n 0, 1) := by decide +kernel
theorem dX5_ill_84 : decode cX5_ill 84 = .ok (.getfield 26, 3) := by decide +kernel
theorem dX5_ill_87 : decode cX5_ill 87 = .ok (.iload 4, 2) := by decide +kernel
theorem dX5_ill_89 : decode cX5_ill 89 = .ok (.iaload, 1) := by decide +kernel
theorem dX5_ill_90 : decode cX5_ill 90 = .ok (.iaload, 1) := by decide +kernel
theorem dX5_ill_91 : decode cX5_ill 91 = .ok (.ifCond .le 7, 3) := by decide +kernel
theorem dX5_ill_94 : decode cX5_ill 94 = .ok (.iconst 1, 1) := by decide +kernel
theorem dX5_ill_95 : decode cX5_ill 95 = .ok (.goto 4, 3) := by decide +kernel
theorem dX5_ill_98 : decode cX5_ill 98 = .ok (.iconst 0, 1) := by decide +kernel
theorem dX5_ill_99 : decode cX5_ill 99 = .ok (.aload_n 0, 1) := by decide +kernel
theorem dX5_ill_100 : decode cX5_ill 100 = .ok (.getfield 29, 3) := by decide +kernel
theorem dX5_ill_103 : decode cX5_ill 103 = .ok (.iload 4, 2) := by decide +kernel
theorem dX5_ill_105 : decode cX5_ill 105 = .ok (.iaload, 1) := by decide +kernel
theorem dX5_ill_106 : decode cX5_ill 106 = .ok (.iconst 1, 1) := by decide +kernel
theorem dX5_ill_107 : decode cX5_ill 107 = .ok (.if_icmp .ne 7, 3) := by decide +kernel
theorem dX5_ill_110 : decode cX5_ill 110 = .ok (.iconst 1, 1) := by decide +kernel
theorem dX5_ill_111 : decode cX5_ill 111 = .ok (.goto 4, 3) := by decide +kernel
theorem dX5_ill_114 : decode cX5_ill 114 = .ok (.iconst 0, 1) := by decide +kernel
theorem dX5_ill_115 : decode cX5_ill 115 = .ok (.if_icmp .ne 7, 3) := by decide +kernel
theorem dX5_ill_118 : decode cX5_ill 118 = .ok (.iconst 1, 1) := by decide +kernel
theorem dX5_ill_119 : decode cX5_ill 119 = .ok (.goto 4, 3) := by decide +kernel
theorem dX5_ill_122 : decode cX5_ill 122 = .ok (.iconst 0, 1) := by decide +kernel
theorem dX5_ill_123 : decode cX5_ill 123 = .ok (.istore_n 3, 1) := by decide +kernel
theorem dX5_ill_124 : decode cX5_ill 124 = .ok (.iinc 4 1, 3) := by decide +kernel
theorem dX5_ill_127 : decode cX5_ill 127 = .ok (.goto (-106), 3) := by decide +kernel
theorem dX5_ill_130 : decode cX5_ill 130 = .ok (.iload_n 1, 1) := by decide +kernel
theorem dX5_ill_131 : decode cX5_ill 131 = .ok (.iload_n 3, 1) := by decide +kernel
theorem dX5_ill_132 : decode cX5_ill 132 = .ok (.ifCond .eq 9, 3) := by decide +kernel
theorem dX5_ill_135 : decode cX5_ill 135 = .ok (.iconst 1, 1) := by decide +kernel
theorem dX5_ill_136 : decode cX5_ill 136 = .ok (.iload_n 2, 1) := by decide +kernel
theorem dX5_ill_137 : decode cX5_ill 137 = .ok (.ishl, 1) := by decide +kernel
theorem dX5_ill_138 : decode cX5_ill 138 = .ok (.goto 4, 3) := by decide +kernel
theorem dX5_ill_141 : decode cX5_ill 141 = .ok (.iconst 0, 1) := by decide +kernel
theorem dX5_ill_142 : decode cX5_ill 142 = .ok (.ior, 1) := by decide +kernel
theorem dX5_ill_143 : decode cX5_ill 143 = .ok (.istore_n 1, 1) := by decide +kernel
theorem dX5_ill_144 : decode cX5_ill 144 = .ok (.iinc 2 1, 3) := by decide +kernel
theorem dX5_ill_147 : decode cX5_ill 147 = .ok (.goto (-143), 3) := by decide +kernel
theorem dX5_ill_150 : decode cX5_ill 150 = .ok (.iload_n 1, 1) := by decide +kernel
theorem dX5_ill_151 : decode cX5_ill 151 = .ok (.ireturn, 1) := by decide +kernel
theorem dX5_keep_0 : decode cX5_keep 0 = .ok (.iload_n 1, 1) := by decide +kernel
theorem dX5_keep_1 : decode cX5_keep 1 = .ok (.iconst 0, 1) := by decide +kernel
theorem dX5_keep_2 : decode cX5_keep 2 = .ok (.iconst 1, 1) := by decide +kernel
theorem dX5_keep_3 : decode cX5_keep 3 = .ok (.invokestatic 72, 3) := by decide +kernel
theorem dX5_keep_6 : decode cX5_keep 6 = .ok (.ifCond .ne 5, 3) := by decide +kernel
theorem dX5_keep_9 : decode cX5_keep 9 = .ok (.iconst (-1), 1) := by decide +kernel
theorem dX5_keep_10 : decode cX5_keep 10 = .ok (.ireturn, 1) := by decide +kernel
theorem dX5_keep_11 : decode cX5_keep 11 = .ok (.iconst 0, 1) := by decide +kernel
theorem dX5_keep_12 : decode cX5_keep 12 = .ok (.istore_n 2, 1) := by decide +kernel
theorem dX5_keep_13 : decode cX5_keep 13 = .ok (.iload_n 2, 1) := by decide +kernel
theorem dX5_keep_14 : decode cX5_keep 14 = .ok (.bipush 36, 2) := by decide +kernel
theorem dX5_keep_16 : decode cX5_keep 16 = .ok (.if_icmp .ge 26, 3) := by decide +kernel
theorem dX5_keep_19 : decode cX5_keep 19 = .ok (.aload_n 0, 1) := by decide +kernel
theorem dX5_keep_20 : decode cX5_keep 20 = .ok (.getfield 23, 3) := by decide +kernel
theorem dX5_keep_23 : decode cX5_keep 23 = .ok (.bipush 36, 2) := by decide +kernel
theorem dX5_keep_25 : decode cX5_keep 25 = .ok (.iload_n 1, 1) := by decide +kernel
theorem dX5_keep_26 : decode cX5_keep 26 = .ok (.imul, 1) := by decide +kernel
theorem dX5_keep_27 : decode cX5_keep 27 = .ok (.iload_n 2, 1) := by decide +kernel
theorem dX5_keep_28 : decode cX5_keep 28 = .ok (.iadd, 1) := by decide +kernel
theorem dX5_keep_29 : decode cX5_keep 29 = .ok (.aload_n 0, 1) := by decide +kernel
theorem dX5_keep_30 : decode cX5_keep 30 = .ok (.getfield 13, 3) := by decide +kernel
theorem dX5_keep_33 : decode cX5_keep 33 = .ok (.iload_n 2, 1) := by decide +kernel
theorem dX5_keep_34 : decode cX5_keep 34 = .ok (.iaload, 1) := by decide +kernel
theorem dX5_keep_35 : decode cX5_keep 35 = .ok (.iastore, 1) := by decide +kernel
theorem dX5_keep_36 : decode cX5_keep 36 = .ok (.iinc 2 1, 3) := by decide +kernel
theorem dX5_keep_39 : decode cX5_keep 39 = .ok (.goto (-26), 3) := by decide +kernel
theorem dX5_keep_42 : decode cX5_keep 42 = .ok (.aload_n 0, 1) := by decide +kernel
theorem dX5_keep_43 : decode cX5_keep 43 = .ok (.getfield 19, 3) := by decide +kernel
theorem dX5_keep_46 : decode cX5_keep 46 = .ok (.iload_n 1, 1) := by decide +kernel
theorem dX5_keep_47 : decode cX5_keep 47 = .ok (.iconst 1, 1) := by decide +kernel
theorem dX5_keep_48 : decode cX5_keep 48 = .ok (.bastore, 1) := by decide +kernel
theorem dX5_keep_49 : decode cX5_keep 49 = .ok (.aload_n 0, 1) := by decide +kernel
theorem dX5_keep_50 : decode cX5_keep 50 = .ok (.getfield 13, 3) := by decide +kernel
theorem dX5_keep_53 : decode cX5_keep 53 = .ok (.iconst 0, 1) := by decide +kernel
theorem dX5_keep_54 : decode cX5_keep 54 = .ok (.iaload, 1) := by decide +kernel
theorem dX5_keep_55 : decode cX5_keep 55 = .ok (.ireturn, 1) := by decide +kernel
theorem dX5_back_0 : decode cX5_back 0 = .ok (.iload_n 1, 1) := by decide +kernel
theorem dX5_back_1 : decode cX5_back 1 = .ok (.iconst 0, 1) := by decide +kernel
theorem dX5_back_2 : decode cX5_back 2 = .ok (.iconst 1, 1) := by decide +kernel
theorem dX5_back_3 : decode cX5_back 3 = .ok (.invokestatic 72, 3) := by decide +kernel
theorem dX5_back_6 : decode cX5_back 6 = .ok (.ifCond .ne 5, 3) := by decide +kernel
theorem dX5_back_9 : decode cX5_back 9 = .ok (.iconst (-1), 1) := by decide +kernel
theorem dX5_back_10 : decode cX5_back 10 = .ok (.ireturn, 1) := by decide +kernel
theorem dX5_back_11 : decode cX5_back 11 = .ok (.aload_n 0, 1) := by decide +kernel
theorem dX5_back_12 : decode cX5_back 12 = .ok (.getfield 19, 3) := by decide +kernel
theorem dX5_back_15 : decode cX5_back 15 = .ok (.iload_n 1, 1) := by decide +kernel
theorem dX5_back_16 : decode cX5_back 16 = .ok (.baload, 1) := by decide +kernel
theorem dX5_back_17 : decode cX5_back 17 = .ok (.ifCond .ne 6, 3) := by decide +kernel
theorem dX5_back_20 : decode cX5_back 20 = .ok (.bipush (-2), 2) := by decide +kernel
theorem dX5_back_22 : decode cX5_back 22 = .ok (.ireturn, 1) := by decide +kernel
theorem dX5_back_23 : decode cX5_back 23 = .ok (.iconst 0, 1) := by decide +kernel
theorem dX5_back_24 : decode cX5_back 24 = .ok (.istore_n 2, 1) := by decide +kernel
theorem dX5_back_25 : decode cX5_back 25 = .ok (.iload_n 2, 1) := by decide +kernel
theorem dX5_back_26 : decode cX5_back 26 = .ok (.bipush 36, 2) := by decide +kernel
theorem dX5_back_28 : decode cX5_back 28 = .ok (.if_icmp .ge 26, 3) := by decide +kernel
theorem dX5_back_31 : decode cX5_back 31 = .ok (.aload_n 0, 1) := by decide +kernel
theorem dX5_back_32 : decode cX5_back 32 = .ok (.getfield 13, 3) := by decide +kernel
theorem dX5_back_35 : decode cX5_back 35 = .ok (.iload_n 2, 1) := by decide +kernel
theorem dX5_back_36 : decode cX5_back 36 = .ok (.aload_n 0, 1) := by decide +kernel
theorem dX5_back_37 : decode cX5_back 37 = .ok (.getfield 23, 3) := by decide +kernel
theorem dX5_back_40 : decode cX5_back 40 = .ok (.bipush 36, 2) := by decide +kernel
theorem dX5_back_42 : decode cX5_back 42 = .ok (.iload_n 1, 1) := by decide +kernel
theorem dX5_back_43 : decode cX5_back 43 = .ok (.imul, 1) := by decide +kernel
theorem dX5_back_44 : decode cX5_back 44 = .ok (.iload_n 2, 1) := by decide +kernel
theorem dX5_back_45 : decode cX5_back 45 = .ok (.iadd, 1) := by decide +kernel
theorem dX5_back_46 : decode cX5_back 46 = .ok (.iaload, 1) := by decide +kernel
theorem dX5_back_47 : decode cX5_back 47 = .ok (.iastore, 1) := by decide +kernel
theorem dX5_back_48 : decode cX5_back 48 = .ok (.iinc 2 1, 3) := by decide +kernel
theorem dX5_back_51 : decode cX5_back 51 = .ok (.goto (-26), 3) := by decide +kernel
theorem dX5_back_54 : decode cX5_back 54 = .ok (.aload_n 0, 1) := by decide +kernel
theorem dX5_back_55 : decode cX5_back 55 = .ok (.iconst 0, 1) := by decide +kernel
theorem dX5_back_56 : decode cX5_back 56 = .ok (.putfield 66, 3) := by decide +kernel
theorem dX5_back_59 : decode cX5_back 59 = .ok (.aload_n 0, 1) := by decide +kernel
theorem dX5_back_60 : decode cX5_back 60 = .ok (.getfield 13, 3) := by decide +kernel
theorem dX5_back_63 : decode cX5_back 63 = .ok (.iconst 0, 1) := by decide +kernel
theorem dX5_back_64 : decode cX5_back 64 = .ok (.iaload, 1) := by decide +kernel
theorem dX5_back_65 : decode cX5_back 65 = .ok (.ireturn, 1) := by decide +kernel
theorem dX5_count_0 : decode cX5_count 0 = .ok (.iload_n 1, 1) := by decide +kernel
theorem dX5_count_1 : decode cX5_count 1 = .ok (.tableswitch 98 0 7 #[47, 52, 60, 67, 75, 83, 88, 93], 47) := by decide +kernel
theorem dX5_count_48 : decode cX5_count 48 = .ok (.aload_n 0, 1) := by decide +kernel
theorem dX5_count_49 : decode cX5_count 49 = .ok (.getfield 63, 3) := by decide +kernel
theorem dX5_count_52 : decode cX5_count 52 = .ok (.ireturn, 1) := by decide +kernel
theorem dX5_count_53 : decode cX5_count 53 = .ok (.aload_n 0, 1) := by decide +kernel
theorem dX5_count_54 : decode cX5_count 54 = .ok (.getfield 13, 3) := by decide +kernel
theorem dX5_count_57 : decode cX5_count 57 = .ok (.bipush 33, 2) := by decide +kernel
theorem dX5_count_59 : decode cX5_count 59 = .ok (.iaload, 1) := by decide +kernel
theorem dX5_count_60 : decode cX5_count 60 = .ok (.ireturn, 1) := by decide +kernel
theorem dX5_count_61 : decode cX5_count 61 = .ok (.aload_n 0, 1) := by decide +kernel
theorem dX5_count_62 : decode cX5_count 62 = .ok (.getfield 13, 3) := by decide +kernel
theorem dX5_count_65 : decode cX5_count 65 = .ok (.iconst 0, 1) := by decide +kernel
theorem dX5_count_66 : decode cX5_count 66 = .ok (.iaload, 1) := by decide +kernel
theorem dX5_count_67 : decode cX5_count 67 = .ok (.ireturn, 1) := by decide +kernel
theorem dX5_count_68 : decode cX5_count 68 = .ok (.aload_n 0, 1) := by decide +kernel
theorem dX5_count_69 : decode cX5_count 69 = .ok (.getfield 13, 3) := by decide +kernel
theorem dX5_count_72 : decode cX5_count 72 = .ok (.bipush 34, 2) := by decide +kernel
theorem dX5_count_74 : decode cX5_count 74 = .ok (.iaload, 1) := by decide +kernel
theorem dX5_count_75 : decode cX5_count 75 = .ok (.ireturn, 1) := by decide +kernel
theorem dX5_count_76 : decode cX5_count 76 = .ok (.aload_n 0, 1) := by decide +kernel
theorem dX5_count_77 : decode cX5_count 77 = .ok (.getfield 13, 3) := by decide +kernel
theorem dX5_count_80 : decode cX5_count 80 = .ok (.bipush 35, 2) := by decide +kernel
theorem dX5_count_82 : decode cX5_count 82 = .ok (.iaload, 1) := by decide +kernel
theorem dX5_count_83 : decode cX5_count 83 = .ok (.ireturn, 1) := by decide +kernel
theorem dX5_count_84 : decode cX5_count 84 = .ok (.aload_n 0, 1) := by decide +kernel
theorem dX5_count_85 : decode cX5_count 85 = .ok (.getfield 69, 3) := by decide +kernel
theorem dX5_count_88 : decode cX5_count 88 = .ok (.ireturn, 1) := by decide +kernel
theorem dX5_count_89 : decode cX5_count 89 = .ok (.aload_n 0, 1) := by decide +kernel
theorem dX5_count_90 : decode cX5_count 90 = .ok (.getfield 76, 3) := by decide +kernel
theorem dX5_count_93 : decode cX5_count 93 = .ok (.ireturn, 1) := by decide +kernel
theorem dX5_count_94 : decode cX5_count 94 = .ok (.aload_n 0, 1) := by decide +kernel
theorem dX5_count_95 : decode cX5_count 95 = .ok (.getfield 66, 3) := by decide +kernel
theorem dX5_count_98 : decode cX5_count 98 = .ok (.ireturn, 1) := by decide +kernel
theorem dX5_count_99 : decode cX5_count 99 = .ok (.iconst (-1), 1) := by decide +kernel
theorem dX5_count_100 : decode cX5_count 100 = .ok (.ireturn, 1) := by decide +kernel
theorem dJ6_bitCount_0f7a4_0 : decode cJ6_bitCount_0f7a4 0 = .ok (.iload_n 0, 1) := by decide +kernel
theorem dJ6_bitCount_0f7a4_1 : decode cJ6_bitCount_0f7a4 1 = .ok (.iload_n 0, 1) := by decide +kernel
theorem dJ6_bitCount_0f7a4_2 : decode cJ6_bitCount_0f7a4 2 = .ok (.iconst 1, 1) := by decide +kernel
theorem dJ6_bitCount_0f7a4_3 : decode cJ6_bitCount_0f7a4 3 = .ok (.iushr, 1) := by decide +kernel
theorem dJ6_bitCount_0f7a4_4 : decode cJ6_bitCount_0f7a4 4 = .ok (.ldc_w 265, 3) := by decide +kernel
theorem dJ6_bitCount_0f7a4_7 : decode cJ6_bitCount_0f7a4 7 = .ok (.iand, 1) := by decide +kernel
theorem dJ6_bitCount_0f7a4_8 : decode cJ6_bitCount_0f7a4 8 = .ok (.isub, 1) := by decide +kernel
theorem dJ6_bitCount_0f7a4_9 : decode cJ6_bitCount_0f7a4 9 = .ok (.istore_n 0, 1) := by decide +kernel
theorem dJ6_bitCount_0f7a4_10 : decode cJ6_bitCount_0f7a4 10 = .ok (.iload_n 0, 1) := by decide +kernel
theorem dJ6_bitCount_0f7a4_11 : decode cJ6_bitCount_0f7a4 11 = .ok (.ldc_w 266, 3) := by decide +kernel
theorem dJ6_bitCount_0f7a4_14 : decode cJ6_bitCount_0f7a4 14 = .ok (.iand, 1) := by decide +kernel
theorem dJ6_bitCount_0f7a4_15 : decode cJ6_bitCount_0f7a4 15 = .ok (.iload_n 0, 1) := by decide +kernel
theorem dJ6_bitCount_0f7a4_16 : decode cJ6_bitCount_0f7a4 16 = .ok (.iconst 2, 1) := by decide +kernel
theorem dJ6_bitCount_0f7a4_17 : decode cJ6_bitCount_0f7a4 17 = .ok (.iushr, 1) := by decide +kernel
theorem dJ6_bitCount_0f7a4_18 : decode cJ6_bitCount_0f7a4 18 = .ok (.ldc_w 266, 3) := by decide +kernel
theorem dJ6_bitCount_0f7a4_21 : decode cJ6_bitCount_0f7a4 21 = .ok (.iand, 1) := by decide +kernel
theorem dJ6_bitCount_0f7a4_22 : decode cJ6_bitCount_0f7a4 22 = .ok (.iadd, 1) := by decide +kernel
theorem dJ6_bitCount_0f7a4_23 : decode cJ6_bitCount_0f7a4 23 = .ok (.istore_n 0, 1) := by decide +kernel
theorem dJ6_bitCount_0f7a4_24 : decode cJ6_bitCount_0f7a4 24 = .ok (.iload_n 0, 1) := by decide +kernel
theorem dJ6_bitCount_0f7a4_25 : decode cJ6_bitCount_0f7a4 25 = .ok (.iload_n 0, 1) := by decide +kernel
theorem dJ6_bitCount_0f7a4_26 : decode cJ6_bitCount_0f7a4 26 = .ok (.iconst 4, 1) := by decide +kernel
theorem dJ6_bitCount_0f7a4_27 : decode cJ6_bitCount_0f7a4 27 = .ok (.iushr, 1) := by decide +kernel
theorem dJ6_bitCount_0f7a4_28 : decode cJ6_bitCount_0f7a4 28 = .ok (.iadd, 1) := by decide +kernel
theorem dJ6_bitCount_0f7a4_29 : decode cJ6_bitCount_0f7a4 29 = .ok (.ldc_w 267, 3) := by decide +kernel
theorem dJ6_bitCount_0f7a4_32 : decode cJ6_bitCount_0f7a4 32 = .ok (.iand, 1) := by decide +kernel
theorem dJ6_bitCount_0f7a4_33 : decode cJ6_bitCount_0f7a4 33 = .ok (.istore_n 0, 1) := by decide +kernel
theorem dJ6_bitCount_0f7a4_34 : decode cJ6_bitCount_0f7a4 34 = .ok (.iload_n 0, 1) := by decide +kernel
theorem dJ6_bitCount_0f7a4_35 : decode cJ6_bitCount_0f7a4 35 = .ok (.iload_n 0, 1) := by decide +kernel
theorem dJ6_bitCount_0f7a4_36 : decode cJ6_bitCount_0f7a4 36 = .ok (.bipush 8, 2) := by decide +kernel
theorem dJ6_bitCount_0f7a4_38 : decode cJ6_bitCount_0f7a4 38 = .ok (.iushr, 1) := by decide +kernel
theorem dJ6_bitCount_0f7a4_39 : decode cJ6_bitCount_0f7a4 39 = .ok (.iadd, 1) := by decide +kernel
theorem dJ6_bitCount_0f7a4_40 : decode cJ6_bitCount_0f7a4 40 = .ok (.istore_n 0, 1) := by decide +kernel
theorem dJ6_bitCount_0f7a4_41 : decode cJ6_bitCount_0f7a4 41 = .ok (.iload_n 0, 1) := by decide +kernel
theorem dJ6_bitCount_0f7a4_42 : decode cJ6_bitCount_0f7a4 42 = .ok (.iload_n 0, 1) := by decide +kernel
theorem dJ6_bitCount_0f7a4_43 : decode cJ6_bitCount_0f7a4 43 = .ok (.bipush 16, 2) := by decide +kernel
theorem dJ6_bitCount_0f7a4_45 : decode cJ6_bitCount_0f7a4 45 = .ok (.iushr, 1) := by decide +kernel
theorem dJ6_bitCount_0f7a4_46 : decode cJ6_bitCount_0f7a4 46 = .ok (.iadd, 1) := by decide +kernel
theorem dJ6_bitCount_0f7a4_47 : decode cJ6_bitCount_0f7a4 47 = .ok (.istore_n 0, 1) := by decide +kernel
theorem dJ6_bitCount_0f7a4_48 : decode cJ6_bitCount_0f7a4 48 = .ok (.iload_n 0, 1) := by decide +kernel
theorem dJ6_bitCount_0f7a4_49 : decode cJ6_bitCount_0f7a4 49 = .ok (.bipush 63, 2) := by decide +kernel
theorem dJ6_bitCount_0f7a4_51 : decode cJ6_bitCount_0f7a4 51 = .ok (.iand, 1) := by decide +kernel
theorem dJ6_bitCount_0f7a4_52 : decode cJ6_bitCount_0f7a4 52 = .ok (.ireturn, 1) := by decide +kernel
theorem dJ9_abs_0f7a4_0 : decode cJ9_abs_0f7a4 0 = .ok (.iload_n 0, 1) := by decide +kernel
theorem dJ9_abs_0f7a4_1 : decode cJ9_abs_0f7a4 1 = .ok (.ifCond .ge 8, 3) := by decide +kernel
theorem dJ9_abs_0f7a4_4 : decode cJ9_abs_0f7a4 4 = .ok (.iload_n 0, 1) := by decide +kernel
theorem dJ9_abs_0f7a4_5 : decode cJ9_abs_0f7a4 5 = .ok (.ineg, 1) := by decide +kernel
theorem dJ9_abs_0f7a4_6 : decode cJ9_abs_0f7a4 6 = .ok (.goto 4, 3) := by decide +kernel
theorem dJ9_abs_0f7a4_9 : decode cJ9_abs_0f7a4 9 = .ok (.iload_n 0, 1) := by decide +kernel
theorem dJ9_abs_0f7a4_10 : decode cJ9_abs_0f7a4 10 = .ok (.ireturn, 1) := by decide +kernel
theorem dJ9_max_7cf53_0 : decode cJ9_max_7cf53 0 = .ok (.iload_n 0, 1) := by decide +kernel
theorem dJ9_max_7cf53_1 : decode cJ9_max_7cf53 1 = .ok (.iload_n 1, 1) := by decide +kernel
theorem dJ9_max_7cf53_2 : decode cJ9_max_7cf53 2 = .ok (.if_icmp .lt 7, 3) := by decide +kernel
theorem dJ9_max_7cf53_5 : decode cJ9_max_7cf53 5 = .ok (.iload_n 0, 1) := by decide +kernel
theorem dJ9_max_7cf53_6 : decode cJ9_max_7cf53 6 = .ok (.goto 4, 3) := by decide +kernel
theorem dJ9_max_7cf53_9 : decode cJ9_max_7cf53 9 = .ok (.iload_n 1, 1) := by decide +kernel
theorem dJ9_max_7cf53_10 : decode cJ9_max_7cf53 10 = .ok (.ireturn, 1) := by decide +kernel
theorem dJ9_min_7cf53_0 : decode cJ9_min_7cf53 0 = .ok (.iload_n 0, 1) := by decide +kernel
theorem dJ9_min_7cf53_1 : decode cJ9_min_7cf53 1 = .ok (.iload_n 1, 1) := by decide +kernel
theorem dJ9_min_7cf53_2 : decode cJ9_min_7cf53 2 = .ok (.if_icmp .gt 7, 3) := by decide +kernel
theorem dJ9_min_7cf53_5 : decode cJ9_min_7cf53 5 = .ok (.iload_n 0, 1) := by decide +kernel
theorem dJ9_min_7cf53_6 : decode cJ9_min_7cf53 6 = .ok (.goto 4, 3) := by decide +kernel
theorem dJ9_min_7cf53_9 : decode cJ9_min_7cf53 9 = .ok (.iload_n 1, 1) := by decide +kernel
theorem dJ9_min_7cf53_10 : decode cJ9_min_7cf53 10 = .ok (.ireturn, 1) := by decide +kernel
theorem dL_law_0 : decode cL_law 0 = .ok (.new 7, 3) := by decide +kernel
theorem dL_law_3 : decode cL_law 3 = .ok (.dup, 1) := by decide +kernel
theorem dL_law_4 : decode cL_law 4 = .ok (.invokespecial 9, 3) := by decide +kernel
theorem dL_law_7 : decode cL_law 7 = .ok (.astore_n 1, 1) := by decide +kernel
theorem dL_law_8 : decode cL_law 8 = .ok (.new 10, 3) := by decide +kernel
theorem dL_law_11 : decode cL_law 11 = .ok (.dup, 1) := by decide +kernel
theorem dL_law_12 : decode cL_law 12 = .ok (.invokespecial 12, 3) := by decide +kernel
theorem dL_law_15 : decode cL_law 15 = .ok (.astore_n 2, 1) := by decide +kernel
theorem dL_law_16 : decode cL_law 16 = .ok (.iconst 0, 1) := by decide +kernel
theorem dL_law_17 : decode cL_law 17 = .ok (.istore_n 3, 1) := by decide +kernel
theorem dL_law_18 : decode cL_law 18 = .ok (.iload_n 3, 1) := by decide +kernel
theorem dL_law_19 : decode cL_law 19 = .ok (.aload_n 0, 1) := by decide +kernel
theorem dL_law_20 : decode cL_law 20 = .ok (.arraylength, 1) := by decide +kernel
theorem dL_law_21 : decode cL_law 21 = .ok (.iconst 5, 1) := by decide +kernel
theorem dL_law_22 : decode cL_law 22 = .ok (.isub, 1) := by decide +kernel
theorem dL_law_23 : decode cL_law 23 = .ok (.if_icmp .gt 800, 3) := by decide +kernel
theorem dL_law_26 : decode cL_law 26 = .ok (.aload_n 0, 1) := by decide +kernel
theorem dL_law_27 : decode cL_law 27 = .ok (.iload_n 3, 1) := by decide +kernel
theorem dL_law_28 : decode cL_law 28 = .ok (.iaload, 1) := by decide +kernel
theorem dL_law_29 : decode cL_law 29 = .ok (.bipush 31, 2) := by decide +kernel
theorem dL_law_31 : decode cL_law 31 = .ok (.iand, 1) := by decide +kernel
theorem dL_law_32 : decode cL_law 32 = .ok (.tableswitch 785 0 26 #[124, 147, 160, 173, 206, 229, 262, 315, 338, 361, 394, 407, 450, 473, 496, 529, 562, 585, 618, 631, 644, 657, 690, 703, 716, 739, 762], 124) := by decide +kernel
theorem dL_law_156 : decode cL_law 156 = .ok (.aload_n 1, 1) := by decide +kernel
theorem dL_law_157 : decode cL_law 157 = .ok (.aload_n 0, 1) := by decide +kernel
theorem dL_law_158 : decode cL_law 158 = .ok (.iload_n 3, 1) := by decide +kernel
theorem dL_law_159 : decode cL_law 159 = .ok (.iconst 1, 1) := by decide +kernel
theorem dL_law_160 : decode cL_law 160 = .ok (.iadd, 1) := by decide +kernel
theorem dL_law_161 : decode cL_law 161 = .ok (.iaload, 1) := by decide +kernel
theorem dL_law_162 : decode cL_law 162 = .ok (.invokevirtual 13, 3) := by decide +kernel
theorem dL_law_165 : decode cL_law 165 = .ok (.aload_n 2, 1) := by decide +kernel
theorem dL_law_166 : decode cL_law 166 = .ok (.aload_n 0, 1) := by decide +kernel
theorem dL_law_167 : decode cL_law 167 = .ok (.iload_n 3, 1) := by decide +kernel
theorem dL_law_168 : decode cL_law 168 = .ok (.iconst 1, 1) := by decide +kernel
theorem dL_law_169 : decode cL_law 169 = .ok (.iadd, 1) := by decide +kernel
theorem dL_law_170 : decode cL_law 170 = .ok (.iaload, 1) := by decide +kernel
theorem dL_law_171 : decode cL_law 171 = .ok (.invokevirtual 17, 3) := by decide +kernel
theorem dL_law_174 : decode cL_law 174 = .ok (.if_icmp .eq 643, 3) := by decide +kernel
theorem dL_law_177 : decode cL_law 177 = .ok (.iconst 0, 1) := by decide +kernel
theorem dL_law_178 : decode cL_law 178 = .ok (.ireturn, 1) := by decide +kernel
theorem dL_law_179 : decode cL_law 179 = .ok (.aload_n 1, 1) := by decide +kernel
theorem dL_law_180 : decode cL_law 180 = .ok (.invokevirtual 18, 3) := by decide +kernel
theorem dL_law_183 : decode cL_law 183 = .ok (.aload_n 2, 1) := by decide +kernel
theorem dL_law_184 : decode cL_law 184 = .ok (.invokevirtual 22, 3) := by decide +kernel
theorem dL_law_187 : decode cL_law 187 = .ok (.if_icmp .eq 630, 3) := by decide +kernel
theorem dL_law_190 : decode cL_law 190 = .ok (.iconst 0, 1) := by decide +kernel
theorem dL_law_191 : decode cL_law 191 = .ok (.ireturn, 1) := by decide +kernel
theorem dL_law_192 : decode cL_law 192 = .ok (.aload_n 1, 1) := by decide +kernel
theorem dL_law_193 : decode cL_law 193 = .ok (.invokevirtual 23, 3) := by decide +kernel
theorem dL_law_196 : decode cL_law 196 = .ok (.aload_n 2, 1) := by decide +kernel
theorem dL_law_197 : decode cL_law 197 = .ok (.invokevirtual 26, 3) := by decide +kernel
theorem dL_law_200 : decode cL_law 200 = .ok (.if_icmp .eq 617, 3) := by decide +kernel
theorem dL_law_203 : decode cL_law 203 = .ok (.iconst 0, 1) := by decide +kernel
theorem dL_law_204 : decode cL_law 204 = .ok (.ireturn, 1) := by decide +kernel
theorem dL_law_205 : decode cL_law 205 = .ok (.aload_n 1, 1) := by decide +kernel
theorem dL_law_206 : decode cL_law 206 = .ok (.aload_n 0, 1) := by decide +kernel
theorem dL_law_207 : decode cL_law 207 = .ok (.iload_n 3, 1) := by decide +kernel
theorem dL_law_208 : decode cL_law 208 = .ok (.iconst 1, 1) := by decide +kernel
theorem dL_law_209 : decode cL_law 209 = .ok (.iadd, 1) := by decide +kernel
theorem dL_law_210 : decode cL_law 210 = .ok (.iaload, 1) := by decide +kernel
theorem dL_law_211 : decode cL_law 211 = .ok (.aload_n 0, 1) := by decide +kernel
theorem dL_law_212 : decode cL_law 212 = .ok (.iload_n 3, 1) := by decide +kernel
theorem dL_law_213 : decode cL_law 213 = .ok (.iconst 2, 1) := by decide +kernel
theorem dL_law_214 : decode cL_law 214 = .ok (.iadd, 1) := by decide +kernel
theorem dL_law_215 : decode cL_law 215 = .ok (.iaload, 1) := by decide +kernel
theorem dL_law_216 : decode cL_law 216 = .ok (.invokevirtual 27, 3) := by decide +kernel
theorem dL_law_219 : decode cL_law 219 = .ok (.aload_n 2, 1) := by decide +kernel
theorem dL_law_220 : decode cL_law 220 = .ok (.aload_n 0, 1) := by decide +kernel
theorem dL_law_221 : decode cL_law 221 = .ok (.iload_n 3, 1) := by decide +kernel
theorem dL_law_222 : decode cL_law 222 = .ok (.iconst 1, 1) := by decide +kernel
theorem dL_law_223 : decode cL_law 223 = .ok (.iadd, 1) := by decide +kernel
theorem dL_law_224 : decode cL_law 224 = .ok (.iaload, 1) := by decide +kernel
theorem dL_law_225 : decode cL_law 225 = .ok (.aload_n 0, 1) := by decide +kernel
theorem dL_law_226 : decode cL_law 226 = .ok (.iload_n 3, 1) := by decide +kernel
theorem dL_law_227 : decode cL_law 227 = .ok (.iconst 2, 1) := by decide +kernel
theorem dL_law_228 : decode cL_law 228 = .ok (.iadd, 1) := by decide +kernel
theorem dL_law_229 : decode cL_law 229 = .ok (.iaload, 1) := by decide +kernel
theorem dL_law_230 : decode cL_law 230 = .ok (.invokevirtual 31, 3) := by decide +kernel
theorem dL_law_233 : decode cL_law 233 = .ok (.if_icmp .eq 584, 3) := by decide +kernel
theorem dL_law_236 : decode cL_law 236 = .ok (.iconst 0, 1) := by decide +kernel
theorem dL_law_237 : decode cL_law 237 = .ok (.ireturn, 1) := by decide +kernel
theorem dL_law_238 : decode cL_law 238 = .ok (.aload_n 1, 1) := by decide +kernel
theorem dL_law_239 : decode cL_law 239 = .ok (.aload_n 0, 1) := by decide +kernel
theorem dL_law_240 : decode cL_law 240 = .ok (.iload_n 3, 1) := by decide +kernel
theorem dL_law_241 : decode cL_law 241 = .ok (.iconst 1, 1) := by decide +kernel
theorem dL_law_242 : decode cL_law 242 = .ok (.iadd, 1) := by decide +kernel
theorem dL_law_243 : decode cL_law 243 = .ok (.iaload, 1) := by decide +kernel
theorem dL_law_244 : decode cL_law 244 = .ok (.invokevirtual 32, 3) := by decide +kernel
theorem dL_law_247 : decode cL_law 247 = .ok (.aload_n 2, 1) := by decide +kernel
theorem dL_law_248 : decode cL_law 248 = .ok (.aload_n 0, 1) := by decide +kernel
theorem dL_law_249 : decode cL_law 249 = .ok (.iload_n 3, 1) := by decide +kernel
theorem dL_law_250 : decode cL_law 250 = .ok (.iconst 1, 1) := by decide +kernel
theorem dL_law_251 : decode cL_law 251 = .ok (.iadd, 1) := by decide +kernel
theorem dL_law_252 : decode cL_law 252 = .ok (.iaload, 1) := by decide +kernel
theorem dL_law_253 : decode cL_law 253 = .ok (.invokevirtual 35, 3) := by decide +kernel
theorem dL_law_256 : decode cL_law 256 = .ok (.if_icmp .eq 561, 3) := by decide +kernel
theorem dL_law_259 : decode cL_law 259 = .ok (.iconst 0, 1) := by decide +kernel
theorem dL_law_260 : decode cL_law 260 = .ok (.ireturn, 1) := by decide +kernel
theorem dL_law_261 : decode cL_law 261 = .ok (.aload_n 1, 1) := by decide +kernel
theorem dL_law_262 : decode cL_law 262 = .ok (.aload_n 0, 1) := by decide +kernel
theorem dL_law_263 : decode cL_law 263 = .ok (.iload_n 3, 1) := by decide +kernel
theorem dL_law_264 : decode cL_law 264 = .ok (.iconst 1, 1) := by decide +kernel
theorem dL_law_265 : decode cL_law 265 = .ok (.iadd, 1) := by decide +kernel
theorem dL_law_266 : decode cL_law 266 = .ok (.iaload, 1) := by decide +kernel
theorem dL_law_267 : decode cL_law 267 = .ok (.aload_n 0, 1) := by decide +kernel
theorem dL_law_268 : decode cL_law 268 = .ok (.iload_n 3, 1) := by decide +kernel
theorem dL_law_269 : decode cL_law 269 = .ok (.iconst 2, 1) := by decide +kernel
theorem dL_law_270 : decode cL_law 270 = .ok (.iadd, 1) := by decide +kernel
theorem dL_law_271 : decode cL_law 271 = .ok (.iaload, 1) := by decide +kernel
theorem dL_law_272 : decode cL_law 272 = .ok (.invokevirtual 36, 3) := by decide +kernel
theorem dL_law_275 : decode cL_law 275 = .ok (.aload_n 2, 1) := by decide +kernel
theorem dL_law_276 : decode cL_law 276 = .ok (.aload_n 0, 1) := by decide +kernel
theorem dL_law_277 : decode cL_law 277 = .ok (.iload_n 3, 1) := by decide +kernel
theorem dL_law_278 : decode cL_law 278 = .ok (.iconst 1, 1) := by decide +kernel
theorem dL_law_279 : decode cL_law 279 = .ok (.iadd, 1) := by decide +kernel
theorem dL_law_280 : decode cL_law 280 = .ok (.iaload, 1) := by decide +kernel
theorem dL_law_281 : decode cL_law 281 = .ok (.aload_n 0, 1) := by decide +kernel
theorem dL_law_282 : decode cL_law 282 = .ok (.iload_n 3, 1) := by decide +kernel
theorem dL_law_283 : decode cL_law 283 = .ok (.iconst 2, 1) := by decide +kernel
theorem dL_law_284 : decode cL_law 284 = .ok (.iadd, 1) := by decide +kernel
theorem dL_law_285 : decode cL_law 285 = .ok (.iaload, 1) := by decide +kernel
theorem dL_law_286 : decode cL_law 286 = .ok (.invokevirtual 39, 3) := by decide +kernel
theorem dL_law_289 : decode cL_law 289 = .ok (.if_icmp .eq 528, 3) := by decide +kernel
theorem dL_law_292 : decode cL_law 292 = .ok (.iconst 0, 1) := by decide +kernel
theorem dL_law_293 : decode cL_law 293 = .ok (.ireturn, 1) := by decide +kernel
theorem dL_law_294 : decode cL_law 294 = .ok (.aload_n 1, 1) := by decide +kernel
theorem dL_law_295 : decode cL_law 295 = .ok (.aload_n 0, 1) := by decide +kernel
theorem dL_law_296 : decode cL_law 296 = .ok (.iload_n 3, 1) := by decide +kernel
theorem dL_law_297 : decode cL_law 297 = .ok (.iconst 1, 1) := by decide +kernel
theorem dL_law_298 : decode cL_law 298 = .ok (.iadd, 1) := by decide +kernel
theorem dL_law_299 : decode cL_law 299 = .ok (.iaload, 1) := by decide +kernel
theorem dL_law_300 : decode cL_law 300 = .ok (.aload_n 0, 1) := by decide +kernel
theorem dL_law_301 : decode cL_law 301 = .ok (.iload_n 3, 1) := by decide +kernel
theorem dL_law_302 : decode cL_law 302 = .ok (.iconst 2, 1) := by decide +kernel
theorem dL_law_303 : decode cL_law 303 = .ok (.iadd, 1) := by decide +kernel
theorem dL_law_304 : decode cL_law 304 = .ok (.iaload, 1) := by decide +kernel
theorem dL_law_305 : decode cL_law 305 = .ok (.aload_n 0, 1) := by decide +kernel
theorem dL_law_306 : decode cL_law 306 = .ok (.iload_n 3, 1) := by decide +kernel
theorem dL_law_307 : decode cL_law 307 = .ok (.iconst 3, 1) := by decide +kernel
theorem dL_law_308 : decode cL_law 308 = .ok (.iadd, 1) := by decide +kernel
theorem dL_law_309 : decode cL_law 309 = .ok (.iaload, 1) := by decide +kernel
theorem dL_law_310 : decode cL_law 310 = .ok (.aload_n 0, 1) := by decide +kernel
theorem dL_law_311 : decode cL_law 311 = .ok (.iload_n 3, 1) := by decide +kernel
theorem dL_law_312 : decode cL_law 312 = .ok (.iconst 4, 1) := by decide +kernel
theorem dL_law_313 : decode cL_law 313 = .ok (.iadd, 1) := by decide +kernel
theorem dL_law_314 : decode cL_law 314 = .ok (.iaload, 1) := by decide +kernel
theorem dL_law_315 : decode cL_law 315 = .ok (.invokevirtual 40, 3) := by decide +kernel
theorem dL_law_318 : decode cL_law 318 = .ok (.aload_n 2, 1) := by decide +kernel
theorem dL_law_319 : decode cL_law 319 = .ok (.aload_n 0, 1) := by decide +kernel
theorem dL_law_320 : decode cL_law 320 = .ok (.iload_n 3, 1) := by decide +kernel
theorem dL_law_321 : decode cL_law 321 = .ok (.iconst 1, 1) := by decide +kernel
theorem dL_law_322 : decode cL_law 322 = .ok (.iadd, 1) := by decide +kernel
theorem dL_law_323 : decode cL_law 323 = .ok (.iaload, 1) := by decide +kernel
theorem dL_law_324 : decode cL_law 324 = .ok (.aload_n 0, 1) := by decide +kernel
theorem dL_law_325 : decode cL_law 325 = .ok (.iload_n 3, 1) := by decide +kernel
theorem dL_law_326 : decode cL_law 326 = .ok (.iconst 2, 1) := by decide +kernel
theorem dL_law_327 : decode cL_law 327 = .ok (.iadd, 1) := by decide +kernel
theorem dL_law_328 : decode cL_law 328 = .ok (.iaload, 1) := by decide +kernel
theorem dL_law_329 : decode cL_law 329 = .ok (.aload_n 0, 1) := by decide +kernel
theorem dL_law_330 : decode cL_law 330 = .ok (.iload_n 3, 1) := by decide +kernel
theorem dL_law_331 : decode cL_law 331 = .ok (.iconst 3, 1) := by decide +kernel
theorem dL_law_332 : decode cL_law 332 = .ok (.iadd, 1) := by decide +kernel
theorem dL_law_333 : decode cL_law 333 = .ok (.iaload, 1) := by decide +kernel
theorem dL_law_334 : decode cL_law 334 = .ok (.aload_n 0, 1) := by decide +kernel
theorem dL_law_335 : decode cL_law 335 = .ok (.iload_n 3, 1) := by decide +kernel
theorem dL_law_336 : decode cL_law 336 = .ok (.iconst 4, 1) := by decide +kernel
theorem dL_law_337 : decode cL_law 337 = .ok (.iadd, 1) := by decide +kernel
theorem dL_law_338 : decode cL_law 338 = .ok (.iaload, 1) := by decide +kernel
theorem dL_law_339 : decode cL_law 339 = .ok (.invokevirtual 44, 3) := by decide +kernel
theorem dL_law_342 : decode cL_law 342 = .ok (.if_icmp .eq 475, 3) := by decide +kernel
theorem dL_law_345 : decode cL_law 345 = .ok (.iconst 0, 1) := by decide +kernel
theorem dL_law_346 : decode cL_law 346 = .ok (.ireturn, 1) := by decide +kernel
theorem dL_law_347 : decode cL_law 347 = .ok (.aload_n 1, 1) := by decide +kernel
theorem dL_law_348 : decode cL_law 348 = .ok (.aload_n 0, 1) := by decide +kernel
theorem dL_law_349 : decode cL_law 349 = .ok (.iload_n 3, 1) := by decide +kernel
theorem dL_law_350 : decode cL_law 350 = .ok (.iconst 1, 1) := by decide +kernel
theorem dL_law_351 : decode cL_law 351 = .ok (.iadd, 1) := by decide +kernel
theorem dL_law_352 : decode cL_law 352 = .ok (.iaload, 1) := by decide +kernel
theorem dL_law_353 : decode cL_law 353 = .ok (.invokevirtual 45, 3) := by decide +kernel
theorem dL_law_356 : decode cL_law 356 = .ok (.aload_n 2, 1) := by decide +kernel
theorem dL_law_357 : decode cL_law 357 = .ok (.aload_n 0, 1) := by decide +kernel
theorem dL_law_358 : decode cL_law 358 = .ok (.iload_n 3, 1) := by decide +kernel
theorem dL_law_359 : decode cL_law 359 = .ok (.iconst 1, 1) := by decide +kernel
theorem dL_law_360 : decode cL_law 360 = .ok (.iadd, 1) := by decide +kernel
theorem dL_law_361 : decode cL_law 361 = .ok (.iaload, 1) := by decide +kernel
theorem dL_law_362 : decode cL_law 362 = .ok (.invokevirtual 48, 3) := by decide +kernel
theorem dL_law_365 : decode cL_law 365 = .ok (.if_icmp .eq 452, 3) := by decide +kernel
theorem dL_law_368 : decode cL_law 368 = .ok (.iconst 0, 1) := by decide +kernel
theorem dL_law_369 : decode cL_law 369 = .ok (.ireturn, 1) := by decide +kernel
theorem dL_law_370 : decode cL_law 370 = .ok (.aload_n 1, 1) := by decide +kernel
theorem dL_law_371 : decode cL_law 371 = .ok (.aload_n 0, 1) := by decide +kernel
theorem dL_law_372 : decode cL_law 372 = .ok (.iload_n 3, 1) := by decide +kernel
theorem dL_law_373 : decode cL_law 373 = .ok (.iconst 1, 1) := by decide +kernel
theorem dL_law_374 : decode cL_law 374 = .ok (.iadd, 1) := by decide +kernel
theorem dL_law_375 : decode cL_law 375 = .ok (.iaload, 1) := by decide +kernel
theorem dL_law_376 : decode cL_law 376 = .ok (.invokevirtual 49, 3) := by decide +kernel
theorem dL_law_379 : decode cL_law 379 = .ok (.aload_n 2, 1) := by decide +kernel
theorem dL_law_380 : decode cL_law 380 = .ok (.aload_n 0, 1) := by decide +kernel
theorem dL_law_381 : decode cL_law 381 = .ok (.iload_n 3, 1) := by decide +kernel
theorem dL_law_382 : decode cL_law 382 = .ok (.iconst 1, 1) := by decide +kernel
theorem dL_law_383 : decode cL_law 383 = .ok (.iadd, 1) := by decide +kernel
theorem dL_law_384 : decode cL_law 384 = .ok (.iaload, 1) := by decide +kernel
theorem dL_law_385 : decode cL_law 385 = .ok (.invokevirtual 52, 3) := by decide +kernel
theorem dL_law_388 : decode cL_law 388 = .ok (.if_icmp .eq 429, 3) := by decide +kernel
theorem dL_law_391 : decode cL_law 391 = .ok (.iconst 0, 1) := by decide +kernel
theorem dL_law_392 : decode cL_law 392 = .ok (.ireturn, 1) := by decide +kernel
theorem dL_law_393 : decode cL_law 393 = .ok (.aload_n 1, 1) := by decide +kernel
theorem dL_law_394 : decode cL_law 394 = .ok (.aload_n 0, 1) := by decide +kernel
theorem dL_law_395 : decode cL_law 395 = .ok (.iload_n 3, 1) := by decide +kernel
theorem dL_law_396 : decode cL_law 396 = .ok (.iconst 1, 1) := by decide +kernel
theorem dL_law_397 : decode cL_law 397 = .ok (.iadd, 1) := by decide +kernel
theorem dL_law_398 : decode cL_law 398 = .ok (.iaload, 1) := by decide +kernel
theorem dL_law_399 : decode cL_law 399 = .ok (.aload_n 0, 1) := by decide +kernel
theorem dL_law_400 : decode cL_law 400 = .ok (.iload_n 3, 1) := by decide +kernel
theorem dL_law_401 : decode cL_law 401 = .ok (.iconst 2, 1) := by decide +kernel
theorem dL_law_402 : decode cL_law 402 = .ok (.iadd, 1) := by decide +kernel
theorem dL_law_403 : decode cL_law 403 = .ok (.iaload, 1) := by decide +kernel
theorem dL_law_404 : decode cL_law 404 = .ok (.invokevirtual 53, 3) := by decide +kernel
theorem dL_law_407 : decode cL_law 407 = .ok (.aload_n 2, 1) := by decide +kernel
theorem dL_law_408 : decode cL_law 408 = .ok (.aload_n 0, 1) := by decide +kernel
theorem dL_law_409 : decode cL_law 409 = .ok (.iload_n 3, 1) := by decide +kernel
theorem dL_law_410 : decode cL_law 410 = .ok (.iconst 1, 1) := by decide +kernel
theorem dL_law_411 : decode cL_law 411 = .ok (.iadd, 1) := by decide +kernel
theorem dL_law_412 : decode cL_law 412 = .ok (.iaload, 1) := by decide +kernel
theorem dL_law_413 : decode cL_law 413 = .ok (.aload_n 0, 1) := by decide +kernel
theorem dL_law_414 : decode cL_law 414 = .ok (.iload_n 3, 1) := by decide +kernel
theorem dL_law_415 : decode cL_law 415 = .ok (.iconst 2, 1) := by decide +kernel
theorem dL_law_416 : decode cL_law 416 = .ok (.iadd, 1) := by decide +kernel
theorem dL_law_417 : decode cL_law 417 = .ok (.iaload, 1) := by decide +kernel
theorem dL_law_418 : decode cL_law 418 = .ok (.invokevirtual 56, 3) := by decide +kernel
theorem dL_law_421 : decode cL_law 421 = .ok (.if_icmp .eq 396, 3) := by decide +kernel
theorem dL_law_424 : decode cL_law 424 = .ok (.iconst 0, 1) := by decide +kernel
theorem dL_law_425 : decode cL_law 425 = .ok (.ireturn, 1) := by decide +kernel
theorem dL_law_426 : decode cL_law 426 = .ok (.aload_n 1, 1) := by decide +kernel
theorem dL_law_427 : decode cL_law 427 = .ok (.invokevirtual 57, 3) := by decide +kernel
theorem dL_law_430 : decode cL_law 430 = .ok (.aload_n 2, 1) := by decide +kernel
theorem dL_law_431 : decode cL_law 431 = .ok (.invokevirtual 60, 3) := by decide +kernel
theorem dL_law_434 : decode cL_law 434 = .ok (.if_icmp .eq 383, 3) := by decide +kernel
theorem dL_law_437 : decode cL_law 437 = .ok (.iconst 0, 1) := by decide +kernel
theorem dL_law_438 : decode cL_law 438 = .ok (.ireturn, 1) := by decide +kernel
theorem dL_law_439 : decode cL_law 439 = .ok (.aload_n 1, 1) := by decide +kernel
theorem dL_law_440 : decode cL_law 440 = .ok (.aload_n 0, 1) := by decide +kernel
theorem dL_law_441 : decode cL_law 441 = .ok (.iload_n 3, 1) := by decide +kernel
theorem dL_law_442 : decode cL_law 442 = .ok (.iconst 1, 1) := by decide +kernel
theorem dL_law_443 : decode cL_law 443 = .ok (.iadd, 1) := by decide +kernel
theorem dL_law_444 : decode cL_law 444 = .ok (.iaload, 1) := by decide +kernel
theorem dL_law_445 : decode cL_law 445 = .ok (.aload_n 0, 1) := by decide +kernel
theorem dL_law_446 : decode cL_law 446 = .ok (.iload_n 3, 1) := by decide +kernel
theorem dL_law_447 : decode cL_law 447 = .ok (.iconst 2, 1) := by decide +kernel
theorem dL_law_448 : decode cL_law 448 = .ok (.iadd, 1) := by decide +kernel
theorem dL_law_449 : decode cL_law 449 = .ok (.iaload, 1) := by decide +kernel
theorem dL_law_450 : decode cL_law 450 = .ok (.aload_n 0, 1) := by decide +kernel
theorem dL_law_451 : decode cL_law 451 = .ok (.iload_n 3, 1) := by decide +kernel
theorem dL_law_452 : decode cL_law 452 = .ok (.iconst 3, 1) := by decide +kernel
theorem dL_law_453 : decode cL_law 453 = .ok (.iadd, 1) := by decide +kernel
theorem dL_law_454 : decode cL_law 454 = .ok (.iaload, 1) := by decide +kernel
theorem dL_law_455 : decode cL_law 455 = .ok (.invokevirtual 61, 3) := by decide +kernel
theorem dL_law_458 : decode cL_law 458 = .ok (.aload_n 2, 1) := by decide +kernel
theorem dL_law_459 : decode cL_law 459 = .ok (.aload_n 0, 1) := by decide +kernel
theorem dL_law_460 : decode cL_law 460 = .ok (.iload_n 3, 1) := by decide +kernel
theorem dL_law_461 : decode cL_law 461 = .ok (.iconst 1, 1) := by decide +kernel
theorem dL_law_462 : decode cL_law 462 = .ok (.iadd, 1) := by decide +kernel
theorem dL_law_463 : decode cL_law 463 = .ok (.iaload, 1) := by decide +kernel
theorem dL_law_464 : decode cL_law 464 = .ok (.aload_n 0, 1) := by decide +kernel
theorem dL_law_465 : decode cL_law 465 = .ok (.iload_n 3, 1) := by decide +kernel
theorem dL_law_466 : decode cL_law 466 = .ok (.iconst 2, 1) := by decide +kernel
theorem dL_law_467 : decode cL_law 467 = .ok (.iadd, 1) := by decide +kernel
theorem dL_law_468 : decode cL_law 468 = .ok (.iaload, 1) := by decide +kernel
theorem dL_law_469 : decode cL_law 469 = .ok (.aload_n 0, 1) := by decide +kernel
theorem dL_law_470 : decode cL_law 470 = .ok (.iload_n 3, 1) := by decide +kernel
theorem dL_law_471 : decode cL_law 471 = .ok (.iconst 3, 1) := by decide +kernel
theorem dL_law_472 : decode cL_law 472 = .ok (.iadd, 1) := by decide +kernel
theorem dL_law_473 : decode cL_law 473 = .ok (.iaload, 1) := by decide +kernel
theorem dL_law_474 : decode cL_law 474 = .ok (.invokevirtual 65, 3) := by decide +kernel
theorem dL_law_477 : decode cL_law 477 = .ok (.if_icmp .eq 340, 3) := by decide +kernel
theorem dL_law_480 : decode cL_law 480 = .ok (.iconst 0, 1) := by decide +kernel
theorem dL_law_481 : decode cL_law 481 = .ok (.ireturn, 1) := by decide +kernel
theorem dL_law_482 : decode cL_law 482 = .ok (.aload_n 1, 1) := by decide +kernel
theorem dL_law_483 : decode cL_law 483 = .ok (.aload_n 0, 1) := by decide +kernel
theorem dL_law_484 : decode cL_law 484 = .ok (.iload_n 3, 1) := by decide +kernel
theorem dL_law_485 : decode cL_law 485 = .ok (.iconst 1, 1) := by decide +kernel
theorem dL_law_486 : decode cL_law 486 = .ok (.iadd, 1) := by decide +kernel
theorem dL_law_487 : decode cL_law 487 = .ok (.iaload, 1) := by decide +kernel
theorem dL_law_488 : decode cL_law 488 = .ok (.invokevirtual 66, 3) := by decide +kernel
theorem dL_law_491 : decode cL_law 491 = .ok (.aload_n 2, 1) := by decide +kernel
theorem dL_law_492 : decode cL_law 492 = .ok (.aload_n 0, 1) := by decide +kernel
theorem dL_law_493 : decode cL_law 493 = .ok (.iload_n 3, 1) := by decide +kernel
theorem dL_law_494 : decode cL_law 494 = .ok (.iconst 1, 1) := by decide +kernel
theorem dL_law_495 : decode cL_law 495 = .ok (.iadd, 1) := by decide +kernel
theorem dL_law_496 : decode cL_law 496 = .ok (.iaload, 1) := by decide +kernel
theorem dL_law_497 : decode cL_law 497 = .ok (.invokevirtual 69, 3) := by decide +kernel
theorem dL_law_500 : decode cL_law 500 = .ok (.if_icmp .eq 317, 3) := by decide +kernel
theorem dL_law_503 : decode cL_law 503 = .ok (.iconst 0, 1) := by decide +kernel
theorem dL_law_504 : decode cL_law 504 = .ok (.ireturn, 1) := by decide +kernel
theorem dL_law_505 : decode cL_law 505 = .ok (.aload_n 1, 1) := by decide +kernel
theorem dL_law_506 : decode cL_law 506 = .ok (.aload_n 0, 1) := by decide +kernel
theorem dL_law_507 : decode cL_law 507 = .ok (.iload_n 3, 1) := by decide +kernel
theorem dL_law_508 : decode cL_law 508 = .ok (.iconst 1, 1) := by decide +kernel
theorem dL_law_509 : decode cL_law 509 = .ok (.iadd, 1) := by decide +kernel
theorem dL_law_510 : decode cL_law 510 = .ok (.iaload, 1) := by decide +kernel
theorem dL_law_511 : decode cL_law 511 = .ok (.invokevirtual 70, 3) := by decide +kernel
theorem dL_law_514 : decode cL_law 514 = .ok (.aload_n 2, 1) := by decide +kernel
theorem dL_law_515 : decode cL_law 515 = .ok (.aload_n 0, 1) := by decide +kernel
theorem dL_law_516 : decode cL_law 516 = .ok (.iload_n 3, 1) := by decide +kernel
theorem dL_law_517 : decode cL_law 517 = .ok (.iconst 1, 1) := by decide +kernel
theorem dL_law_518 : decode cL_law 518 = .ok (.iadd, 1) := by decide +kernel
theorem dL_law_519 : decode cL_law 519 = .ok (.iaload, 1) := by decide +kernel
theorem dL_law_520 : decode cL_law 520 = .ok (.invokevirtual 73, 3) := by decide +kernel
theorem dL_law_523 : decode cL_law 523 = .ok (.if_icmp .eq 294, 3) := by decide +kernel
theorem dL_law_526 : decode cL_law 526 = .ok (.iconst 0, 1) := by decide +kernel
theorem dL_law_527 : decode cL_law 527 = .ok (.ireturn, 1) := by decide +kernel
theorem dL_law_528 : decode cL_law 528 = .ok (.aload_n 1, 1) := by decide +kernel
theorem dL_law_529 : decode cL_law 529 = .ok (.aload_n 0, 1) := by decide +kernel
theorem dL_law_530 : decode cL_law 530 = .ok (.iload_n 3, 1) := by decide +kernel
theorem dL_law_531 : decode cL_law 531 = .ok (.iconst 1, 1) := by decide +kernel
theorem dL_law_532 : decode cL_law 532 = .ok (.iadd, 1) := by decide +kernel
theorem dL_law_533 : decode cL_law 533 = .ok (.iaload, 1) := by decide +kernel
theorem dL_law_534 : decode cL_law 534 = .ok (.aload_n 0, 1) := by decide +kernel
theorem dL_law_535 : decode cL_law 535 = .ok (.iload_n 3, 1) := by decide +kernel
theorem dL_law_536 : decode cL_law 536 = .ok (.iconst 2, 1) := by decide +kernel
theorem dL_law_537 : decode cL_law 537 = .ok (.iadd, 1) := by decide +kernel
theorem dL_law_538 : decode cL_law 538 = .ok (.iaload, 1) := by decide +kernel
theorem dL_law_539 : decode cL_law 539 = .ok (.invokevirtual 74, 3) := by decide +kernel
theorem dL_law_542 : decode cL_law 542 = .ok (.aload_n 2, 1) := by decide +kernel
theorem dL_law_543 : decode cL_law 543 = .ok (.aload_n 0, 1) := by decide +kernel
theorem dL_law_544 : decode cL_law 544 = .ok (.iload_n 3, 1) := by decide +kernel
theorem dL_law_545 : decode cL_law 545 = .ok (.iconst 1, 1) := by decide +kernel
theorem dL_law_546 : decode cL_law 546 = .ok (.iadd, 1) := by decide +kernel
theorem dL_law_547 : decode cL_law 547 = .ok (.iaload, 1) := by decide +kernel
theorem dL_law_548 : decode cL_law 548 = .ok (.aload_n 0, 1) := by decide +kernel
theorem dL_law_549 : decode cL_law 549 = .ok (.iload_n 3, 1) := by decide +kernel
theorem dL_law_550 : decode cL_law 550 = .ok (.iconst 2, 1) := by decide +kernel
theorem dL_law_551 : decode cL_law 551 = .ok (.iadd, 1) := by decide +kernel
theorem dL_law_552 : decode cL_law 552 = .ok (.iaload, 1) := by decide +kernel
theorem dL_law_553 : decode cL_law 553 = .ok (.invokevirtual 77, 3) := by decide +kernel
theorem dL_law_556 : decode cL_law 556 = .ok (.if_icmp .eq 261, 3) := by decide +kernel
theorem dL_law_559 : decode cL_law 559 = .ok (.iconst 0, 1) := by decide +kernel
theorem dL_law_560 : decode cL_law 560 = .ok (.ireturn, 1) := by decide +kernel
theorem dL_law_561 : decode cL_law 561 = .ok (.aload_n 1, 1) := by decide +kernel
theorem dL_law_562 : decode cL_law 562 = .ok (.aload_n 0, 1) := by decide +kernel
theorem dL_law_563 : decode cL_law 563 = .ok (.iload_n 3, 1) := by decide +kernel
theorem dL_law_564 : decode cL_law 564 = .ok (.iconst 1, 1) := by decide +kernel
theorem dL_law_565 : decode cL_law 565 = .ok (.iadd, 1) := by decide +kernel
theorem dL_law_566 : decode cL_law 566 = .ok (.iaload, 1) := by decide +kernel
theorem dL_law_567 : decode cL_law 567 = .ok (.aload_n 0, 1) := by decide +kernel
theorem dL_law_568 : decode cL_law 568 = .ok (.iload_n 3, 1) := by decide +kernel
theorem dL_law_569 : decode cL_law 569 = .ok (.iconst 2, 1) := by decide +kernel
theorem dL_law_570 : decode cL_law 570 = .ok (.iadd, 1) := by decide +kernel
theorem dL_law_571 : decode cL_law 571 = .ok (.iaload, 1) := by decide +kernel
theorem dL_law_572 : decode cL_law 572 = .ok (.invokevirtual 78, 3) := by decide +kernel
theorem dL_law_575 : decode cL_law 575 = .ok (.aload_n 2, 1) := by decide +kernel
theorem dL_law_576 : decode cL_law 576 = .ok (.aload_n 0, 1) := by decide +kernel
theorem dL_law_577 : decode cL_law 577 = .ok (.iload_n 3, 1) := by decide +kernel
theorem dL_law_578 : decode cL_law 578 = .ok (.iconst 1, 1) := by decide +kernel
theorem dL_law_579 : decode cL_law 579 = .ok (.iadd, 1) := by decide +kernel
theorem dL_law_580 : decode cL_law 580 = .ok (.iaload, 1) := by decide +kernel
theorem dL_law_581 : decode cL_law 581 = .ok (.aload_n 0, 1) := by decide +kernel
theorem dL_law_582 : decode cL_law 582 = .ok (.iload_n 3, 1) := by decide +kernel
theorem dL_law_583 : decode cL_law 583 = .ok (.iconst 2, 1) := by decide +kernel
theorem dL_law_584 : decode cL_law 584 = .ok (.iadd, 1) := by decide +kernel
theorem dL_law_585 : decode cL_law 585 = .ok (.iaload, 1) := by decide +kernel
theorem dL_law_586 : decode cL_law 586 = .ok (.invokevirtual 81, 3) := by decide +kernel
theorem dL_law_589 : decode cL_law 589 = .ok (.if_icmp .eq 228, 3) := by decide +kernel
theorem dL_law_592 : decode cL_law 592 = .ok (.iconst 0, 1) := by decide +kernel
theorem dL_law_593 : decode cL_law 593 = .ok (.ireturn, 1) := by decide +kernel
theorem dL_law_594 : decode cL_law 594 = .ok (.aload_n 1, 1) := by decide +kernel
theorem dL_law_595 : decode cL_law 595 = .ok (.aload_n 0, 1) := by decide +kernel
theorem dL_law_596 : decode cL_law 596 = .ok (.iload_n 3, 1) := by decide +kernel
theorem dL_law_597 : decode cL_law 597 = .ok (.iconst 1, 1) := by decide +kernel
theorem dL_law_598 : decode cL_law 598 = .ok (.iadd, 1) := by decide +kernel
theorem dL_law_599 : decode cL_law 599 = .ok (.iaload, 1) := by decide +kernel
theorem dL_law_600 : decode cL_law 600 = .ok (.invokevirtual 82, 3) := by decide +kernel
theorem dL_law_603 : decode cL_law 603 = .ok (.aload_n 2, 1) := by decide +kernel
theorem dL_law_604 : decode cL_law 604 = .ok (.aload_n 0, 1) := by decide +kernel
theorem dL_law_605 : decode cL_law 605 = .ok (.iload_n 3, 1) := by decide +kernel
theorem dL_law_606 : decode cL_law 606 = .ok (.iconst 1, 1) := by decide +kernel
theorem dL_law_607 : decode cL_law 607 = .ok (.iadd, 1) := by decide +kernel
theorem dL_law_608 : decode cL_law 608 = .ok (.iaload, 1) := by decide +kernel
theorem dL_law_609 : decode cL_law 609 = .ok (.invokevirtual 85, 3) := by decide +kernel
theorem dL_law_612 : decode cL_law 612 = .ok (.if_icmp .eq 205, 3) := by decide +kernel
theorem dL_law_615 : decode cL_law 615 = .ok (.iconst 0, 1) := by decide +kernel
theorem dL_law_616 : decode cL_law 616 = .ok (.ireturn, 1) := by decide +kernel
theorem dL_law_617 : decode cL_law 617 = .ok (.aload_n 1, 1) := by decide +kernel
theorem dL_law_618 : decode cL_law 618 = .ok (.aload_n 0, 1) := by decide +kernel
theorem dL_law_619 : decode cL_law 619 = .ok (.iload_n 3, 1) := by decide +kernel
theorem dL_law_620 : decode cL_law 620 = .ok (.iconst 1, 1) := by decide +kernel
theorem dL_law_621 : decode cL_law 621 = .ok (.iadd, 1) := by decide +kernel
theorem dL_law_622 : decode cL_law 622 = .ok (.iaload, 1) := by decide +kernel
theorem dL_law_623 : decode cL_law 623 = .ok (.aload_n 0, 1) := by decide +kernel
theorem dL_law_624 : decode cL_law 624 = .ok (.iload_n 3, 1) := by decide +kernel
theorem dL_law_625 : decode cL_law 625 = .ok (.iconst 2, 1) := by decide +kernel
theorem dL_law_626 : decode cL_law 626 = .ok (.iadd, 1) := by decide +kernel
theorem dL_law_627 : decode cL_law 627 = .ok (.iaload, 1) := by decide +kernel
theorem dL_law_628 : decode cL_law 628 = .ok (.invokevirtual 86, 3) := by decide +kernel
theorem dL_law_631 : decode cL_law 631 = .ok (.aload_n 2, 1) := by decide +kernel
theorem dL_law_632 : decode cL_law 632 = .ok (.aload_n 0, 1) := by decide +kernel
theorem dL_law_633 : decode cL_law 633 = .ok (.iload_n 3, 1) := by decide +kernel
theorem dL_law_634 : decode cL_law 634 = .ok (.iconst 1, 1) := by decide +kernel
theorem dL_law_635 : decode cL_law 635 = .ok (.iadd, 1) := by decide +kernel
theorem dL_law_636 : decode cL_law 636 = .ok (.iaload, 1) := by decide +kernel
theorem dL_law_637 : decode cL_law 637 = .ok (.aload_n 0, 1) := by decide +kernel
theorem dL_law_638 : decode cL_law 638 = .ok (.iload_n 3, 1) := by decide +kernel
theorem dL_law_639 : decode cL_law 639 = .ok (.iconst 2, 1) := by decide +kernel
theorem dL_law_640 : decode cL_law 640 = .ok (.iadd, 1) := by decide +kernel
theorem dL_law_641 : decode cL_law 641 = .ok (.iaload, 1) := by decide +kernel
theorem dL_law_642 : decode cL_law 642 = .ok (.invokevirtual 89, 3) := by decide +kernel
theorem dL_law_645 : decode cL_law 645 = .ok (.if_icmp .eq 172, 3) := by decide +kernel
theorem dL_law_648 : decode cL_law 648 = .ok (.iconst 0, 1) := by decide +kernel
theorem dL_law_649 : decode cL_law 649 = .ok (.ireturn, 1) := by decide +kernel
theorem dL_law_650 : decode cL_law 650 = .ok (.aload_n 1, 1) := by decide +kernel
theorem dL_law_651 : decode cL_law 651 = .ok (.invokevirtual 90, 3) := by decide +kernel
theorem dL_law_654 : decode cL_law 654 = .ok (.aload_n 2, 1) := by decide +kernel
theorem dL_law_655 : decode cL_law 655 = .ok (.invokevirtual 93, 3) := by decide +kernel
theorem dL_law_658 : decode cL_law 658 = .ok (.if_icmp .eq 159, 3) := by decide +kernel
theorem dL_law_661 : decode cL_law 661 = .ok (.iconst 0, 1) := by decide +kernel
theorem dL_law_662 : decode cL_law 662 = .ok (.ireturn, 1) := by decide +kernel
theorem dL_law_663 : decode cL_law 663 = .ok (.aload_n 1, 1) := by decide +kernel
theorem dL_law_664 : decode cL_law 664 = .ok (.invokevirtual 94, 3) := by decide +kernel
theorem dL_law_667 : decode cL_law 667 = .ok (.aload_n 2, 1) := by decide +kernel
theorem dL_law_668 : decode cL_law 668 = .ok (.invokevirtual 97, 3) := by decide +kernel
theorem dL_law_671 : decode cL_law 671 = .ok (.if_icmp .eq 146, 3) := by decide +kernel
theorem dL_law_674 : decode cL_law 674 = .ok (.iconst 0, 1) := by decide +kernel
theorem dL_law_675 : decode cL_law 675 = .ok (.ireturn, 1) := by decide +kernel
theorem dL_law_676 : decode cL_law 676 = .ok (.aload_n 1, 1) := by decide +kernel
theorem dL_law_677 : decode cL_law 677 = .ok (.invokevirtual 98, 3) := by decide +kernel
theorem dL_law_680 : decode cL_law 680 = .ok (.aload_n 2, 1) := by decide +kernel
theorem dL_law_681 : decode cL_law 681 = .ok (.invokevirtual 101, 3) := by decide +kernel
theorem dL_law_684 : decode cL_law 684 = .ok (.if_icmp .eq 133, 3) := by decide +kernel
theorem dL_law_687 : decode cL_law 687 = .ok (.iconst 0, 1) := by decide +kernel
theorem dL_law_688 : decode cL_law 688 = .ok (.ireturn, 1) := by decide +kernel
theorem dL_law_689 : decode cL_law 689 = .ok (.aload_n 1, 1) := by decide +kernel
theorem dL_law_690 : decode cL_law 690 = .ok (.aload_n 0, 1) := by decide +kernel
theorem dL_law_691 : decode cL_law 691 = .ok (.iload_n 3, 1) := by decide +kernel
theorem dL_law_692 : decode cL_law 692 = .ok (.iconst 1, 1) := by decide +kernel
theorem dL_law_693 : decode cL_law 693 = .ok (.iadd, 1) := by decide +kernel
theorem dL_law_694 : decode cL_law 694 = .ok (.iaload, 1) := by decide +kernel
theorem dL_law_695 : decode cL_law 695 = .ok (.aload_n 0, 1) := by decide +kernel
theorem dL_law_696 : decode cL_law 696 = .ok (.iload_n 3, 1) := by decide +kernel
theorem dL_law_697 : decode cL_law 697 = .ok (.iconst 2, 1) := by decide +kernel
theorem dL_law_698 : decode cL_law 698 = .ok (.iadd, 1) := by decide +kernel
theorem dL_law_699 : decode cL_law 699 = .ok (.iaload, 1) := by decide +kernel
theorem dL_law_700 : decode cL_law 700 = .ok (.invokevirtual 102, 3) := by decide +kernel
theorem dL_law_703 : decode cL_law 703 = .ok (.aload_n 2, 1) := by decide +kernel
theorem dL_law_704 : decode cL_law 704 = .ok (.aload_n 0, 1) := by decide +kernel
theorem dL_law_705 : decode cL_law 705 = .ok (.iload_n 3, 1) := by decide +kernel
theorem dL_law_706 : decode cL_law 706 = .ok (.iconst 1, 1) := by decide +kernel
theorem dL_law_707 : decode cL_law 707 = .ok (.iadd, 1) := by decide +kernel
theorem dL_law_708 : decode cL_law 708 = .ok (.iaload, 1) := by decide +kernel
theorem dL_law_709 : decode cL_law 709 = .ok (.aload_n 0, 1) := by decide +kernel
theorem dL_law_710 : decode cL_law 710 = .ok (.iload_n 3, 1) := by decide +kernel
theorem dL_law_711 : decode cL_law 711 = .ok (.iconst 2, 1) := by decide +kernel
theorem dL_law_712 : decode cL_law 712 = .ok (.iadd, 1) := by decide +kernel
theorem dL_law_713 : decode cL_law 713 = .ok (.iaload, 1) := by decide +kernel
theorem dL_law_714 : decode cL_law 714 = .ok (.invokevirtual 105, 3) := by decide +kernel
theorem dL_law_717 : decode cL_law 717 = .ok (.if_icmp .eq 100, 3) := by decide +kernel
theorem dL_law_720 : decode cL_law 720 = .ok (.iconst 0, 1) := by decide +kernel
theorem dL_law_721 : decode cL_law 721 = .ok (.ireturn, 1) := by decide +kernel
theorem dL_law_722 : decode cL_law 722 = .ok (.aload_n 1, 1) := by decide +kernel
theorem dL_law_723 : decode cL_law 723 = .ok (.invokevirtual 106, 3) := by decide +kernel
theorem dL_law_726 : decode cL_law 726 = .ok (.aload_n 2, 1) := by decide +kernel
theorem dL_law_727 : decode cL_law 727 = .ok (.invokevirtual 109, 3) := by decide +kernel
theorem dL_law_730 : decode cL_law 730 = .ok (.if_icmp .eq 87, 3) := by decide +kernel
theorem dL_law_733 : decode cL_law 733 = .ok (.iconst 0, 1) := by decide +kernel
theorem dL_law_734 : decode cL_law 734 = .ok (.ireturn, 1) := by decide +kernel
theorem dL_law_735 : decode cL_law 735 = .ok (.aload_n 1, 1) := by decide +kernel
theorem dL_law_736 : decode cL_law 736 = .ok (.invokevirtual 110, 3) := by decide +kernel
theorem dL_law_739 : decode cL_law 739 = .ok (.aload_n 2, 1) := by decide +kernel
theorem dL_law_740 : decode cL_law 740 = .ok (.invokevirtual 113, 3) := by decide +kernel
theorem dL_law_743 : decode cL_law 743 = .ok (.if_icmp .eq 74, 3) := by decide +kernel
theorem dL_law_746 : decode cL_law 746 = .ok (.iconst 0, 1) := by decide +kernel
theorem dL_law_747 : decode cL_law 747 = .ok (.ireturn, 1) := by decide +kernel
theorem dL_law_748 : decode cL_law 748 = .ok (.aload_n 1, 1) := by decide +kernel
theorem dL_law_749 : decode cL_law 749 = .ok (.aload_n 0, 1) := by decide +kernel
theorem dL_law_750 : decode cL_law 750 = .ok (.iload_n 3, 1) := by decide +kernel
theorem dL_law_751 : decode cL_law 751 = .ok (.iconst 1, 1) := by decide +kernel
theorem dL_law_752 : decode cL_law 752 = .ok (.iadd, 1) := by decide +kernel
theorem dL_law_753 : decode cL_law 753 = .ok (.iaload, 1) := by decide +kernel
theorem dL_law_754 : decode cL_law 754 = .ok (.invokevirtual 114, 3) := by decide +kernel
theorem dL_law_757 : decode cL_law 757 = .ok (.aload_n 2, 1) := by decide +kernel
theorem dL_law_758 : decode cL_law 758 = .ok (.aload_n 0, 1) := by decide +kernel
theorem dL_law_759 : decode cL_law 759 = .ok (.iload_n 3, 1) := by decide +kernel
theorem dL_law_760 : decode cL_law 760 = .ok (.iconst 1, 1) := by decide +kernel
theorem dL_law_761 : decode cL_law 761 = .ok (.iadd, 1) := by decide +kernel
theorem dL_law_762 : decode cL_law 762 = .ok (.iaload, 1) := by decide +kernel
theorem dL_law_763 : decode cL_law 763 = .ok (.invokevirtual 117, 3) := by decide +kernel
theorem dL_law_766 : decode cL_law 766 = .ok (.if_icmp .eq 51, 3) := by decide +kernel
theorem dL_law_769 : decode cL_law 769 = .ok (.iconst 0, 1) := by decide +kernel
theorem dL_law_770 : decode cL_law 770 = .ok (.ireturn, 1) := by decide +kernel
theorem dL_law_771 : decode cL_law 771 = .ok (.aload_n 1, 1) := by decide +kernel
theorem dL_law_772 : decode cL_law 772 = .ok (.aload_n 0, 1) := by decide +kernel
theorem dL_law_773 : decode cL_law 773 = .ok (.iload_n 3, 1) := by decide +kernel
theorem dL_law_774 : decode cL_law 774 = .ok (.iconst 1, 1) := by decide +kernel
theorem dL_law_775 : decode cL_law 775 = .ok (.iadd, 1) := by decide +kernel
theorem dL_law_776 : decode cL_law 776 = .ok (.iaload, 1) := by decide +kernel
theorem dL_law_777 : decode cL_law 777 = .ok (.invokevirtual 118, 3) := by decide +kernel
theorem dL_law_780 : decode cL_law 780 = .ok (.aload_n 2, 1) := by decide +kernel
theorem dL_law_781 : decode cL_law 781 = .ok (.aload_n 0, 1) := by decide +kernel
theorem dL_law_782 : decode cL_law 782 = .ok (.iload_n 3, 1) := by decide +kernel
theorem dL_law_783 : decode cL_law 783 = .ok (.iconst 1, 1) := by decide +kernel
theorem dL_law_784 : decode cL_law 784 = .ok (.iadd, 1) := by decide +kernel
theorem dL_law_785 : decode cL_law 785 = .ok (.iaload, 1) := by decide +kernel
theorem dL_law_786 : decode cL_law 786 = .ok (.invokevirtual 121, 3) := by decide +kernel
theorem dL_law_789 : decode cL_law 789 = .ok (.if_icmp .eq 28, 3) := by decide +kernel
theorem dL_law_792 : decode cL_law 792 = .ok (.iconst 0, 1) := by decide +kernel
theorem dL_law_793 : decode cL_law 793 = .ok (.ireturn, 1) := by decide +kernel
theorem dL_law_794 : decode cL_law 794 = .ok (.aload_n 1, 1) := by decide +kernel
theorem dL_law_795 : decode cL_law 795 = .ok (.aload_n 0, 1) := by decide +kernel
theorem dL_law_796 : decode cL_law 796 = .ok (.iload_n 3, 1) := by decide +kernel
theorem dL_law_797 : decode cL_law 797 = .ok (.iconst 1, 1) := by decide +kernel
theorem dL_law_798 : decode cL_law 798 = .ok (.iadd, 1) := by decide +kernel
theorem dL_law_799 : decode cL_law 799 = .ok (.iaload, 1) := by decide +kernel
theorem dL_law_800 : decode cL_law 800 = .ok (.invokevirtual 122, 3) := by decide +kernel
theorem dL_law_803 : decode cL_law 803 = .ok (.aload_n 2, 1) := by decide +kernel
theorem dL_law_804 : decode cL_law 804 = .ok (.aload_n 0, 1) := by decide +kernel
theorem dL_law_805 : decode cL_law 805 = .ok (.iload_n 3, 1) := by decide +kernel
theorem dL_law_806 : decode cL_law 806 = .ok (.iconst 1, 1) := by decide +kernel
theorem dL_law_807 : decode cL_law 807 = .ok (.iadd, 1) := by decide +kernel
theorem dL_law_808 : decode cL_law 808 = .ok (.iaload, 1) := by decide +kernel
theorem dL_law_809 : decode cL_law 809 = .ok (.invokevirtual 125, 3) := by decide +kernel
theorem dL_law_812 : decode cL_law 812 = .ok (.if_icmp .eq 5, 3) := by decide +kernel
theorem dL_law_815 : decode cL_law 815 = .ok (.iconst 0, 1) := by decide +kernel
theorem dL_law_816 : decode cL_law 816 = .ok (.ireturn, 1) := by decide +kernel
theorem dL_law_817 : decode cL_law 817 = .ok (.iinc 3 5, 3) := by decide +kernel
theorem dL_law_820 : decode cL_law 820 = .ok (.goto (-802), 3) := by decide +kernel
theorem dL_law_823 : decode cL_law 823 = .ok (.iconst 1, 1) := by decide +kernel
theorem dL_law_824 : decode cL_law 824 = .ok (.ireturn, 1) := by decide +kernel
end
section
/-! THE GENERIC LAYER. A memory of places: the k-th cell that the law's run makes lies at the address a0 + k; its shape (kind, length) is known ahead (gw_SH). Kinds 0 .. 5: an object of that class of vwCl; 10 int[], 11 boolean[], 12 Piece[], 13 int[][]. Ints are held as Int, modulo 2^32. -/
/-- values by places: an int, or a reference (none: null) -/
abbrev gw_V : Type := Int ⊕ Option Nat
/-- how many cells there are, their ints, their references -/
abbrev gw_M : Type := Nat × (Nat → Nat → Int) × (Nat → Nat → Option Nat)
/-- the classes' numbers and slots; the array classes of int[], boolean[], Piece[], int[][]; the first address -/
abbrev gw_E : Type := va_G × ClassId × ClassId × ClassId × ClassId × Nat
abbrev gw_a (E : gw_E) : Nat := E.2.2.2.2.2
/-- a method: its name, code, locals, answer, cells and slots that it makes -/
abbrev gw_J : Type := MethodName × ByteArray × Nat × Option FieldType × Nat × Nat
def gw_val (a0 : Nat) (v : gw_V) : Value := match v with
  | .inl x => .int (Int32.ofInt x)
  | .inr r => va_rf (r.map (fun k => a0 + k))
def gw_ty (c : Nat) : Nat → FieldType := match c with
  | 0 => tyX0
  | 1 => tyX1
  | 2 => tyX2
  | 3 => tyX3
  | 4 => tyX4
  | _ => tyX5
def gw_isr (t : FieldType) : Bool := match t with
  | .object _ => true
  | .array _ => true
  | _ => false
abbrev gw_isR (c k : Nat) : Bool := gw_isr (gw_ty c k)
def gw_fs (a0 : Nat) (I : Nat → Int) (F : Nat → Option Nat) (c n : Nat) : List Value := (List.range n).map (fun k => if gw_isR c k = true then va_rf ((F k).map (fun k => a0 + k)) else .int (Int32.ofInt (I k)))
def gw_cell (E : gw_E) (sh : Nat × Nat) (I : Nat → Int) (F : Nat → Option Nat) : va_E := match sh.1 with
  | 10 => .inl (E.2.1, sh.2, .inl (fun i => Int32.ofInt (I i)))
  | 11 => .inl (E.2.2.1, sh.2, .inl (fun i => Int32.ofInt (I i)))
  | 12 => .inl (E.2.2.2.1, sh.2, .inr (.inr (.inr (.inr (fun i => (F i).map (fun k => gw_a E + k))))))
  | 13 => .inl (E.2.2.2.2.1, sh.2, .inr (.inr (.inr (.inr (fun i => (F i).map (fun k => gw_a E + k))))))
  | c => .inr (c, gw_fs (gw_a E) I F c sh.2)
def gw_SH : List (Nat × Nat) := [(4, 12), (2, 10), (0, 7), (10, 4), (10, 4), (10, 4), (10, 4), (10, 4), (1, 5), (10, 24), (10, 150), (10, 3), (3, 12), (0, 7), (10, 4), (10, 4), (10, 4), (10, 4), (10, 4), (1, 5), (10, 24), (13, 32), (10, 7), (10, 7), (10, 7), (10, 7), (10, 7), (10, 7), (10, 7), (10, 7), (10, 7), (10, 7), (10, 7), (10, 7), (10, 7), (10, 7), (10, 7), (10, 7), (10, 7), (10, 7), (10, 7), (10, 7), (10, 7), (10, 7), (10, 7), (10, 7), (10, 7), (10, 7), (10, 7), (10, 7), (10, 7), (10, 7), (10, 7), (10, 7), (10, 32), (13, 8), (10, 784), (10, 784), (10, 784), (10, 784), (10, 784), (10, 784), (10, 784), (10, 784), (10, 784), (10, 7), (10, 784), (10, 784), (10, 9), (10, 32), (12, 10), (12, 2), (11, 2), (10, 6), (10, 6), (1, 5), (10, 24), (1, 5), (10, 24), (1, 5), (10, 24), (1, 5), (10, 24), (1, 5), (10, 24), (1, 5), (10, 24), (1, 5), (10, 24), (1, 5), (10, 24), (1, 5), (10, 24), (1, 5), (10, 24), (1, 5), (10, 24), (1, 5), (10, 24), (5, 23), (10, 20), (10, 36), (10, 360), (11, 2), (10, 72), (10, 6), (10, 6), (10, 20), (10, 36), (10, 150), (10, 6272), (10, 8), (10, 6272), (10, 8)]
def gw_sh (k : Nat) : Nat × Nat := gw_SH.getD k (99, 0)
/-- the heap holds the memory, and nothing behind it -/
def gw_P (E : gw_E) (μ : gw_M) (H : Heap) : Prop := H.size = gw_a E + μ.1 ∧ ∀ k, k < μ.1 → va_at E.1 vwCl (gw_a E + k, gw_cell E (gw_sh k) (μ.2.1 k) (μ.2.2 k)) H
abbrev gw_tys (E : gw_E) : List (ClassId × FieldType) := [(E.2.1, .int), (E.2.2.1, .boolean), (E.2.2.2.1, .object RX1), (E.2.2.2.2.1, .array .int)]
def gw_Nw (s : State) : Prop := ∀ (a : String) (i : Nat) (x : MethodName) (h : String), Cond.methodLinkNest a i x h ∈ tables_1 → va_Nw (.methodLinkNest a i x h) s
def gw_AO (s : State) : Prop := (Cond.arrayOver (.array .int)).before #[] s = true
def gw_K (E : gw_E) (s : State) : Prop := va_K E.1 vwCl (gw_tys E) s ∧ gw_Nw s ∧ va_AO RX1 s ∧ gw_AO s
def gw_Tb : List Cond := lw_tbl.filter goodWord
/-- what holds of a method's frame -/
def gw_X (E : gw_E) (j : gw_J) (p : Program) (s : State) (m : MethodId) (args : Array Value) (meth : Method) (c : Code) : Prop := p.tables.exec = Jvm.exec ∧ c.code = j.2.1 ∧ c.maxLocals = j.2.2.1 ∧ s.vm.findClass j.1.cls = some m.cls ∧ (∀ w ∈ gw_Tb, w.before args s = true) ∧ meth.locks = false ∧ meth.sig.returnType = j.2.2.2.1 ∧ meth.name = j.1.name ∧ gw_K E s
/-- the locals -/
def gw_L (a0 nL : Nat) (lsA : Array Slot) (ls : List (Option gw_V)) : Prop := lsA.size = nL ∧ lv_wf lsA ∧ ∀ (i : Nat) (v : gw_V), ls[i]? = some (some v) → lsA[i]? = some (.val (gw_val a0 v))
abbrev gw_A (E : gw_E) : Nat → Prop := fun q => gw_a E ≤ q
abbrev gw_C : Type := gw_E → Room → State → Array Value → List Frame → (State → Prop) → Prop
/-- THE JUDGEMENT: method j, at pc, with locals ls, stack st and memory μ, u cells and w slots made so far, comes to an end that the context C asks for -/
def gw_G (C : gw_C) (j : gw_J) (pc : Nat) (ls : List (Option gw_V)) (st : List gw_V) (μ : gw_M) (u w : Nat) : Prop :=
  ∀ (E : gw_E) (p : Program) (l : Launch) (e : Env) (R : Room) (s : State) (m : MethodId) (args : Array Value) (below : List Frame) (meth : Method) (c : Code) (Z : State → Prop), C E R s args below Z → gw_X E j p s m args meth c →
  ∀ (H : Heap) (locs : List Loc) (lsA : Array Slot), gw_P E μ H → va_S (gw_A E) s.heap H locs → gw_L (gw_a E) j.2.2.1 lsA ls → W p l e R s m args below meth c H locs u w Z (F0 m pc lsA (st.map (gw_val (gw_a E))))
/-- an Int that an int holds as it is -/
def gw_in (x : Int) : Prop := -2147483648 ≤ x ∧ x ≤ 2147483647
theorem gw_toInt {x : Int} (h : gw_in x) : (Int32.ofInt x).toInt = x := by
  obtain ⟨h1, h2⟩ := h
  have hs : Int32.size = 4294967296 := rfl
  rw [Int32.toInt_ofInt, hs]
  exact Int.bmod_eq_of_le (by omega) (by omega)
theorem gw_ofInt (x : Int32) : Int32.ofInt x.toInt = x := Int32.ofInt_toInt x
theorem gw_inI (x : Int32) : gw_in x.toInt := ⟨x.minValue_le_toInt, x.toInt_le⟩
theorem gw_lt {x y : Int} (hx : gw_in x) (hy : gw_in y) : Int32.ofInt x < Int32.ofInt y ↔ x < y := by
  rw [Int32.lt_iff_toInt_lt, gw_toInt hx, gw_toInt hy]
theorem gw_le {x y : Int} (hx : gw_in x) (hy : gw_in y) : Int32.ofInt x ≤ Int32.ofInt y ↔ x ≤ y := by
  rw [Int32.le_iff_toInt_le, gw_toInt hx, gw_toInt hy]
theorem gw_eq {x y : Int} (hx : gw_in x) (hy : gw_in y) : Int32.ofInt x = Int32.ofInt y ↔ x = y := by
  constructor
  · intro h
    have h := congrArg Int32.toInt h
    rwa [gw_toInt hx, gw_toInt hy] at h
  · intro h; rw [h]
theorem gw_0 : Int32.ofInt 0 = 0 := by decide
theorem gw_in0 : gw_in 0 := by unfold gw_in; omega
theorem gw_nat {i n : Nat} {x : Int} (hx : x = (i : Int)) (hi : i < n) (hn : n < 2147483648) : vp_in (Int32.ofInt x) n ∧ (Int32.ofInt x).toNatClampNeg = i := by
  have hg : gw_in x := by unfold gw_in; omega
  have h := gw_toInt hg
  have h2 : (Int32.ofInt x).toNatClampNeg = i := by
    rw [Int32.toNatClampNeg, h, hx]
    rfl
  refine ⟨?_, h2⟩
  unfold vp_in
  rw [h2]
  rintro (h3 | h3)
  · rw [Int32.lt_iff_toInt_lt, h, Int32.toInt_zero] at h3
    omega
  · omega
theorem gw_cat (a0 : Nat) (v : gw_V) : (gw_val a0 v).category = 1 := by
  rcases v with x | (_ | k) <;> rfl
theorem gw_sum (a0 : Nat) (st : List gw_V) : ((st.map (gw_val a0)).map fun v => v.category).sum = st.length := by
  induction st with
  | nil => rfl
  | cons v t ih => simp only [List.map_cons, List.sum_cons, List.length_cons, ih, gw_cat]; omega
section GW
variable {C : gw_C} {j : gw_J} {pc : Nat} {ls : List (Option gw_V)} {st : List gw_V} {μ : gw_M} {u w : Nat}
theorem gr_iconst {n : Int} (hd : decode j.2.1 pc = .ok (.iconst n, 1)) (k : gw_G C j (pc + 1) ls (.inl n :: st) μ u w) : gw_G C j pc ls st μ u w := by
  intro E p l e R s m args below meth c Z hC hX H locs lsA hP hS hL
  exact lv_iconst hX.1 hX.2.1 hd rfl (k E p l e R s m args below meth c Z hC hX H locs lsA hP hS hL)
theorem gr_bipush {n : Int} (hd : decode j.2.1 pc = .ok (.bipush n, 2)) (hn : (Int8.ofInt n).toInt32 = Int32.ofInt n) (k : gw_G C j (pc + 2) ls (.inl n :: st) μ u w) : gw_G C j pc ls st μ u w := by
  intro E p l e R s m args below meth c Z hC hX H locs lsA hP hS hL
  exact lv_bipush hX.1 hX.2.1 hd hn (k E p l e R s m args below meth c Z hC hX H locs lsA hP hS hL)
theorem gr_sipush {n : Int} (hd : decode j.2.1 pc = .ok (.sipush n, 3)) (hn : (Int16.ofInt n).toInt32 = Int32.ofInt n) (k : gw_G C j (pc + 3) ls (.inl n :: st) μ u w) : gw_G C j pc ls st μ u w := by
  intro E p l e R s m args below meth c Z hC hX H locs lsA hP hS hL
  exact lv_sipush hX.1 hX.2.1 hd hn (k E p l e R s m args below meth c Z hC hX H locs lsA hP hS hL)
theorem gr_ldc {i : Nat} {v : Int} (hd : decode j.2.1 pc = .ok (.ldc i, 2)) (hw : Cond.constant j.1.cls i (Int32.ofInt v) ∈ gw_Tb) (k : gw_G C j (pc + 2) ls (.inl v :: st) μ u w) : gw_G C j pc ls st μ u w := by
  intro E p l e R s m args below meth c Z hC hX H locs lsA hP hS hL
  exact lv_ldc hX.1 hX.2.1 hX.2.2.2.1 (hX.2.2.2.2.1 _ hw) hd (k E p l e R s m args below meth c Z hC hX H locs lsA hP hS hL)
theorem gr_ldcw {i : Nat} {v : Int} (hd : decode j.2.1 pc = .ok (.ldc_w i, 3)) (hw : Cond.constant j.1.cls i (Int32.ofInt v) ∈ gw_Tb) (k : gw_G C j (pc + 3) ls (.inl v :: st) μ u w) : gw_G C j pc ls st μ u w := by
  intro E p l e R s m args below meth c Z hC hX H locs lsA hP hS hL
  exact lv_ldcw hX.1 hX.2.1 hX.2.2.2.1 (hX.2.2.2.2.1 _ hw) hd (k E p l e R s m args below meth c Z hC hX H locs lsA hP hS hL)
theorem gr_iload_n {k : Fin 4} {x : Int} (hd : decode j.2.1 pc = .ok (.iload_n k, 1)) (hl : ls[(k : Nat)]? = some (some (.inl x))) (kk : gw_G C j (pc + 1) ls (.inl x :: st) μ u w) : gw_G C j pc ls st μ u w := by
  intro E p l e R s m args below meth c Z hC hX H locs lsA hP hS hL
  exact lv_iload_n hX.1 hX.2.1 hd rfl (hL.2.2 _ _ hl) (kk E p l e R s m args below meth c Z hC hX H locs lsA hP hS hL)
theorem gr_iload {k : Nat} {x : Int} (hd : decode j.2.1 pc = .ok (.iload k, 2)) (hl : ls[k]? = some (some (.inl x))) (kk : gw_G C j (pc + 2) ls (.inl x :: st) μ u w) : gw_G C j pc ls st μ u w := by
  intro E p l e R s m args below meth c Z hC hX H locs lsA hP hS hL
  exact lv_iload hX.1 hX.2.1 hd (hL.2.2 _ _ hl) (kk E p l e R s m args below meth c Z hC hX H locs lsA hP hS hL)
theorem gr_aload_n {k : Fin 4} {q : Nat} (hd : decode j.2.1 pc = .ok (.aload_n k, 1)) (hl : ls[(k : Nat)]? = some (some (.inr (some q)))) (kk : gw_G C j (pc + 1) ls (.inr (some q) :: st) μ u w) : gw_G C j pc ls st μ u w := by
  intro E p l e R s m args below meth c Z hC hX H locs lsA hP hS hL
  exact lv_aload_n hX.1 hX.2.1 hd rfl (hL.2.2 _ _ hl) (kk E p l e R s m args below meth c Z hC hX H locs lsA hP hS hL)
theorem gr_aload {k q : Nat} (hd : decode j.2.1 pc = .ok (.aload k, 2)) (hl : ls[k]? = some (some (.inr (some q)))) (kk : gw_G C j (pc + 2) ls (.inr (some q) :: st) μ u w) : gw_G C j pc ls st μ u w := by
  intro E p l e R s m args below meth c Z hC hX H locs lsA hP hS hL
  exact lv_aload hX.1 hX.2.1 hd (hL.2.2 _ _ hl) (kk E p l e R s m args below meth c Z hC hX H locs lsA hP hS hL)
def gw_lv (a0 : Nat) (ls : List (Option gw_V)) : List (Nat × Value) := (List.range ls.length).filterMap (fun i => (ls[i]?.join).map (fun v => (i, gw_val a0 v)))
theorem gw_lv_in {a0 : Nat} {ls : List (Option gw_V)} {i : Nat} {v : gw_V} (h : ls[i]? = some (some v)) : (i, gw_val a0 v) ∈ gw_lv a0 ls := by
  unfold gw_lv
  refine List.mem_filterMap.mpr ⟨i, List.mem_range.mpr (List.getElem?_eq_some_iff.mp h).1, ?_⟩
  rw [h]
  rfl
theorem gw_lv_has {a0 nL : Nat} {lsA : Array Slot} {ls : List (Option gw_V)} (h : gw_L a0 nL lsA ls) : lv_has lsA nL (gw_lv a0 ls) := by
  refine ⟨h.1, h.2.1, fun q hq => ?_⟩
  obtain ⟨i, -, hi⟩ := List.mem_filterMap.mp hq
  obtain ⟨v, hv, rfl⟩ := Option.map_eq_some_iff.mp hi
  exact h.2.2 i v (by
    cases hz : ls[i]? with
    | none => rw [hz] at hv; cases hv
    | some z => rw [hz] at hv; exact congrArg some hv)
theorem gw_lv_set {a0 nL i : Nat} {lsA : Array Slot} {ls : List (Option gw_V)} {v : gw_V} (h : lv_has lsA nL ((i, gw_val a0 v) :: (gw_lv a0 ls).filter (fun q => !(q.1 == i) && !(q.1 + 1 == i && q.2.category == 2)))) : gw_L a0 nL lsA (ls.set i (some v)) := by
  refine ⟨h.1, h.2.1, fun k x hk => ?_⟩
  by_cases hki : k = i
  · subst hki
    have hlt : k < ls.length := by
      have := (List.getElem?_eq_some_iff.mp hk).1
      simpa using this
    rw [List.getElem?_set_self hlt] at hk
    cases hk
    exact h.2.2 _ List.mem_cons_self
  · rw [List.getElem?_set_ne (fun q => hki q.symm)] at hk
    refine h.2.2 (k, gw_val a0 x) (List.mem_cons_of_mem _ (List.mem_filter.mpr ⟨gw_lv_in hk, ?_⟩))
    simp [hki, gw_cat]
theorem gr_istore_n {k : Fin 4} {x : Int} (hd : decode j.2.1 pc = .ok (.istore_n k, 1)) (hn : (k : Nat) < j.2.2.1) (kk : gw_G C j (pc + 1) (ls.set (k : Nat) (some (.inl x))) st μ u w) : gw_G C j pc ls (.inl x :: st) μ u w := by
  intro E p l e R s m args below meth c Z hC hX H locs lsA hP hS hL
  exact lv_istore_n hX.1 hX.2.1 hd rfl (gw_lv_has hL) hn rfl (fun ls' h' => kk E p l e R s m args below meth c Z hC hX H locs ls' hP hS (gw_lv_set (v := .inl x) h'))
theorem gr_istore {k : Nat} {x : Int} (hd : decode j.2.1 pc = .ok (.istore k, 2)) (hn : k < j.2.2.1) (kk : gw_G C j (pc + 2) (ls.set k (some (.inl x))) st μ u w) : gw_G C j pc ls (.inl x :: st) μ u w := by
  intro E p l e R s m args below meth c Z hC hX H locs lsA hP hS hL
  exact lv_istore hX.1 hX.2.1 hd (gw_lv_has hL) hn rfl (fun ls' h' => kk E p l e R s m args below meth c Z hC hX H locs ls' hP hS (gw_lv_set (v := .inl x) h'))
theorem gr_astore_n {k : Fin 4} {q : Nat} (hd : decode j.2.1 pc = .ok (.astore_n k, 1)) (hn : (k : Nat) < j.2.2.1) (kk : gw_G C j (pc + 1) (ls.set (k : Nat) (some (.inr (some q)))) st μ u w) : gw_G C j pc ls (.inr (some q) :: st) μ u w := by
  intro E p l e R s m args below meth c Z hC hX H locs lsA hP hS hL
  exact lv_astore_n hX.1 hX.2.1 hd rfl (gw_lv_has hL) hn rfl (fun ls' h' => kk E p l e R s m args below meth c Z hC hX H locs ls' hP hS (gw_lv_set (v := .inr (some q)) h'))
theorem gr_astore {k : Nat} {q : Nat} (hd : decode j.2.1 pc = .ok (.astore k, 2)) (hn : k < j.2.2.1) (kk : gw_G C j (pc + 2) (ls.set k (some (.inr (some q)))) st μ u w) : gw_G C j pc ls (.inr (some q) :: st) μ u w := by
  intro E p l e R s m args below meth c Z hC hX H locs lsA hP hS hL
  exact lv_astore hX.1 hX.2.1 hd (gw_lv_has hL) hn rfl (fun ls' h' => kk E p l e R s m args below meth c Z hC hX H locs ls' hP hS (gw_lv_set (v := .inr (some q)) h'))
theorem gr_iinc {i : Nat} {n x v : Int} (hd : decode j.2.1 pc = .ok (.iinc i n, 3)) (hn : i < j.2.2.1) (hl : ls[i]? = some (some (.inl x))) (hv : x + n = v) (kk : gw_G C j (pc + 3) (ls.set i (some (.inl v))) st μ u w) : gw_G C j pc ls st μ u w := by
  intro E p l e R s m args below meth c Z hC hX H locs lsA hP hS hL
  obtain ⟨k, hk⟩ := List.getElem?_of_mem (gw_lv_in (a0 := gw_a E) hl)
  exact lv_iinc (v := Int32.ofInt v) hX.1 hX.2.1 hd (gw_lv_has hL) hk (by rw [← hv, Int32.ofInt_add]) hn rfl (fun ls' h' => kk E p l e R s m args below meth c Z hC hX H locs ls' hP hS (gw_lv_set (v := .inl v) h'))
theorem gr_iadd {x y v : Int} (hd : decode j.2.1 pc = .ok (.iadd, 1)) (hv : x + y = v) (k : gw_G C j (pc + 1) ls (.inl v :: st) μ u w) : gw_G C j pc ls (.inl y :: .inl x :: st) μ u w := by
  intro E p l e R s m args below meth c Z hC hX H locs lsA hP hS hL
  have k := k E p l e R s m args below meth c Z hC hX H locs lsA hP hS hL
  rw [← hv] at k
  refine lv_iadd hX.1 hX.2.1 hd ?_
  rw [← Int32.ofInt_add]
  exact k
theorem gr_isub {x y v : Int} (hd : decode j.2.1 pc = .ok (.isub, 1)) (hv : x - y = v) (k : gw_G C j (pc + 1) ls (.inl v :: st) μ u w) : gw_G C j pc ls (.inl y :: .inl x :: st) μ u w := by
  intro E p l e R s m args below meth c Z hC hX H locs lsA hP hS hL
  have k := k E p l e R s m args below meth c Z hC hX H locs lsA hP hS hL
  rw [← hv] at k
  refine lv_isub hX.1 hX.2.1 hd ?_
  rw [← Int32.ofInt_sub]
  exact k
theorem gr_imul {x y v : Int} (hd : decode j.2.1 pc = .ok (.imul, 1)) (hv : x * y = v) (k : gw_G C j (pc + 1) ls (.inl v :: st) μ u w) : gw_G C j pc ls (.inl y :: .inl x :: st) μ u w := by
  intro E p l e R s m args below meth c Z hC hX H locs lsA hP hS hL
  have k := k E p l e R s m args below meth c Z hC hX H locs lsA hP hS hL
  rw [← hv] at k
  refine lv_imul hX.1 hX.2.1 hd ?_
  rw [← Int32.ofInt_mul]
  exact k
theorem gr_iand {x y v : Int} (hd : decode j.2.1 pc = .ok (.iand, 1)) (hv : Int32.ofInt x &&& Int32.ofInt y = Int32.ofInt v) (k : gw_G C j (pc + 1) ls (.inl v :: st) μ u w) : gw_G C j pc ls (.inl y :: .inl x :: st) μ u w := by
  intro E p l e R s m args below meth c Z hC hX H locs lsA hP hS hL
  refine lv_iand hX.1 hX.2.1 hd ?_
  rw [hv]
  exact k E p l e R s m args below meth c Z hC hX H locs lsA hP hS hL
theorem gr_ior {x y v : Int} (hd : decode j.2.1 pc = .ok (.ior, 1)) (hv : Int32.ofInt x ||| Int32.ofInt y = Int32.ofInt v) (k : gw_G C j (pc + 1) ls (.inl v :: st) μ u w) : gw_G C j pc ls (.inl y :: .inl x :: st) μ u w := by
  intro E p l e R s m args below meth c Z hC hX H locs lsA hP hS hL
  refine lv_ior hX.1 hX.2.1 hd ?_
  rw [hv]
  exact k E p l e R s m args below meth c Z hC hX H locs lsA hP hS hL
theorem gr_ixor {x y v : Int} (hd : decode j.2.1 pc = .ok (.ixor, 1)) (hv : Int32.ofInt x ^^^ Int32.ofInt y = Int32.ofInt v) (k : gw_G C j (pc + 1) ls (.inl v :: st) μ u w) : gw_G C j pc ls (.inl y :: .inl x :: st) μ u w := by
  intro E p l e R s m args below meth c Z hC hX H locs lsA hP hS hL
  refine lv_ixor hX.1 hX.2.1 hd ?_
  rw [hv]
  exact k E p l e R s m args below meth c Z hC hX H locs lsA hP hS hL
theorem gr_ishl {x y v : Int} (hd : decode j.2.1 pc = .ok (.ishl, 1)) (hv : Int32.ofInt x <<< (Int32.ofInt y &&& 31) = Int32.ofInt v) (k : gw_G C j (pc + 1) ls (.inl v :: st) μ u w) : gw_G C j pc ls (.inl y :: .inl x :: st) μ u w := by
  intro E p l e R s m args below meth c Z hC hX H locs lsA hP hS hL
  refine lv_ishl hX.1 hX.2.1 hd ?_
  rw [hv]
  exact k E p l e R s m args below meth c Z hC hX H locs lsA hP hS hL
theorem gr_ishr {x y v : Int} (hd : decode j.2.1 pc = .ok (.ishr, 1)) (hv : Int32.ofInt x >>> (Int32.ofInt y &&& 31) = Int32.ofInt v) (k : gw_G C j (pc + 1) ls (.inl v :: st) μ u w) : gw_G C j pc ls (.inl y :: .inl x :: st) μ u w := by
  intro E p l e R s m args below meth c Z hC hX H locs lsA hP hS hL
  refine lv_ishr hX.1 hX.2.1 hd ?_
  rw [hv]
  exact k E p l e R s m args below meth c Z hC hX H locs lsA hP hS hL
theorem gr_iushr {x y v : Int} (hd : decode j.2.1 pc = .ok (.iushr, 1)) (hv : ((Int32.ofInt x).toUInt32 >>> ((Int32.ofInt y).toUInt32 &&& Int32.toUInt32 31)).toInt32 = Int32.ofInt v) (k : gw_G C j (pc + 1) ls (.inl v :: st) μ u w) : gw_G C j pc ls (.inl y :: .inl x :: st) μ u w := by
  intro E p l e R s m args below meth c Z hC hX H locs lsA hP hS hL
  exact lv_iushr hX.1 hX.2.1 hd hv (k E p l e R s m args below meth c Z hC hX H locs lsA hP hS hL)
theorem gr_idiv {x y v : Int} (hd : decode j.2.1 pc = .ok (.idiv, 1)) (hy : ¬ Int32.ofInt y = 0) (hv : Int32.ofInt x / Int32.ofInt y = Int32.ofInt v) (k : gw_G C j (pc + 1) ls (.inl v :: st) μ u w) : gw_G C j pc ls (.inl y :: .inl x :: st) μ u w := by
  intro E p l e R s m args below meth c Z hC hX H locs lsA hP hS hL
  refine lv_idiv hX.1 hX.2.1 hd hy ?_
  rw [hv]
  exact k E p l e R s m args below meth c Z hC hX H locs lsA hP hS hL
theorem gr_irem {x y v : Int} (hd : decode j.2.1 pc = .ok (.irem, 1)) (hy : ¬ Int32.ofInt y = 0) (hv : Int32.ofInt x - Int32.ofInt x / Int32.ofInt y * Int32.ofInt y = Int32.ofInt v) (k : gw_G C j (pc + 1) ls (.inl v :: st) μ u w) : gw_G C j pc ls (.inl y :: .inl x :: st) μ u w := by
  intro E p l e R s m args below meth c Z hC hX H locs lsA hP hS hL
  refine lv_irem hX.1 hX.2.1 hd hy ?_
  rw [hv]
  exact k E p l e R s m args below meth c Z hC hX H locs lsA hP hS hL
theorem gr_ineg {x v : Int} (hd : decode j.2.1 pc = .ok (.ineg, 1)) (hv : -x = v) (k : gw_G C j (pc + 1) ls (.inl v :: st) μ u w) : gw_G C j pc ls (.inl x :: st) μ u w := by
  intro E p l e R s m args below meth c Z hC hX H locs lsA hP hS hL
  have k := k E p l e R s m args below meth c Z hC hX H locs lsA hP hS hL
  rw [← hv] at k
  refine lv_ineg hX.1 hX.2.1 hd ?_
  rw [← Int32.ofInt_neg]
  exact k
theorem gr_dup {v : gw_V} (hd : decode j.2.1 pc = .ok (.dup, 1)) (k : gw_G C j (pc + 1) ls (v :: v :: st) μ u w) : gw_G C j pc ls (v :: st) μ u w := by
  intro E p l e R s m args below meth c Z hC hX H locs lsA hP hS hL
  exact lv_dup hX.1 hX.2.1 hd (gw_cat _ _) (k E p l e R s m args below meth c Z hC hX H locs lsA hP hS hL)
theorem gr_dup2 {v v' : gw_V} (hd : decode j.2.1 pc = .ok (.dup2, 1)) (k : gw_G C j (pc + 1) ls (v :: v' :: v :: v' :: st) μ u w) : gw_G C j pc ls (v :: v' :: st) μ u w := by
  intro E p l e R s m args below meth c Z hC hX H locs lsA hP hS hL
  exact lv_dup2_11 hX.1 hX.2.1 hd (gw_cat _ _) (gw_cat _ _) (k E p l e R s m args below meth c Z hC hX H locs lsA hP hS hL)
theorem gr_goto {off : Int} (tgt : Nat) (hd : decode j.2.1 pc = .ok (.goto off, 3)) (ht : (pc : Int) + off = (tgt : Int)) (k : gw_G C j tgt ls st μ u w) : gw_G C j pc ls st μ u w := by
  intro E p l e R s m args below meth c Z hC hX H locs lsA hP hS hL
  exact lv_goto hX.1 hX.2.1 hd ht (k E p l e R s m args below meth c Z hC hX H locs lsA hP hS hL)
theorem gr_icmp_eq {x y off : Int} (tgt : Nat) (hd : decode j.2.1 pc = .ok (.if_icmp .eq off, 3)) (ht : (pc : Int) + off = (tgt : Int)) (hx : gw_in x) (hy : gw_in y) (kt : x = y → gw_G C j tgt ls st μ u w) (kf : x ≠ y → gw_G C j (pc + 3) ls st μ u w) : gw_G C j pc ls (.inl y :: .inl x :: st) μ u w := by
  intro E p l e R s m args below meth c Z hC hX H locs lsA hP hS hL
  exact lv_icmp_eq hX.1 hX.2.1 hd ht (fun h => kt ((gw_eq hx hy).mp h) E p l e R s m args below meth c Z hC hX H locs lsA hP hS hL) (fun h => kf (fun q => h ((gw_eq hx hy).mpr q)) E p l e R s m args below meth c Z hC hX H locs lsA hP hS hL)
theorem gr_if_eq {x off : Int} (tgt : Nat) (hd : decode j.2.1 pc = .ok (.ifCond .eq off, 3)) (ht : (pc : Int) + off = (tgt : Int)) (hx : gw_in x) (kt : x = 0 → gw_G C j tgt ls st μ u w) (kf : x ≠ 0 → gw_G C j (pc + 3) ls st μ u w) : gw_G C j pc ls (.inl x :: st) μ u w := by
  intro E p l e R s m args below meth c Z hC hX H locs lsA hP hS hL
  have hy := gw_in0
  exact lv_if_eq hX.1 hX.2.1 hd ht (fun h => by rw [← gw_0] at h; exact kt ((gw_eq hx hy).mp h) E p l e R s m args below meth c Z hC hX H locs lsA hP hS hL) (fun h => by rw [← gw_0] at h; exact kf (fun q => h ((gw_eq hx hy).mpr q)) E p l e R s m args below meth c Z hC hX H locs lsA hP hS hL)
theorem gr_icmp_ne {x y off : Int} (tgt : Nat) (hd : decode j.2.1 pc = .ok (.if_icmp .ne off, 3)) (ht : (pc : Int) + off = (tgt : Int)) (hx : gw_in x) (hy : gw_in y) (kt : x ≠ y → gw_G C j tgt ls st μ u w) (kf : x = y → gw_G C j (pc + 3) ls st μ u w) : gw_G C j pc ls (.inl y :: .inl x :: st) μ u w := by
  intro E p l e R s m args below meth c Z hC hX H locs lsA hP hS hL
  exact lv_icmp_ne hX.1 hX.2.1 hd ht (fun h => kt (fun q => h ((gw_eq hx hy).mpr q)) E p l e R s m args below meth c Z hC hX H locs lsA hP hS hL) (fun h => kf ((gw_eq hx hy).mp h) E p l e R s m args below meth c Z hC hX H locs lsA hP hS hL)
theorem gr_if_ne {x off : Int} (tgt : Nat) (hd : decode j.2.1 pc = .ok (.ifCond .ne off, 3)) (ht : (pc : Int) + off = (tgt : Int)) (hx : gw_in x) (kt : x ≠ 0 → gw_G C j tgt ls st μ u w) (kf : x = 0 → gw_G C j (pc + 3) ls st μ u w) : gw_G C j pc ls (.inl x :: st) μ u w := by
  intro E p l e R s m args below meth c Z hC hX H locs lsA hP hS hL
  have hy := gw_in0
  exact lv_if_ne hX.1 hX.2.1 hd ht (fun h => by rw [← gw_0] at h; exact kt (fun q => h ((gw_eq hx hy).mpr q)) E p l e R s m args below meth c Z hC hX H locs lsA hP hS hL) (fun h => by rw [← gw_0] at h; exact kf ((gw_eq hx hy).mp h) E p l e R s m args below meth c Z hC hX H locs lsA hP hS hL)
theorem gr_icmp_lt {x y off : Int} (tgt : Nat) (hd : decode j.2.1 pc = .ok (.if_icmp .lt off, 3)) (ht : (pc : Int) + off = (tgt : Int)) (hx : gw_in x) (hy : gw_in y) (kt : x < y → gw_G C j tgt ls st μ u w) (kf : y ≤ x → gw_G C j (pc + 3) ls st μ u w) : gw_G C j pc ls (.inl y :: .inl x :: st) μ u w := by
  intro E p l e R s m args below meth c Z hC hX H locs lsA hP hS hL
  exact lv_icmp_lt hX.1 hX.2.1 hd ht (fun h => kt ((gw_lt hx hy).mp h) E p l e R s m args below meth c Z hC hX H locs lsA hP hS hL) (fun h => kf (Int.not_lt.mp fun q => h ((gw_lt hx hy).mpr q)) E p l e R s m args below meth c Z hC hX H locs lsA hP hS hL)
theorem gr_if_lt {x off : Int} (tgt : Nat) (hd : decode j.2.1 pc = .ok (.ifCond .lt off, 3)) (ht : (pc : Int) + off = (tgt : Int)) (hx : gw_in x) (kt : x < 0 → gw_G C j tgt ls st μ u w) (kf : 0 ≤ x → gw_G C j (pc + 3) ls st μ u w) : gw_G C j pc ls (.inl x :: st) μ u w := by
  intro E p l e R s m args below meth c Z hC hX H locs lsA hP hS hL
  have hy := gw_in0
  exact lv_if_lt hX.1 hX.2.1 hd ht (fun h => by rw [← gw_0] at h; exact kt ((gw_lt hx hy).mp h) E p l e R s m args below meth c Z hC hX H locs lsA hP hS hL) (fun h => by rw [← gw_0] at h; exact kf (Int.not_lt.mp fun q => h ((gw_lt hx hy).mpr q)) E p l e R s m args below meth c Z hC hX H locs lsA hP hS hL)
theorem gr_icmp_ge {x y off : Int} (tgt : Nat) (hd : decode j.2.1 pc = .ok (.if_icmp .ge off, 3)) (ht : (pc : Int) + off = (tgt : Int)) (hx : gw_in x) (hy : gw_in y) (kt : y ≤ x → gw_G C j tgt ls st μ u w) (kf : x < y → gw_G C j (pc + 3) ls st μ u w) : gw_G C j pc ls (.inl y :: .inl x :: st) μ u w := by
  intro E p l e R s m args below meth c Z hC hX H locs lsA hP hS hL
  exact lv_icmp_ge hX.1 hX.2.1 hd ht (fun h => kt ((gw_le hy hx).mp h) E p l e R s m args below meth c Z hC hX H locs lsA hP hS hL) (fun h => kf (Int.not_le.mp fun q => h ((gw_le hy hx).mpr q)) E p l e R s m args below meth c Z hC hX H locs lsA hP hS hL)
theorem gr_if_ge {x off : Int} (tgt : Nat) (hd : decode j.2.1 pc = .ok (.ifCond .ge off, 3)) (ht : (pc : Int) + off = (tgt : Int)) (hx : gw_in x) (kt : 0 ≤ x → gw_G C j tgt ls st μ u w) (kf : x < 0 → gw_G C j (pc + 3) ls st μ u w) : gw_G C j pc ls (.inl x :: st) μ u w := by
  intro E p l e R s m args below meth c Z hC hX H locs lsA hP hS hL
  have hy := gw_in0
  exact lv_if_ge hX.1 hX.2.1 hd ht (fun h => by rw [← gw_0] at h; exact kt ((gw_le hy hx).mp h) E p l e R s m args below meth c Z hC hX H locs lsA hP hS hL) (fun h => by rw [← gw_0] at h; exact kf (Int.not_le.mp fun q => h ((gw_le hy hx).mpr q)) E p l e R s m args below meth c Z hC hX H locs lsA hP hS hL)
theorem gr_icmp_gt {x y off : Int} (tgt : Nat) (hd : decode j.2.1 pc = .ok (.if_icmp .gt off, 3)) (ht : (pc : Int) + off = (tgt : Int)) (hx : gw_in x) (hy : gw_in y) (kt : y < x → gw_G C j tgt ls st μ u w) (kf : x ≤ y → gw_G C j (pc + 3) ls st μ u w) : gw_G C j pc ls (.inl y :: .inl x :: st) μ u w := by
  intro E p l e R s m args below meth c Z hC hX H locs lsA hP hS hL
  exact lv_icmp_gt hX.1 hX.2.1 hd ht (fun h => kt ((gw_lt hy hx).mp h) E p l e R s m args below meth c Z hC hX H locs lsA hP hS hL) (fun h => kf (Int.not_lt.mp fun q => h ((gw_lt hy hx).mpr q)) E p l e R s m args below meth c Z hC hX H locs lsA hP hS hL)
theorem gr_if_gt {x off : Int} (tgt : Nat) (hd : decode j.2.1 pc = .ok (.ifCond .gt off, 3)) (ht : (pc : Int) + off = (tgt : Int)) (hx : gw_in x) (kt : 0 < x → gw_G C j tgt ls st μ u w) (kf : x ≤ 0 → gw_G C j (pc + 3) ls st μ u w) : gw_G C j pc ls (.inl x :: st) μ u w := by
  intro E p l e R s m args below meth c Z hC hX H locs lsA hP hS hL
  have hy := gw_in0
  exact lv_if_gt hX.1 hX.2.1 hd ht (fun h => by rw [← gw_0] at h; exact kt ((gw_lt hy hx).mp h) E p l e R s m args below meth c Z hC hX H locs lsA hP hS hL) (fun h => by rw [← gw_0] at h; exact kf (Int.not_lt.mp fun q => h ((gw_lt hy hx).mpr q)) E p l e R s m args below meth c Z hC hX H locs lsA hP hS hL)
theorem gr_icmp_le {x y off : Int} (tgt : Nat) (hd : decode j.2.1 pc = .ok (.if_icmp .le off, 3)) (ht : (pc : Int) + off = (tgt : Int)) (hx : gw_in x) (hy : gw_in y) (kt : x ≤ y → gw_G C j tgt ls st μ u w) (kf : y < x → gw_G C j (pc + 3) ls st μ u w) : gw_G C j pc ls (.inl y :: .inl x :: st) μ u w := by
  intro E p l e R s m args below meth c Z hC hX H locs lsA hP hS hL
  exact lv_icmp_le hX.1 hX.2.1 hd ht (fun h => kt ((gw_le hx hy).mp h) E p l e R s m args below meth c Z hC hX H locs lsA hP hS hL) (fun h => kf (Int.not_le.mp fun q => h ((gw_le hx hy).mpr q)) E p l e R s m args below meth c Z hC hX H locs lsA hP hS hL)
theorem gr_if_le {x off : Int} (tgt : Nat) (hd : decode j.2.1 pc = .ok (.ifCond .le off, 3)) (ht : (pc : Int) + off = (tgt : Int)) (hx : gw_in x) (kt : x ≤ 0 → gw_G C j tgt ls st μ u w) (kf : 0 < x → gw_G C j (pc + 3) ls st μ u w) : gw_G C j pc ls (.inl x :: st) μ u w := by
  intro E p l e R s m args below meth c Z hC hX H locs lsA hP hS hL
  have hy := gw_in0
  exact lv_if_le hX.1 hX.2.1 hd ht (fun h => by rw [← gw_0] at h; exact kt ((gw_le hx hy).mp h) E p l e R s m args below meth c Z hC hX H locs lsA hP hS hL) (fun h => by rw [← gw_0] at h; exact kf (Int.not_le.mp fun q => h ((gw_le hx hy).mpr q)) E p l e R s m args below meth c Z hC hX H locs lsA hP hS hL)
theorem gr_tableIn {dflt lo hi off x : Int} {offs : Array Int} {len : Nat} (tgt : Nat) (hd : decode j.2.1 pc = .ok (.tableswitch dflt lo hi offs, len)) (hx : gw_in x) (h1 : lo ≤ x) (h2 : x ≤ hi) (ho : offs[(x - lo).toNat]? = some off) (ht : (pc : Int) + off = (tgt : Int)) (k : gw_G C j tgt ls st μ u w) : gw_G C j pc ls (.inl x :: st) μ u w := by
  intro E p l e R s m args below meth c Z hC hX H locs lsA hP hS hL
  exact lv_tableIn hX.1 hX.2.1 hd (by rw [gw_toInt hx]; omega) (by rw [gw_toInt hx]; omega) (by rw [gw_toInt hx]; exact ho) ht (k E p l e R s m args below meth c Z hC hX H locs lsA hP hS hL)
theorem gr_tableOut {dflt lo hi x : Int} {offs : Array Int} {len : Nat} (tgt : Nat) (hd : decode j.2.1 pc = .ok (.tableswitch dflt lo hi offs, len)) (hx : gw_in x) (h : x < lo ∨ hi < x) (ht : (pc : Int) + dflt = (tgt : Int)) (k : gw_G C j tgt ls st μ u w) : gw_G C j pc ls (.inl x :: st) μ u w := by
  intro E p l e R s m args below meth c Z hC hX H locs lsA hP hS hL
  exact lv_tableOut hX.1 hX.2.1 hd (by rw [gw_toInt hx]; exact h) ht (k E p l e R s m args below meth c Z hC hX H locs lsA hP hS hL)
theorem gr_lookup {dflt off x : Int} {ps : Array (Int × Int)} {len : Nat} (tgt : Nat) (hd : decode j.2.1 pc = .ok (.lookupswitch dflt ps, len)) (hp : (ps.toList.zip (ps.toList.drop 1)).all (fun (a, next) => a.1 < next.1) = true) (hx : gw_in x) (ho : Op.lookupswitch.offset ps.toList dflt x = off) (ht : (pc : Int) + off = (tgt : Int)) (k : gw_G C j tgt ls st μ u w) : gw_G C j pc ls (.inl x :: st) μ u w := by
  intro E p l e R s m args below meth c Z hC hX H locs lsA hP hS hL
  exact lv_lookup hX.1 hX.2.1 hd hp (by rw [gw_toInt hx]; exact ho) ht (k E p l e R s m args below meth c Z hC hX H locs lsA hP hS hL)
theorem gr_mmax {i : Nat} {x y : Int} (hd : decode j.2.1 pc = .ok (.invokestatic i, 3)) (hw : Cond.methodLink j.1.cls i Lib.Math.max.name ∈ gw_Tb) (hw2 : Cond.static Lib.Math.max.name ∈ gw_Tb) (hw3 : Cond.initialized "java/lang/Math" ∈ gw_Tb) (hw4 : Cond.code Lib.Math.max.name Lib.Math.max.code 2 (some .int) ∈ gw_Tb) (hR : ∀ E R s args below Z, C E R s args below Z → 1 ≤ R.frames ∧ 34 ≤ R.locals ∧ u ≤ R.cells ∧ w ≤ R.slots) (hx : gw_in x) (hy : gw_in y) (hst : st.length ≤ 8) (k : gw_G C j (pc + 3) ls (.inl (if x < y then y else x) :: st) μ u w) : gw_G C j pc ls (.inl y :: .inl x :: st) μ u w := by
  intro E p l e R s m args below meth c Z hC hX H locs lsA hP hS hL
  have k := k E p l e R s m args below meth c Z hC hX H locs lsA hP hS hL
  obtain ⟨r1, r2, r3, r4⟩ := hR _ _ _ _ _ _ hC
  refine va_mmax hX.1 hX.2.1 (hX.2.2.1.trans hL.1.symm) hX.2.2.2.1 (hX.2.2.2.2.1 _ hw) (hX.2.2.2.2.1 _ hw2) (hX.2.2.2.2.1 _ hw3) (hX.2.2.2.2.1 _ hw4) r1 (by rw [gw_sum]; omega) r3 r4 hd ?_
  have e : (if Int32.ofInt x < Int32.ofInt y then Int32.ofInt y else Int32.ofInt x) = Int32.ofInt (if x < y then y else x) := by
    simp only [gw_lt hx hy]
    split <;> rfl
  rw [e]
  exact k
theorem gr_mmin {i : Nat} {x y : Int} (hd : decode j.2.1 pc = .ok (.invokestatic i, 3)) (hw : Cond.methodLink j.1.cls i Lib.Math.min.name ∈ gw_Tb) (hw2 : Cond.static Lib.Math.min.name ∈ gw_Tb) (hw3 : Cond.initialized "java/lang/Math" ∈ gw_Tb) (hw4 : Cond.code Lib.Math.min.name Lib.Math.min.code 2 (some .int) ∈ gw_Tb) (hR : ∀ E R s args below Z, C E R s args below Z → 1 ≤ R.frames ∧ 34 ≤ R.locals ∧ u ≤ R.cells ∧ w ≤ R.slots) (hx : gw_in x) (hy : gw_in y) (hst : st.length ≤ 8) (k : gw_G C j (pc + 3) ls (.inl (if y < x then y else x) :: st) μ u w) : gw_G C j pc ls (.inl y :: .inl x :: st) μ u w := by
  intro E p l e R s m args below meth c Z hC hX H locs lsA hP hS hL
  have k := k E p l e R s m args below meth c Z hC hX H locs lsA hP hS hL
  obtain ⟨r1, r2, r3, r4⟩ := hR _ _ _ _ _ _ hC
  refine va_mmin hX.1 hX.2.1 (hX.2.2.1.trans hL.1.symm) hX.2.2.2.1 (hX.2.2.2.2.1 _ hw) (hX.2.2.2.2.1 _ hw2) (hX.2.2.2.2.1 _ hw3) (hX.2.2.2.2.1 _ hw4) r1 (by rw [gw_sum]; omega) r3 r4 hd ?_
  have e : (if Int32.ofInt y < Int32.ofInt x then Int32.ofInt y else Int32.ofInt x) = Int32.ofInt (if y < x then y else x) := by
    simp only [gw_lt hy hx]
    split <;> rfl
  rw [e]
  exact k
theorem gr_mabs {i : Nat} {x : Int} (hd : decode j.2.1 pc = .ok (.invokestatic i, 3)) (hw : Cond.methodLink j.1.cls i Lib.Math.abs.name ∈ gw_Tb) (hw2 : Cond.static Lib.Math.abs.name ∈ gw_Tb) (hw3 : Cond.initialized "java/lang/Math" ∈ gw_Tb) (hw4 : Cond.code Lib.Math.abs.name Lib.Math.abs.code 1 (some .int) ∈ gw_Tb) (hR : ∀ E R s args below Z, C E R s args below Z → 1 ≤ R.frames ∧ 34 ≤ R.locals ∧ u ≤ R.cells ∧ w ≤ R.slots) (hx : gw_in x) (hst : st.length ≤ 8) (k : gw_G C j (pc + 3) ls (.inl (if 0 ≤ x then x else 0 - x) :: st) μ u w) : gw_G C j pc ls (.inl x :: st) μ u w := by
  intro E p l e R s m args below meth c Z hC hX H locs lsA hP hS hL
  have k := k E p l e R s m args below meth c Z hC hX H locs lsA hP hS hL
  obtain ⟨r1, r2, r3, r4⟩ := hR _ _ _ _ _ _ hC
  refine va_mabs hX.1 hX.2.1 (hX.2.2.1.trans hL.1.symm) hX.2.2.2.1 (hX.2.2.2.2.1 _ hw) (hX.2.2.2.2.1 _ hw2) (hX.2.2.2.2.1 _ hw3) (hX.2.2.2.2.1 _ hw4) r1 (by rw [gw_sum]; omega) r3 r4 hd ?_
  have e : (if 0 ≤ Int32.ofInt x then Int32.ofInt x else 0 - Int32.ofInt x) = Int32.ofInt (if 0 ≤ x then x else 0 - x) := by
    have h : (0 ≤ Int32.ofInt x) ↔ 0 ≤ x := by
      have h := gw_le gw_in0 hx
      rwa [gw_0] at h
    simp only [h]
    split
    · rfl
    · rw [Int32.ofInt_sub, gw_0]
  rw [e]
  exact k
end GW
end
section
/-! THE HEAP: fields, arrays; one cell of the memory changes -/
/-- the classes' rows: class ci of vwCl, its name, fields, their number, and the tables' words on them -/
def gw_Cl (ci : Nat) (Cn : String) (T : u_T) (N : Nat) : Prop := vwCl[ci]? = some (Cn, T, N) ∧ ci < 6 ∧ (∀ w ∈ u_ws Cn T N, w ∈ gw_Tb) ∧ (∀ k, k < N → parseFieldDescriptor (T k).2.2.1 = some (gw_ty ci k)) ∧ (∀ a, a < N → ∀ b, b < N → a ≠ b → (T a).2.1 ≠ (T b).2.1) ∧ Cond.instantiable Cn N ∈ gw_Tb ∧ Cond.initialized Cn ∈ gw_Tb
/-- entry idx of own's pool is field k of class ci; fin: it is final -/
def gw_F (own : String) (idx ci k : Nat) (fin : Bool) : Prop := ∃ (Cn : String) (T : u_T) (N : Nat), gw_Cl ci Cn T N ∧ k < N ∧ Cond.fieldLink own idx (T k).1 (T k).2.1 (T k).2.2.1 ∈ gw_Tb ∧ (T k).1 = Cn ∧ (T k).2.2.2 = fin
theorem gw_cell_o {E : gw_E} {c n : Nat} {I : Nat → Int} {F : Nat → Option Nat} (h : c < 6) : gw_cell E (c, n) I F = .inr (c, gw_fs (gw_a E) I F c n) := by
  match c, h with
  | 0, _ => rfl
  | 1, _ => rfl
  | 2, _ => rfl
  | 3, _ => rfl
  | 4, _ => rfl
  | 5, _ => rfl
theorem gw_fs_at {a0 : Nat} {I : Nat → Int} {F : Nat → Option Nat} {c n k : Nat} (h : k < n) : (gw_fs a0 I F c n)[k]? = some (if gw_isR c k = true then va_rf ((F k).map (fun k => a0 + k)) else .int (Int32.ofInt (I k))) := by
  unfold gw_fs
  rw [List.getElem?_map, List.getElem?_range h]
  rfl
theorem gw_fs_V {a0 : Nat} {I : Nat → Int} {F : Nat → Option Nat} {c n k : Nat} (h : k < n) : vp_V (gw_fs a0 I F c n) k = (if gw_isR c k = true then va_rf ((F k).map (fun k => a0 + k)) else .int (Int32.ofInt (I k))) := by
  unfold vp_V
  rw [List.getD_eq_getElem?_getD, gw_fs_at h]
  rfl
/-- one int of one cell changes -/
def gw_U {α : Type} (I : Nat → Nat → α) (k i : Nat) (v : α) : Nat → Nat → α := fun a b => if a = k ∧ b = i then v else I a b
theorem gw_U_s {α : Type} {I : Nat → Nat → α} {k i : Nat} {v : α} : gw_U I k i v k i = v := if_pos ⟨rfl, rfl⟩
theorem gw_U_n {α : Type} {I : Nat → Nat → α} {k i a b : Nat} {v : α} (h : ¬ (a = k ∧ b = i)) : gw_U I k i v a b = I a b := if_neg h
theorem gw_U_r {α : Type} {I : Nat → Nat → α} {k i a : Nat} {v : α} (h : a ≠ k) : gw_U I k i v a = I a := funext fun b => if_neg fun q => h q.1
theorem gw_P_set {E : gw_E} {n : Nat} {I I' : Nat → Nat → Int} {F F' : Nat → Nat → Option Nat} {H H1 : Heap} {k : Nat} (h : gw_P E (n, I, F) H) (hI : ∀ a, a ≠ k → I' a = I a) (hF : ∀ a, a ≠ k → F' a = F a) (hz : H1.size = H.size) (ho : ∀ q, q ≠ gw_a E + k → H1[q]? = H[q]?) (hat : va_at E.1 vwCl (gw_a E + k, gw_cell E (gw_sh k) (I' k) (F' k)) H1) : gw_P E (n, I', F') H1 := by
  refine ⟨hz.trans h.1, fun a ha => ?_⟩
  by_cases hak : a = k
  · subst hak
    exact hat
  · have h1 := h.2 a ha
    dsimp only at h1 ⊢
    rw [hI a hak, hF a hak]
    exact h1.kept (ho _ (by dsimp only; omega))
theorem gw_S_put {E : gw_E} {s : State} {H H1 : Heap} {locs : List Loc} {k i : Nat} (hS : va_S (gw_A E) s.heap H locs) (hz : H1.size = H.size) (ho : ∀ q, q ≠ gw_a E + k → H1[q]? = H[q]?) : va_S (gw_A E) s.heap H1 (locs ++ [⟨gw_a E + k, i⟩]) := by
  refine ⟨by rw [hz]; exact hS.1, fun q h1 h2 => ?_, t_lc hS.2.2 (Nat.le_add_right _ _)⟩
  rw [ho q (fun e => h2 (by rw [e]; exact Nat.le_add_right _ _))]
  exact hS.2.1 q h1 h2
theorem gw_narrow {t : FieldType} {a0 : Nat} {r : Option Nat} (h : gw_isr t = true) : narrow t (va_rf (r.map (fun k => a0 + k))) = va_rf (r.map (fun k => a0 + k)) ∧ fits t (va_rf (r.map (fun k => a0 + k))) = true := by
  cases t with
  | object c => cases r <;> exact ⟨rfl, rfl⟩
  | array c => cases r <;> exact ⟨rfl, rfl⟩
  | _ => cases h
section GH
variable {C : gw_C} {j : gw_J} {pc : Nat} {ls : List (Option gw_V)} {st : List gw_V} {n : Nat} {I : Nat → Nat → Int} {F : Nat → Nat → Option Nat} {u w : Nat}
theorem gr_get {idx ci k q N : Nat} {fin : Bool} (hd : decode j.2.1 pc = .ok (.getfield idx, 3)) (hf : gw_F j.1.cls idx ci k fin) (hq : gw_sh q = (ci, N)) (hn : q < n) (hk : k < N) (kk : gw_G C j (pc + 3) ls ((if gw_isR ci k = true then .inr (F q k) else .inl (I q k)) :: st) (n, I, F) u w) : gw_G C j pc ls (.inr (some q) :: st) (n, I, F) u w := by
  intro E p l e R s m args below meth c Z hC hX H locs lsA hP hS hL
  have kk := kk E p l e R s m args below meth c Z hC hX H locs lsA hP hS hL
  obtain ⟨Cn, T, N', ⟨hv, h6, hws, -⟩, hk', hl, hCn, -⟩ := hf
  have hat := hP.2 q hn
  rw [hq] at hat
  dsimp only at hat
  rw [gw_cell_o h6] at hat
  have hP1 : va_P E.1 vwCl [(gw_a E + q, .inr (ci, gw_fs (gw_a E) (I q) (F q) ci N))] H := fun k x hx => by
    have h0 : k < 1 := (List.getElem?_eq_some_iff.mp hx).1
    rw [show k = 0 by omega] at hx
    cases hx
    exact hat
  refine va_get (ci := ci) (C := Cn) (T := T) (N := N') (ref := (T k).1) hX.1 hX.2.1 hX.2.2.2.2.1 hws hX.2.2.2.1 hX.2.2.2.2.2.2.2.2.1 hP1 0 rfl hv k hk' (hX.2.2.2.2.1 _ hl) (fun _ h => h) (gw_fs_at hk) hd ?_
  by_cases hr : gw_isR ci k = true
  · rw [if_pos hr] at kk ⊢
    exact kk
  · rw [if_neg hr] at kk ⊢
    exact kk
theorem gr_getI {idx ci k q N : Nat} {fin : Bool} (hd : decode j.2.1 pc = .ok (.getfield idx, 3)) (hf : gw_F j.1.cls idx ci k fin) (hq : gw_sh q = (ci, N)) (hn : q < n) (hk : k < N) (hr : gw_isR ci k = false) (kk : gw_G C j (pc + 3) ls (.inl (I q k) :: st) (n, I, F) u w) : gw_G C j pc ls (.inr (some q) :: st) (n, I, F) u w :=
  gr_get hd hf hq hn hk (by rw [if_neg (by rw [hr]; decide)]; exact kk)
theorem gr_getR {idx ci k q N r : Nat} {fin : Bool} (hd : decode j.2.1 pc = .ok (.getfield idx, 3)) (hf : gw_F j.1.cls idx ci k fin) (hq : gw_sh q = (ci, N)) (hn : q < n) (hk : k < N) (hr : gw_isR ci k = true) (hF : F q k = some r) (kk : gw_G C j (pc + 3) ls (.inr (some r) :: st) (n, I, F) u w) : gw_G C j pc ls (.inr (some q) :: st) (n, I, F) u w :=
  gr_get hd hf hq hn hk (by rw [if_pos hr, hF]; exact kk)
/-- what a put does to its cell -/
theorem gw_put_at {E : gw_E} {ci k N q : Nat} {I I' : Nat → Int} {F F' : Nat → Option Nat} {Cn : String} {T : u_T} {N' : Nat} {cell : Cell} {H1 : Heap} {v : Value} (h6 : ci < 6) (hv : vwCl[ci]? = some (Cn, T, N')) (hN : N' ≤ N) (q2 : cell.cls = E.1.1 ci) (q3 : cell.vm = .none) (q4 : ∀ i, i < N' → cell.slots[E.1.2 ci i]? = some (vp_V (gw_fs (gw_a E) I F ci N) i)) (hap : ∀ a b, a < N' → b < N' → a ≠ b → E.1.2 ci a ≠ E.1.2 ci b) (hk : k < N') (e1 : H1[gw_a E + q]? = some (cell.setSlot (E.1.2 ci k) v)) (hsh : gw_sh q = (ci, N)) (hnew : ∀ i, i < N' → updV (vp_V (gw_fs (gw_a E) I F ci N)) k v i = vp_V (gw_fs (gw_a E) I' F' ci N) i) : va_at E.1 vwCl (gw_a E + q, gw_cell E (gw_sh q) I' F') H1 := by
  rw [hsh, gw_cell_o h6]
  exact ⟨_, hv, t_OB.to (V := updV (vp_V (gw_fs (gw_a E) I F ci N)) k v) ⟨_, e1, q2, q3, t_set q4 hap hk v⟩ hnew⟩
theorem gr_putI {idx ci k q N : Nat} {v : Int} (hd : decode j.2.1 pc = .ok (.putfield idx, 3)) (hf : gw_F j.1.cls idx ci k false) (hq : gw_sh q = (ci, N)) (hn : q < n) (hr : gw_ty ci k = .int ∨ gw_ty ci k = .boolean ∧ (v = 0 ∨ v = 1)) (hN : vwCl[ci]?.map (fun r => r.2.2) = some N) (kk : gw_G C j (pc + 3) ls st (n, gw_U I q k v, F) u w) : gw_G C j pc ls (.inl v :: .inr (some q) :: st) (n, I, F) u w := by
  intro E p l e R s m args below meth c Z hC hX H locs lsA hP hS hL
  obtain ⟨Cn, T, N', ⟨hv, h6, hws, hty, hnm, -⟩, hk', hl, hCn, hfin⟩ := hf
  have hNN : N' = N := by rw [hv] at hN; exact Option.some.inj hN
  subst hNN
  have hat := hP.2 q hn
  rw [hq] at hat
  dsimp only at hat
  rw [gw_cell_o h6] at hat
  have hK := hX.2.2.2.2.2.2.2.2.1
  have hts := hX.2.2.2.2.1
  have hap := va_apart (own := j.1.cls) hts hws (gw_ty ci) hty hnm hK hv
  obtain ⟨r, h1, cell, q1, q2, q3, q4⟩ := hat
  have hr' : r = (Cn, T, N') := Option.some.inj (h1.symm.trans hv)
  subst hr'
  obtain ⟨hS', hfc, kC, hkC, hkind⟩ := hK.1 ci _ hv
  obtain ⟨cf, kf, fi, f, hi, hsl⟩ := hS' k hk'
  have hlay := hts _ (hws _ (u_in_lay hk'))
  unfold u_lay at hlay
  rw [if_neg (by rw [hfin]; decide)] at hlay
  have hst := (u_facts hfc hkC (u_lays hts hws hk') hi).1
  have hisr : gw_isR ci k = false := by
    rcases hr with h | ⟨h, -⟩ <;> (show gw_isr (gw_ty ci k) = false; rw [h]; rfl)
  have h6' := u_store (v := .int (Int32.ofInt v)) hfc hkC hkind hlay hi (hty k hk') (by rcases hr with h | ⟨h, h2 | h2⟩ <;> rw [h] <;> first | rfl | (rw [h2]; rfl)) (by rcases hr with h | ⟨h, h2 | h2⟩ <;> rw [h] <;> first | rfl | (rw [h2]; rfl))
  refine W.putK hX.1 hX.2.1 (f := f) ⟨hX.2.2.2.1, hts _ hl, ⟨_, _, _, hi⟩, hst⟩ (by rw [q2]; exact h6') q1 q3 (by rw [hsl]; exact k2_hasslot (q4 k hk')) rfl rfl hd fun H' e1 e2 e3 => ?_
  rw [hsl] at e1 ⊢
  refine kk E p l e R s m args below meth c Z hC hX H' _ lsA (gw_P_set hP (fun a h => gw_U_r h) (fun _ _ => rfl) e2 e3 (gw_put_at h6 hv (Nat.le_refl _) q2 q3 q4 hap hk' e1 hq (fun i hi2 => ?_))) (gw_S_put hS e2 e3) hL
  rw [gw_fs_V hi2]
  by_cases hik : i = k
  · subst hik
    rw [if_neg (by rw [hisr]; decide), gw_U_s]
    simp [updV, gw_val]
  · rw [gw_U_n (fun h => hik h.2)]
    simp only [updV, if_neg hik]
    exact gw_fs_V hi2
theorem gr_putR {idx ci k q N : Nat} {v : Option Nat} {fin : Bool} (hd : decode j.2.1 pc = .ok (.putfield idx, 3)) (hf : gw_F j.1.cls idx ci k fin) (hfi : fin = true → j.1.name = "<init>" ∧ vwCl[ci]?.map (fun r => r.1) = some j.1.cls) (hq : gw_sh q = (ci, N)) (hn : q < n) (hr : gw_isR ci k = true) (hN : vwCl[ci]?.map (fun r => r.2.2) = some N) (kk : gw_G C j (pc + 3) ls st (n, I, gw_U F q k v) u w) : gw_G C j pc ls (.inr v :: .inr (some q) :: st) (n, I, F) u w := by
  intro E p l e R s m args below meth c Z hC hX H locs lsA hP hS hL
  obtain ⟨Cn, T, N', ⟨hv, h6, hws, hty, hnm, -⟩, hk', hl, hCn, hfin⟩ := hf
  have hNN : N' = N := by rw [hv] at hN; exact Option.some.inj hN
  subst hNN
  have hat := hP.2 q hn
  rw [hq] at hat
  dsimp only at hat
  rw [gw_cell_o h6] at hat
  have hK := hX.2.2.2.2.2.2.2.2.1
  have hts := hX.2.2.2.2.1
  have hap := va_apart (own := j.1.cls) hts hws (gw_ty ci) hty hnm hK hv
  obtain ⟨r, h1, cell, q1, q2, q3, q4⟩ := hat
  have hr' : r = (Cn, T, N') := Option.some.inj (h1.symm.trans hv)
  subst hr'
  obtain ⟨hS', hfc, kC, hkC, hkind⟩ := hK.1 ci _ hv
  obtain ⟨cf, kf, fi, f, hi, hsl⟩ := hS' k hk'
  have hlay := hts _ (hws _ (u_in_lay hk'))
  unfold u_lay at hlay
  have hst := (u_facts hfc hkC (u_lays hts hws hk') hi).1
  have hnf := gw_narrow (a0 := gw_a E) (r := v) hr
  have fin_ : ∀ H' : Heap, H'[gw_a E + q]? = some (cell.setSlot (E.1.2 ci k) (va_rf (v.map (fun k => gw_a E + k)))) → H'.size = H.size → (∀ x, x ≠ gw_a E + q → H'[x]? = H[x]?) → W p l e R s m args below meth c H' (locs ++ [⟨gw_a E + q, E.1.2 ci k⟩]) u w Z (F0 m (pc + 3) lsA (st.map (gw_val (gw_a E)))) := by
    intro H' e1 e2 e3
    refine kk E p l e R s m args below meth c Z hC hX H' _ lsA (gw_P_set hP (fun _ _ => rfl) (fun a h => gw_U_r h) e2 e3 (gw_put_at h6 hv (Nat.le_refl _) q2 q3 q4 hap hk' e1 hq (fun i hi2 => ?_))) (gw_S_put hS e2 e3) hL
    rw [gw_fs_V hi2]
    by_cases hik : i = k
    · subst hik
      rw [if_pos hr, gw_U_s]
      simp [updV]
    · rw [gw_U_n (fun h => hik h.2)]
      simp only [updV, if_neg hik]
      exact gw_fs_V hi2
  cases fin with
  | false =>
    rw [if_neg (by rw [hfin]; decide)] at hlay
    have h6' := u_store hfc hkC hkind hlay hi (hty k hk') hnf.1 hnf.2
    refine W.putK hX.1 hX.2.1 (f := f) ⟨hX.2.2.2.1, hts _ hl, ⟨_, _, _, hi⟩, hst⟩ (by rw [q2]; exact h6') q1 q3 (by rw [hsl]; exact k2_hasslot (q4 k hk')) rfl rfl hd fun H' e1 e2 e3 => ?_
    rw [hsl] at e1 ⊢
    exact fin_ H' e1 e2 e3
  | true =>
    rw [if_pos hfin] at hlay
    obtain ⟨hin2, hdecl⟩ := hfi rfl
    rw [hv] at hdecl
    have hdecl : Cn = j.1.cls := Option.some.inj hdecl
    have hcf : m.cls = cf := by
      obtain ⟨_, _, c', _, _, _, -, -, hf', -, -, -, hown2, -⟩ := Cond.laysFinal_spec hlay
      have e1 : c' = cf := by have := hi.symm.trans hf'; simp at this; exact this.1.symm
      rw [hCn, hdecl] at hown2
      rw [← e1]; exact Option.some.inj (hX.2.2.2.1.symm.trans hown2)
    have h6' := u_fits hfc hkC hkind (Or.inr hlay) hi (hty k hk') hnf.1 hnf.2
    refine W.putFinK hX.1 hX.2.1 hX.2.2.2.1 (hts _ hl) hi hst hcf (hX.2.2.2.2.2.2.2.1.trans hin2) (by rw [q2]; exact h6') q1 q3 (by rw [hsl]; exact k2_hasslot (q4 k hk')) rfl rfl hd fun H' e1 e2 e3 => ?_
    rw [hsl] at e1 ⊢
    exact fin_ H' e1 e2 e3
/-- iaload -/
theorem gr_iald {q i N : Nat} {x : Int} (hd : decode j.2.1 pc = .ok (.iaload, 1)) (hq : gw_sh q = (10, N)) (hn : q < n) (hx : x = (i : Int)) (hi : i < N) (hN : N < 2147483648) (kk : gw_G C j (pc + 1) ls (.inl (I q i) :: st) (n, I, F) u w) : gw_G C j pc ls (.inl x :: .inr (some q) :: st) (n, I, F) u w := by
  intro E p l e R s m args below meth c Z hC hX H locs lsA hP hS hL
  have kk := kk E p l e R s m args below meth c Z hC hX H locs lsA hP hS hL
  have hat := hP.2 q hn
  rw [hq] at hat
  obtain ⟨h1, h2⟩ := gw_nat hx hi hN
  have hP1 : va_P E.1 vwCl [(gw_a E + q, .inl (E.2.1, N, .inl (fun i => Int32.ofInt (I q i))))] H := fun k x hx => by
    have h0 : k < 1 := (List.getElem?_eq_some_iff.mp hx).1
    rw [show k = 0 by omega] at hx
    cases hx
    exact hat
  refine va_iald hX.1 hX.2.1 hX.2.2.2.2.2.2.2.2.1 hP1 0 0 rfl rfl h1 hd ?_
  rw [h2]
  exact kk
theorem gr_zald {q i N : Nat} {x : Int} (hd : decode j.2.1 pc = .ok (.baload, 1)) (hq : gw_sh q = (11, N)) (hn : q < n) (hx : x = (i : Int)) (hi : i < N) (hN : N < 2147483648) (kk : gw_G C j (pc + 1) ls (.inl (I q i) :: st) (n, I, F) u w) : gw_G C j pc ls (.inl x :: .inr (some q) :: st) (n, I, F) u w := by
  intro E p l e R s m args below meth c Z hC hX H locs lsA hP hS hL
  have kk := kk E p l e R s m args below meth c Z hC hX H locs lsA hP hS hL
  have hat := hP.2 q hn
  rw [hq] at hat
  obtain ⟨h1, h2⟩ := gw_nat hx hi hN
  have hP1 : va_P E.1 vwCl [(gw_a E + q, .inl (E.2.2.1, N, .inl (fun i => Int32.ofInt (I q i))))] H := fun k x hx => by
    have h0 : k < 1 := (List.getElem?_eq_some_iff.mp hx).1
    rw [show k = 0 by omega] at hx
    cases hx
    exact hat
  refine va_zald hX.1 hX.2.1 hX.2.2.2.2.2.2.2.2.1 hP1 0 1 rfl rfl h1 hd ?_
  rw [h2]
  exact kk
/-- aaload of a Piece[] -/
theorem gr_pald {q i N r : Nat} {x : Int} (hd : decode j.2.1 pc = .ok (.aaload, 1)) (hq : gw_sh q = (12, N)) (hn : q < n) (hx : x = (i : Int)) (hi : i < N) (hN : N < 2147483648) (hF : F q i = some r) (kk : gw_G C j (pc + 1) ls (.inr (some r) :: st) (n, I, F) u w) : gw_G C j pc ls (.inl x :: .inr (some q) :: st) (n, I, F) u w := by
  intro E p l e R s m args below meth c Z hC hX H locs lsA hP hS hL
  have kk := kk E p l e R s m args below meth c Z hC hX H locs lsA hP hS hL
  have hat := hP.2 q hn
  rw [hq] at hat
  obtain ⟨h1, h2⟩ := gw_nat hx hi hN
  have hP1 : va_P E.1 vwCl [(gw_a E + q, .inl (E.2.2.2.1, N, .inr (.inr (.inr (.inr (fun i => (F q i).map (fun k => gw_a E + k)))))))] H := fun k x hx => by
    have h0 : k < 1 := (List.getElem?_eq_some_iff.mp hx).1
    rw [show k = 0 by omega] at hx
    cases hx
    exact hat
  refine va_aldq hX.1 hX.2.1 hX.2.2.2.2.2.2.2.2.1 hP1 0 2 rfl rfl h1 hd ?_
  rw [h2, hF]
  exact kk
/-- aaload of an int[][] -/
theorem gr_rald {q i N r : Nat} {x : Int} (hd : decode j.2.1 pc = .ok (.aaload, 1)) (hq : gw_sh q = (13, N)) (hn : q < n) (hx : x = (i : Int)) (hi : i < N) (hN : N < 2147483648) (hF : F q i = some r) (kk : gw_G C j (pc + 1) ls (.inr (some r) :: st) (n, I, F) u w) : gw_G C j pc ls (.inl x :: .inr (some q) :: st) (n, I, F) u w := by
  intro E p l e R s m args below meth c Z hC hX H locs lsA hP hS hL
  have kk := kk E p l e R s m args below meth c Z hC hX H locs lsA hP hS hL
  have hat := hP.2 q hn
  rw [hq] at hat
  obtain ⟨h1, h2⟩ := gw_nat hx hi hN
  have hat : H[gw_a E + q]? = some (vp_cell E.2.2.2.2.1 (N, .inr (.inr (.inr (.inr (fun i => (F q i).map (fun k => gw_a E + k))))))) := hat
  have hK := hX.2.2.2.2.2.2.2.2.1
  have hlt : (Int32.ofInt x).toNatClampNeg < N := by rw [h2]; exact hi
  refine W.aald (v := va_rf (some (gw_a E + r))) (ty := .array .int) hX.1 hX.2.1 hat ((hK.2 3 _ rfl).1 N (fun i => va_rf ((F q i).map (fun k => gw_a E + k)))) rfl (fun q => by cases q) (by show ¬ (Int32.ofInt x < 0 ∨ (arrV _ _ _).slots.size ≤ _); rw [arrV_size]; exact h1) (by show (arrV _ _ _).slots[_]? = _; rw [arrV_read _ _ hlt, h2]; dsimp only; rw [hF]; rfl) rfl rfl hd ?_
  exact kk
/-- iastore -/
theorem gr_iast {q i N : Nat} {x v : Int} (hd : decode j.2.1 pc = .ok (.iastore, 1)) (hq : gw_sh q = (10, N)) (hn : q < n) (hx : x = (i : Int)) (hi : i < N) (hN : N < 2147483648) (kk : gw_G C j (pc + 1) ls st (n, gw_U I q i v, F) u w) : gw_G C j pc ls (.inl v :: .inl x :: .inr (some q) :: st) (n, I, F) u w := by
  intro E p l e R s m args below meth c Z hC hX H locs lsA hP hS hL
  have hat := hP.2 q hn
  rw [hq] at hat
  obtain ⟨h1, h2⟩ := gw_nat hx hi hN
  have hat : H[gw_a E + q]? = some (vp_cell E.2.1 (N, .inl (fun i => Int32.ofInt (I q i)))) := hat
  have hK := hX.2.2.2.2.2.2.2.2.1
  refine W.iast hX.1 hX.2.1 hat ((hK.2 0 _ rfl).1 N (fun i => .int (Int32.ofInt (I q i)))) (fun q => by cases q) (by show ¬ (Int32.ofInt x < 0 ∨ (arrV _ _ _).slots.size ≤ _); rw [arrV_size]; exact h1) rfl rfl hd fun H1 e1 z oq => ?_
  refine kk E p l e R s m args below meth c Z hC hX H1 _ lsA (gw_P_set hP (fun a h => gw_U_r h) (fun _ _ => rfl) z oq ?_) (gw_S_put hS z oq) hL
  rw [hq]
  show H1[gw_a E + q]? = some (vp_cell E.2.1 (N, .inl (fun k => Int32.ofInt (gw_U I q i v q k))))
  rw [e1, vp_cell_i, vp_cell_i, arrV_store, h2]
  congr 2
  funext k
  by_cases hk : k = i
  · subst hk
    rw [gw_U_s]
    simp [updV]
  · rw [gw_U_n (fun h => hk h.2)]
    simp [updV, hk]
theorem gr_zast {q i N : Nat} {x v : Int} (hd : decode j.2.1 pc = .ok (.bastore, 1)) (hq : gw_sh q = (11, N)) (hn : q < n) (hx : x = (i : Int)) (hi : i < N) (hN : N < 2147483648) (hv : v = 0 ∨ v = 1) (kk : gw_G C j (pc + 1) ls st (n, gw_U I q i v, F) u w) : gw_G C j pc ls (.inl v :: .inl x :: .inr (some q) :: st) (n, I, F) u w := by
  intro E p l e R s m args below meth c Z hC hX H locs lsA hP hS hL
  have hat := hP.2 q hn
  rw [hq] at hat
  obtain ⟨h1, h2⟩ := gw_nat hx hi hN
  have hat : H[gw_a E + q]? = some (vp_cell E.2.2.1 (N, .inl (fun i => Int32.ofInt (I q i)))) := hat
  have hK := hX.2.2.2.2.2.2.2.2.1
  have hnv : narrow .boolean (.int (Int32.ofInt v)) = .int (Int32.ofInt v) := by rcases hv with h | h <;> rw [h] <;> rfl
  refine W.zast hX.1 hX.2.1 hat ((hK.2 1 _ rfl).1 N (fun i => .int (Int32.ofInt (I q i)))) (fun q => by cases q) (by show ¬ (Int32.ofInt x < 0 ∨ (arrV _ _ _).slots.size ≤ _); rw [arrV_size]; exact h1) rfl rfl hd fun H1 e1 z oq => ?_
  refine kk E p l e R s m args below meth c Z hC hX H1 _ lsA (gw_P_set hP (fun a h => gw_U_r h) (fun _ _ => rfl) z oq ?_) (gw_S_put hS z oq) hL
  rw [hq]
  show H1[gw_a E + q]? = some (vp_cell E.2.2.1 (N, .inl (fun k => Int32.ofInt (gw_U I q i v q k))))
  rw [e1, vp_cell_i, vp_cell_i, arrV_store, h2, hnv]
  congr 2
  funext k
  by_cases hk : k = i
  · subst hk
    rw [gw_U_s]
    simp [updV]
  · rw [gw_U_n (fun h => hk h.2)]
    simp [updV, hk]
/-- aastore of a Piece -/
theorem gr_past {q i N r M : Nat} {x : Int} (hd : decode j.2.1 pc = .ok (.aastore, 1)) (hq : gw_sh q = (12, N)) (hn : q < n) (hx : x = (i : Int)) (hi : i < N) (hN : N < 2147483648) (hr : gw_sh r = (1, M)) (hrn : r < n) (kk : gw_G C j (pc + 1) ls st (n, I, gw_U F q i (some r)) u w) : gw_G C j pc ls (.inr (some r) :: .inl x :: .inr (some q) :: st) (n, I, F) u w := by
  intro E p l e R s m args below meth c Z hC hX H locs lsA hP hS hL
  have hat := hP.2 q hn
  rw [hq] at hat
  obtain ⟨h1, h2⟩ := gw_nat hx hi hN
  have hat : H[gw_a E + q]? = some (vp_cell E.2.2.2.1 (N, .inr (.inr (.inr (.inr (fun i => (F q i).map (fun k => gw_a E + k))))))) := hat
  have hK := hX.2.2.2.2.2.2.2.2.1
  have hat2 := hP.2 r hrn
  rw [hr] at hat2
  dsimp only at hat2
  rw [gw_cell_o (by omega)] at hat2
  have h0 : ¬ Int32.ofInt x < 0 := fun q => h1 (Or.inl q)
  obtain ⟨r', hr', cellV, g1, g2, g3, -⟩ := hat2
  have hcls := (hK.1 1 _ rfl).2
  obtain ⟨kA, comp, k1, k2, k3, -⟩ := (hK.2 2 _ rfl).2
  have hcomp : comp = E.1.1 1 := Option.some.inj (k3.symm.trans hcls.1)
  subst hcomp
  obtain ⟨kC, hkC, -⟩ := hcls.2
  refine W.aast hX.1 hX.2.1 hat (fun q h => by cases h) (fun h => by cases h) k1 k2 rfl hkC ⟨h0, by show _ < (arrV _ _ _).slots.size; rw [arrV_size, h2]; exact hi⟩ g1 (fun q h => by rw [g3] at h; cases h) (by rw [g2]; exact hkC) (by rw [g2]; exact va_assign hcls) rfl rfl hd fun H1 e1 z oq => ?_
  refine kk E p l e R s m args below meth c Z hC hX H1 _ lsA (gw_P_set hP (fun _ _ => rfl) (fun a h => gw_U_r h) z oq ?_) (gw_S_put hS z oq) hL
  rw [hq]
  show H1[gw_a E + q]? = some (vp_cell E.2.2.2.1 (N, .inr (.inr (.inr (.inr (fun k => (gw_U F q i (some r) q k).map (fun k => gw_a E + k)))))))
  rw [e1, vp_cell_q, vp_cell_q, arrV_store, h2]
  congr 2
  funext k
  by_cases hk : k = i
  · subst hk
    rw [gw_U_s]
    simp [updV, va_rf]
  · rw [gw_U_n (fun h => hk h.2)]
    simp [updV, hk]
end GH
end
section
/-! METHODS: contracts over the memory, entry, ends, calls -/
def gw_Room (d : Nat) (j : gw_J) : Room := { frames := d, cells := j.2.2.2.2.1, slots := j.2.2.2.2.2, locals := 34 * d }
def gw_Qc (E : gw_E) (Q : Option gw_V → gw_M → Prop) : Array Value → State → Outcome → State → Prop := fun _ st o t => ∃ (v : Option gw_V) (μ : gw_M), Q v μ ∧ o = .returned (v.map (gw_val (gw_a E))) ∧ gw_P E μ t.heap ∧ va_F (gw_A E) st t
def gw_ws (j : gw_J) : List Cond := Cond.code j.1 j.2.1 j.2.2.1 j.2.2.2.1 :: gw_Tb
/-- method j, at most d frames above it, called with vs in memory μ, returns so that Q -/
def gw_Met (j : gw_J) (d : Nat) (vs : List gw_V) (μ : gw_M) (Q : Option gw_V → gw_M → Prop) : Prop := ∀ (l : Launch) (E : gw_E), Met l j.1 (gw_ws j) (gw_Room d j) (va_Pc (vs.map (gw_val (gw_a E))) (fun U => gw_P E μ U.heap ∧ gw_K E U)) (gw_Qc E Q) j.2.2.2.2.1 j.2.2.2.2.2 (gw_A E)
/-- the context of a method's own body -/
def gw_Cm (j : gw_J) (d : Nat) (Q : Option gw_V → gw_M → Prop) : gw_C := fun E R s args below Z => R = gw_Room d j ∧ Z = MQ below (gw_Qc E Q) args s j.2.2.2.2.1 j.2.2.2.2.2 (gw_A E)
def gw_ok (j : gw_J) : Prop := plainName j.1.cls = true ∧ Cond.code j.1 j.2.1 j.2.2.1 j.2.2.2.1 ∈ gw_Tb ∧ Cond.initialized j.1.cls ∈ gw_Tb ∧ (j.1.cls ≠ "java/lang/invoke/MethodHandle" ∧ j.1.cls ≠ "java/lang/invoke/VarHandle") ∧ j.2.2.1 ≤ 15
theorem gw_Tb_in {w : Cond} {i : Nat} (h : lw_tbl[i]? = some w) (hg : goodWord w = true) : w ∈ gw_Tb := List.mem_filter.mpr ⟨List.mem_of_getElem? h, hg⟩
theorem gw_good {w : Cond} (h : w ∈ gw_Tb) : (w.onTables && w.keeps) = true ∨ ∃ ty, w = .arrayClass ty := good_of_word (List.mem_filter.mp h).2
theorem gw_goodIn {j : gw_J} (h : gw_ok j) : GoodIn gw_Tb (gw_ws j) := by
  intro w hw
  rcases List.mem_cons.mp hw with rfl | hw
  · exact ⟨h.2.1, gw_good h.2.1⟩
  · exact ⟨hw, gw_good hw⟩
theorem gw_AO.moved {u U : State} (hvm : u.vm.Alike U.vm) (h : gw_AO u) : gw_AO U := by
  unfold gw_AO Cond.before Cond.holds at h
  simp only [Cond.value, beq_iff_eq] at h
  cases hc : u.vm.findClass (FieldType.array FieldType.int).toString with
  | none => simp [hc] at h
  | some comp =>
    simp only [hc, Option.bind_some, Option.bind_eq_some_iff, Option.map_eq_some_iff] at h
    obtain ⟨c, hi, k, hk, hb⟩ := h
    obtain ⟨k', hk', he⟩ := hvm.2.2 _ _ hk
    have hb2 : U.vm.bare = u.vm.bare := by first | exact hvm.bare_eq | exact hvm.bare_eq.symm
    have a1 := va_idx_bare U.vm comp
    rw [hb2] at a1
    have hi2 := (a1.symm.trans (va_idx_bare u.vm comp)).trans hi
    have f1 : U.vm.findClass (FieldType.array FieldType.int).toString = some comp := by rw [hvm.findClass]; exact hc
    unfold gw_AO Cond.before Cond.holds
    simp only [Cond.value]
    rw [f1, Option.bind_some]
    refine (congrArg (fun o : Option Nat => (o.bind (fun c => (U.vm.classes[c]?).map fun (k : Class) => match k.kind with | .array _ ty => decide (ty = FieldType.array FieldType.int) && decide (U.vm.findClass ("[" ++ (FieldType.array FieldType.int).toString) = some c) | _ => false) == some true)) hi2).trans ?_
    have hkk : k'.kind = k.kind := by rw [he]
    simp only [Option.bind_some, hk', Option.map_some, hkk, hvm.findClass]
    exact (congrArg (fun b : Bool => (some b == some true)) hb).trans rfl
theorem gw_K.moved {E : gw_E} {s U : State} (hW : s.WarmedH U.vm) (h : gw_K E s) : gw_K E U :=
  ⟨va_K.moved hW.alike h.1, fun a i x h' hm => va_Nw.warmM hW (h.2.1 a i x h' hm), va_AO.moved hW.alike h.2.2.1, gw_AO.moved hW.alike h.2.2.2⟩
theorem gw_K.same {E : gw_E} {s U : State} (hv : s.vm = U.vm) (h : gw_K E s) : gw_K E U := by
  have hA : s.vm.Alike U.vm := by rw [hv]; exact Vm.Alike.refl _
  exact ⟨va_K.moved hA h.1, fun a i x h' hm => va_Nw.same rfl hv (h.2.1 a i x h' hm), va_AO.moved hA h.2.2.1, gw_AO.moved hA h.2.2.2⟩
/-- THE ENTRY of a method -/
theorem gw_enter {j : gw_J} {d : Nat} {vs : List gw_V} {μ : gw_M} {Q : Option gw_V → gw_M → Prop} {ls : List (Option gw_V)} (hj : gw_ok j) (hls : vs.map some ++ List.replicate (j.2.2.1 - vs.length) none = ls) (hlen : vs.length ≤ j.2.2.1) (h : gw_G (gw_Cm j d Q) j 0 ls [] μ 0 0) : gw_Met j d vs μ Q := by
  intro l E
  refine Met.ofW (cc := j.2.1) (maxL := j.2.2.1) (ret := j.2.2.2.1) hj.1 rfl ?_
  intro p e s m args below meth c s₁ B hml hv
  obtain ⟨rfl, hP, hK⟩ := hv
  have hts := atoms_spec (ws := gw_ws j) B.pre
  have hown : s.vm.findClass j.1.cls = some m.cls := findClass_of_methodNamed B.named
  have hnm : meth.name = j.1.name := (name_of_methodNamed B.named B.method).1
  have hsl : lg_sl (vs.map (gw_val (gw_a E))) = vs.map (fun v => Slot.val (gw_val (gw_a E) v)) := by
    have key : ∀ l : List gw_V, lg_sl (l.map (gw_val (gw_a E))) = l.map (fun v => Slot.val (gw_val (gw_a E) v)) := by
      intro l
      unfold lg_sl
      induction l with
      | nil => rfl
      | cons v t ih =>
        rw [List.map_cons, List.flatMap_cons, ih, if_neg (by rw [gw_cat]; decide)]
        rfl
    exact key vs
  have hl := lv_entry (vs.map (gw_val (gw_a E))) (n := j.2.2.1) (by rw [hsl]; simpa using hlen)
  rw [lg_entry_eq]
  refine h E p l e _ s m _ below meth c _ ⟨rfl, rfl⟩ ⟨B.exec, B.bytes, hml, hown, fun w hw => hts w (List.mem_cons_of_mem _ hw), B.notSynchronized, B.returns, hnm, hK⟩ s.heap [] _ hP va_S.rf ⟨hl.1, hl.2.1, fun i v hi => ?_⟩
  rw [← hls] at hi
  by_cases hiv : i < vs.length
  · rw [List.getElem?_append_left (by simpa using hiv), List.getElem?_map] at hi
    obtain ⟨x, hx, e9⟩ := Option.map_eq_some_iff.mp hi
    cases e9
    rw [hsl]
    rw [List.getElem?_toArray, List.getElem?_append_left (by simpa using hiv), List.getElem?_map, hx]
    rfl
  · rw [List.getElem?_append_right (by simpa using hiv)] at hi
    have h9 := List.mem_of_getElem? hi
    rw [List.mem_replicate] at h9
    cases h9.2
section GC
variable {C : gw_C} {j : gw_J} {pc : Nat} {ls : List (Option gw_V)} {st : List gw_V} {μ : gw_M} {u w d : Nat} {Q : Option gw_V → gw_M → Prop}
theorem gw_F_of {E : gw_E} {s t : State} {H : Heap} {locs : List Loc} (hS : va_S (gw_A E) s.heap H locs) (ht : t.heap = H) : va_F (gw_A E) s t := by
  refine ⟨by rw [ht]; exact hS.1, fun q h1 h2 => by rw [ht]; exact hS.2.1 q h1 h2⟩
theorem gr_iret {x : Int} (hd : decode j.2.1 pc = .ok (.ireturn, 1)) (hr : j.2.2.2.1 = some .int ∨ j.2.2.2.1 = some .boolean ∧ (x = 0 ∨ x = 1)) (hu : u ≤ j.2.2.2.2.1) (hw : w ≤ j.2.2.2.2.2) (hq : Q (some (.inl x)) μ) : gw_G (gw_Cm j d Q) j pc ls [.inl x] μ u w := by
  intro E p l e R s m args below meth c Z hC hX H locs lsA hP hS hL
  obtain ⟨rfl, rfl⟩ := hC
  refine W.widen hu hw ?_
  rcases hr with hr | ⟨hr, hx⟩
  · exact W.iret (v := Int32.ofInt x) hX.1 hX.2.1 (hX.2.2.2.2.2.2.1.trans hr) (fun t ht hW => ⟨some (.inl x), μ, hq, rfl, by rw [ht]; exact hP, gw_F_of hS ht⟩) hS.2.2 hd hX.2.2.2.2.2.1
  · exact W.zret (v := Int32.ofInt x) (ty := .boolean) hX.1 hX.2.1 (hX.2.2.2.2.2.2.1.trans hr) (by rcases hx with h | h <;> rw [h] <;> rfl) (fun t ht hW => ⟨some (.inl x), μ, hq, rfl, by rw [ht]; exact hP, gw_F_of hS ht⟩) hS.2.2 hd hX.2.2.2.2.2.1
theorem gr_vret (hd : decode j.2.1 pc = .ok (.return_, 1)) (hr : j.2.2.2.1 = none) (hu : u ≤ j.2.2.2.2.1) (hw : w ≤ j.2.2.2.2.2) (hq : Q none μ) : gw_G (gw_Cm j d Q) j pc ls [] μ u w := by
  intro E p l e R s m args below meth c Z hC hX H locs lsA hP hS hL
  obtain ⟨rfl, rfl⟩ := hC
  refine W.widen hu hw ?_
  exact W.vret hX.1 hX.2.1 (hX.2.2.2.2.2.2.1.trans hr) (fun t ht hW => ⟨none, μ, hq, rfl, by rw [ht]; exact hP, gw_F_of hS ht⟩) hS.2.2 hd hX.2.2.2.2.2.1
/-- the room of a call: callee's frames d, its cells and slots -/
def gw_Rm (C : gw_C) (d mc ms u w : Nat) : Prop := ∀ E R s args below Z, C E R s args below Z → d + 1 ≤ R.frames ∧ 34 * (d + 1) ≤ R.locals ∧ u + mc ≤ R.cells ∧ w + ms ≤ R.slots
theorem gw_Rm_m {d D mc ms u w : Nat} (h : d < D) (hu : u + mc ≤ j.2.2.2.2.1) (hw : w + ms ≤ j.2.2.2.2.2) : gw_Rm (gw_Cm j D Q) d mc ms u w := by
  intro E R s args below Z hC
  obtain ⟨rfl, rfl⟩ := hC
  refine ⟨h, ?_, hu, hw⟩
  show 34 * (d + 1) ≤ 34 * D
  omega
theorem gw_Rm_1 {D : Nat} (h : 0 < D) (hu : u ≤ j.2.2.2.2.1) (hw : w ≤ j.2.2.2.2.2) : ∀ E R s args below Z, gw_Cm j D Q E R s args below Z → 1 ≤ R.frames ∧ 34 ≤ R.locals ∧ u ≤ R.cells ∧ w ≤ R.slots := by
  intro E R s args below Z hC
  obtain ⟨rfl, rfl⟩ := hC
  refine ⟨h, ?_, hu, hw⟩
  show 34 ≤ 34 * D
  omega
def gw_np (y : MethodName) (n : Nat) : Prop := (parseMethodDescriptor y.desc).map (fun d => d.parameters.length) = some n
def gw_CV (own : String) (idx : Nat) (j : gw_J) (n ci : Nat) : Prop := gw_ok j ∧ Cond.methodLink own idx j.1 ∈ gw_Tb ∧ Cond.instanceMethod j.1 ∈ gw_Tb ∧ Cond.selects j.1.cls j.1 j.1 ∈ gw_Tb ∧ gw_np j.1 n ∧ vwCl[ci]?.map (fun r => r.1) = some j.1.cls ∧ ci < 6
def gw_CS (own : String) (idx : Nat) (j : gw_J) (n : Nat) : Prop := gw_ok j ∧ Cond.methodLink own idx j.1 ∈ gw_Tb ∧ Cond.static j.1 ∈ gw_Tb ∧ gw_np j.1 n
def gw_CSN (own : String) (idx : Nat) (j : gw_J) (n : Nat) : Prop := gw_ok j ∧ (∃ host, Cond.methodLinkNest own idx j.1 host ∈ tables_1) ∧ Cond.static j.1 ∈ gw_Tb ∧ gw_np j.1 n
def gw_CI (own : String) (idx : Nat) (j : gw_J) (n : Nat) : Prop := gw_ok j ∧ Cond.methodLink own idx j.1 ∈ gw_Tb ∧ Cond.instanceMethod j.1 ∈ gw_Tb ∧ gw_np j.1 n ∧ j.1.name = "<init>" ∧ j.2.2.2.1 = none
def gw_CIN (own : String) (idx : Nat) (j : gw_J) (n : Nat) : Prop := gw_ok j ∧ (∃ host, Cond.methodLinkNest own idx j.1 host ∈ tables_1) ∧ Cond.instanceMethod j.1 ∈ gw_Tb ∧ gw_np j.1 n ∧ j.1.name = "<init>" ∧ j.2.2.2.1 = none
theorem gw_npl {y : MethodName} {n : Nat} (h : gw_np y n) : ∀ sig, parseMethodDescriptor y.desc = some sig → n = sig.parameters.length := by
  intro sig hs
  unfold gw_np at h
  rw [hs] at h
  exact (Option.some.inj h).symm
/-- a call goes on -/
theorem gw_go {p : Program} {l : Launch} {e : Env} {R : Room} {s : State} {m : MethodId} {args : Array Value} {below : List Frame} {meth : Method} {c : Code} {H : Heap} {locs : List Loc} {Z : State → Prop} {E : gw_E} {mc ms : Nat} {lsA : Array Slot} {st0 rest : List Value} {a : Array Value}
    (hr : va_Run p l e R s m args below meth c H locs u w mc ms (F0 m pc lsA st0) rest (gw_Qc E Q a) (gw_A E)) (hS : va_S (gw_A E) s.heap H locs)
    (kk : ∀ (v : Option gw_V) (μ : gw_M) (H1 : Heap) (locs1 : List Loc), Q v μ → gw_P E μ H1 → va_S (gw_A E) s.heap H1 locs1 → W p l e R s m args below meth c H1 locs1 (u + mc) (w + ms) Z (F0 m (pc + 3) lsA ((v.map (gw_val (gw_a E))).toList ++ rest))) : W p l e R s m args below meth c H locs u w Z (F0 m pc lsA st0) := by
  intro T hT X
  obtain ⟨v, st₀, t, T', L, h0, X', hL, e1, e2, ⟨v', μ', hq, hv, hp, hz, hk⟩, st⟩ := hr T hT X
  cases hv
  rw [h0] at hz hk
  obtain ⟨t2, a1, b1⟩ := kk v' μ' T'.heap (locs ++ L) hq (by rw [e1]; exact hp) ⟨Nat.le_trans hS.1 (by rw [e1]; exact hz), fun q h1 h2 => by rw [e1, hk q (Nat.lt_of_lt_of_le h1 hS.1) h2]; exact hS.2.1 q h1 h2, fun q hq => by
      rcases List.mem_append.mp hq with h | h
      · exact hS.2.2 q h
      · exact hL q h⟩ T' rfl X'
  exact ⟨t2, st t2 a1, b1⟩
theorem gw_pre {E : gw_E} {s : State} {H : Heap} {vs : List gw_V} (hP : gw_P E μ H) (hK : gw_K E s) : PreS s H (va_Pc (vs.map (gw_val (gw_a E))) (fun U => gw_P E μ U.heap ∧ gw_K E U)) (vs.map (gw_val (gw_a E))) := by
  refine ⟨fun a U g mk q => ?_, fun U hU hW => ⟨rfl, by rw [hU]; exact hP, gw_K.moved hW hK⟩⟩
  obtain ⟨q0, q1, q2⟩ := q
  exact ⟨q0, q1, gw_K.same (s := U) (U := U.calling g mk a) rfl q2⟩
theorem gw_val_list (a0 : Nat) (v : Option gw_V) (st : List gw_V) : (v.map (gw_val a0)).toList ++ st.map (gw_val a0) = (v.toList ++ st).map (gw_val a0) := by
  cases v <;> rfl
theorem gw_cb {j' : gw_J} {own : String} {idx n : Nat} {E : gw_E} {R : Room} {s : State} {args : Array Value} (hok : gw_ok j') (hl : Cond.methodLink own idx j'.1 ∈ gw_Tb) (hn : gw_np j'.1 n) (hts : ∀ w ∈ gw_Tb, w.before args s = true) (r1 : d + 1 ≤ R.frames) (r2 : 34 * (d + 1) ≤ R.locals) : CallB R s args own idx j'.1 j'.2.1 j'.2.2.1 j'.2.2.2.1 (gw_ws j') (gw_Room d j') j'.2.2.2.2.1 j'.2.2.2.2.2 n := by
  obtain ⟨h1, h2, h3, h4, h5⟩ := id hok
  refine ⟨rfl, rfl, r1, ?_, pay_in hts (gw_goodIn hok), List.mem_cons_self, hts _ h2, hts _ h3, h4, gw_npl hn, hts _ hl⟩
  show 8 + (j'.2.2.1 + 11) + 34 * d ≤ R.locals
  omega
theorem gw_cn {j' : gw_J} {own host : String} {idx n : Nat} {E : gw_E} {R : Room} {s : State} {args : Array Value} (hok : gw_ok j') (hl : Cond.methodLinkNest own idx j'.1 host ∈ tables_1) (hn : gw_np j'.1 n) (hts : ∀ w ∈ gw_Tb, w.before args s = true) (hNw : gw_Nw s) (r1 : d + 1 ≤ R.frames) (r2 : 34 * (d + 1) ≤ R.locals) : va_CN R s args own idx j'.1 host j'.2.1 j'.2.2.1 j'.2.2.2.1 (gw_ws j') (gw_Room d j') j'.2.2.2.2.1 j'.2.2.2.2.2 n := by
  obtain ⟨h1, h2, h3, h4, h5⟩ := id hok
  refine va_cnB n hts (gw_goodIn hok) rfl rfl rfl (hNw _ _ _ _ hl) (hts _ h3) ⟨h4.1, h4.2, hn⟩ ⟨r1, ?_⟩
  show 8 + (j'.2.2.1 + 11) + 34 * d ≤ R.locals
  omega
theorem gw_hW {a0 : Nat} {m : MethodId} {lsA : Array Slot} {st0 : List Value} (h : st.length ≤ 8) : 2 * (F0 m pc lsA st0).monitorRoom + ((st.map (gw_val a0)).map fun v => v.category).sum ≤ 8 := by
  rw [gw_sum]
  show 2 * 0 + _ ≤ 8
  omega
/-- invokevirtual -/
theorem gr_virt {idx n ci q N : Nat} {j' : gw_J} {as st0 : List gw_V} {Q' : Option gw_V → gw_M → Prop} (hd : decode j.2.1 pc = .ok (.invokevirtual idx, 3)) (hc : gw_CV j.1.cls idx j' n ci) (hst : as.reverse ++ .inr (some q) :: st = st0) (has : as.length = n) (hq : gw_sh q = (ci, N)) (hqn : q < μ.1) (hlen : st.length ≤ 8) (hR : gw_Rm C d j'.2.2.2.2.1 j'.2.2.2.2.2 u w) (hM : gw_Met j' d (.inr (some q) :: as) μ Q')
    (kk : ∀ v μ', Q' v μ' → gw_G C j (pc + 3) ls (v.toList ++ st) μ' (u + j'.2.2.2.2.1) (w + j'.2.2.2.2.2)) : gw_G C j pc ls st0 μ u w := by
  intro E p l e R s m args below meth c Z hC hX H locs lsA hP hS hL
  subst hst
  obtain ⟨hok, hl, hi, hs, hn, hv, h6⟩ := hc
  obtain ⟨r1, r2, r3, r4⟩ := hR _ _ _ _ _ _ hC
  have hts := hX.2.2.2.2.1
  have hat := hP.2 q hqn
  rw [hq] at hat
  rw [gw_cell_o h6] at hat
  obtain ⟨r, hr1, cell, g1, g2, g3, -⟩ := hat
  rw [hr1] at hv
  have hv : r.1 = j'.1.cls := Option.some.inj hv
  have hcl := (hX.2.2.2.2.2.2.2.2.1.1 ci r hr1).2.1
  rw [hv] at hcl
  have hpre := gw_pre (vs := .inr (some q) :: as) hP hX.2.2.2.2.2.2.2.2
  refine gw_go (va_runV (As := as.map (gw_val (gw_a E))) (rest := st.map (gw_val (gw_a E))) (b := gw_a E + q) (C := j'.1.cls) (nL := j.2.2.1) (Ts := gw_Tb) ⟨hX.1, hX.2.1, hX.2.2.1, hX.2.2.2.1, hts⟩ (hM l E) ⟨gw_cb (E := E) hok hl hn hts r1 r2, hts _ hi, hts _ hs⟩ ⟨hpre.1, ⟨cell, g1, by rw [g3]; rfl, by rw [g2]; exact hcl⟩, hpre.2⟩ rfl (by simpa using has) hL.1 ?_ (gw_hW hlen) hd ⟨r3, r4⟩) hS fun v μ' H1 locs1 hq' hP1 hS1 => ?_
  · show (as.reverse ++ .inr (some q) :: st).map (gw_val (gw_a E)) = _
    rw [List.map_append, List.map_reverse]
    rfl
  · rw [gw_val_list]
    exact kk v μ' hq' E p l e R s m args below meth c Z hC hX H1 locs1 lsA hP1 hS1 hL
/-- invokestatic -/
theorem gr_stat {idx n : Nat} {j' : gw_J} {as st0 : List gw_V} {Q' : Option gw_V → gw_M → Prop} (hd : decode j.2.1 pc = .ok (.invokestatic idx, 3)) (hc : gw_CS j.1.cls idx j' n) (hst : as.reverse ++ st = st0) (has : as.length = n) (hlen : st.length ≤ 8) (hR : gw_Rm C d j'.2.2.2.2.1 j'.2.2.2.2.2 u w) (hM : gw_Met j' d as μ Q')
    (kk : ∀ v μ', Q' v μ' → gw_G C j (pc + 3) ls (v.toList ++ st) μ' (u + j'.2.2.2.2.1) (w + j'.2.2.2.2.2)) : gw_G C j pc ls st0 μ u w := by
  intro E p l e R s m args below meth c Z hC hX H locs lsA hP hS hL
  subst hst
  obtain ⟨hok, hl, hs, hn⟩ := hc
  obtain ⟨r1, r2, r3, r4⟩ := hR _ _ _ _ _ _ hC
  have hts := hX.2.2.2.2.1
  refine gw_go (va_runS (As := as.map (gw_val (gw_a E))) (rest := st.map (gw_val (gw_a E))) (nL := j.2.2.1) (Ts := gw_Tb) ⟨hX.1, hX.2.1, hX.2.2.1, hX.2.2.2.1, hts⟩ (hM l E) ⟨gw_cb (E := E) hok hl hn hts r1 r2, hts _ hs⟩ (gw_pre hP hX.2.2.2.2.2.2.2.2) rfl (by simpa using has) hL.1 ?_ (gw_hW hlen) hd ⟨r3, r4⟩) hS fun v μ' H1 locs1 hq' hP1 hS1 => ?_
  · show (as.reverse ++ st).map (gw_val (gw_a E)) = _
    rw [List.map_append, List.map_reverse]
  · rw [gw_val_list]
    exact kk v μ' hq' E p l e R s m args below meth c Z hC hX H1 locs1 lsA hP1 hS1 hL
theorem gr_statN {idx n : Nat} {j' : gw_J} {as st0 : List gw_V} {Q' : Option gw_V → gw_M → Prop} (hd : decode j.2.1 pc = .ok (.invokestatic idx, 3)) (hc : gw_CSN j.1.cls idx j' n) (hst : as.reverse ++ st = st0) (has : as.length = n) (hlen : st.length ≤ 8) (hR : gw_Rm C d j'.2.2.2.2.1 j'.2.2.2.2.2 u w) (hM : gw_Met j' d as μ Q')
    (kk : ∀ v μ', Q' v μ' → gw_G C j (pc + 3) ls (v.toList ++ st) μ' (u + j'.2.2.2.2.1) (w + j'.2.2.2.2.2)) : gw_G C j pc ls st0 μ u w := by
  intro E p l e R s m args below meth c Z hC hX H locs lsA hP hS hL
  subst hst
  obtain ⟨hok, ⟨host, hl⟩, hs, hn⟩ := hc
  obtain ⟨r1, r2, r3, r4⟩ := hR _ _ _ _ _ _ hC
  have hts := hX.2.2.2.2.1
  refine gw_go (va_runSN (As := as.map (gw_val (gw_a E))) (rest := st.map (gw_val (gw_a E))) (nL := j.2.2.1) (Ts := gw_Tb) ⟨hX.1, hX.2.1, hX.2.2.1, hX.2.2.2.1, hts⟩ (hM l E) ⟨gw_cn (E := E) hok hl hn hts hX.2.2.2.2.2.2.2.2.2.1 r1 r2, hts _ hs, trivial⟩ (gw_pre hP hX.2.2.2.2.2.2.2.2) rfl (by simpa using has) hL.1 ?_ (gw_hW hlen) hd ⟨r3, r4⟩) hS fun v μ' H1 locs1 hq' hP1 hS1 => ?_
  · show (as.reverse ++ st).map (gw_val (gw_a E)) = _
    rw [List.map_append, List.map_reverse]
  · rw [gw_val_list]
    exact kk v μ' hq' E p l e R s m args below meth c Z hC hX H1 locs1 lsA hP1 hS1 hL
/-- invokespecial of a constructor -/
theorem gr_init {idx n q : Nat} {j' : gw_J} {as st0 : List gw_V} {Q' : Option gw_V → gw_M → Prop} (hd : decode j.2.1 pc = .ok (.invokespecial idx, 3)) (hc : gw_CI j.1.cls idx j' n) (hst : as.reverse ++ .inr (some q) :: st = st0) (has : as.length = n) (hlen : st.length ≤ 8) (hR : gw_Rm C d j'.2.2.2.2.1 j'.2.2.2.2.2 u w) (hM : gw_Met j' d (.inr (some q) :: as) μ Q')
    (kk : ∀ v μ', Q' v μ' → gw_G C j (pc + 3) ls (v.toList ++ st) μ' (u + j'.2.2.2.2.1) (w + j'.2.2.2.2.2)) : gw_G C j pc ls st0 μ u w := by
  intro E p l e R s m args below meth c Z hC hX H locs lsA hP hS hL
  subst hst
  obtain ⟨hok, hl, hi, hn, hy, hret⟩ := hc
  obtain ⟨r1, r2, r3, r4⟩ := hR _ _ _ _ _ _ hC
  have hts := hX.2.2.2.2.1
  have hpre := gw_pre (vs := .inr (some q) :: as) hP hX.2.2.2.2.2.2.2.2
  have hcb := gw_cb (E := E) hok hl hn hts r1 r2
  rw [hret] at hcb
  refine gw_go (va_runI (As := as.map (gw_val (gw_a E))) (rest := st.map (gw_val (gw_a E))) (b := gw_a E + q) (nL := j.2.2.1) (Ts := gw_Tb) ⟨hX.1, hX.2.1, hX.2.2.1, hX.2.2.2.1, hts⟩ (hM l E) ⟨hcb, hy, hts _ hi⟩ hpre rfl (by simpa using has) hL.1 ?_ (gw_hW hlen) hd ⟨r3, r4⟩) hS fun v μ' H1 locs1 hq' hP1 hS1 => ?_
  · show (as.reverse ++ .inr (some q) :: st).map (gw_val (gw_a E)) = _
    rw [List.map_append, List.map_reverse]
    rfl
  · rw [gw_val_list]
    exact kk v μ' hq' E p l e R s m args below meth c Z hC hX H1 locs1 lsA hP1 hS1 hL
theorem gr_initN {idx n q : Nat} {j' : gw_J} {as st0 : List gw_V} {Q' : Option gw_V → gw_M → Prop} (hd : decode j.2.1 pc = .ok (.invokespecial idx, 3)) (hc : gw_CIN j.1.cls idx j' n) (hst : as.reverse ++ .inr (some q) :: st = st0) (has : as.length = n) (hlen : st.length ≤ 8) (hR : gw_Rm C d j'.2.2.2.2.1 j'.2.2.2.2.2 u w) (hM : gw_Met j' d (.inr (some q) :: as) μ Q')
    (kk : ∀ v μ', Q' v μ' → gw_G C j (pc + 3) ls (v.toList ++ st) μ' (u + j'.2.2.2.2.1) (w + j'.2.2.2.2.2)) : gw_G C j pc ls st0 μ u w := by
  intro E p l e R s m args below meth c Z hC hX H locs lsA hP hS hL
  subst hst
  obtain ⟨hok, ⟨host, hl⟩, hi, hn, hy, hret⟩ := hc
  obtain ⟨r1, r2, r3, r4⟩ := hR _ _ _ _ _ _ hC
  have hts := hX.2.2.2.2.1
  have hpre := gw_pre (vs := .inr (some q) :: as) hP hX.2.2.2.2.2.2.2.2
  have hcb := gw_cn (E := E) hok hl hn hts hX.2.2.2.2.2.2.2.2.2.1 r1 r2
  rw [hret] at hcb
  refine gw_go (va_runIN (As := as.map (gw_val (gw_a E))) (rest := st.map (gw_val (gw_a E))) (b := gw_a E + q) (nL := j.2.2.1) (Ts := gw_Tb) ⟨hX.1, hX.2.1, hX.2.2.1, hX.2.2.2.1, hts⟩ (hM l E) ⟨hcb, hy, hts _ hi⟩ hpre rfl (by simpa using has) hL.1 ?_ (gw_hW hlen) hd ⟨r3, r4⟩) hS fun v μ' H1 locs1 hq' hP1 hS1 => ?_
  · show (as.reverse ++ .inr (some q) :: st).map (gw_val (gw_a E)) = _
    rw [List.map_append, List.map_reverse]
    rfl
  · rw [gw_val_list]
    exact kk v μ' hq' E p l e R s m args below meth c Z hC hX H1 locs1 lsA hP1 hS1 hL
/-- Object's constructor -/
theorem gr_obj {idx q : Nat} (hd : decode j.2.1 pc = .ok (.invokespecial idx, 3)) (hw : Cond.methodLink j.1.cls idx Lib.objectInit ∈ gw_Tb) (hw2 : Cond.instanceMethod Lib.objectInit ∈ gw_Tb) (hw3 : Cond.code Lib.objectInit ⟨#[0xb1]⟩ 1 none ∈ gw_Tb) (hlen : st.length ≤ 8) (hR : ∀ E R s args below Z, C E R s args below Z → 1 ≤ R.frames ∧ 34 ≤ R.locals) (kk : gw_G C j (pc + 3) ls st μ u w) : gw_G C j pc ls (.inr (some q) :: st) μ u w := by
  intro E p l e R s m args below meth c Z hC hX H locs lsA hP hS hL
  obtain ⟨r1, r2⟩ := hR _ _ _ _ _ _ hC
  have hts := hX.2.2.2.2.1
  refine W.objInit hX.1 hX.2.1 hX.2.2.2.1 (hts _ hw) (hts _ hw2) (hts _ hw3) rfl (hL.1.trans hX.2.2.1.symm) rfl hd r1 ?_ (kk E p l e R s m args below meth c Z hC hX H locs lsA hP hS hL)
  rw [gw_sum]
  show 2 * 0 + _ + 12 ≤ _
  omega
end GC
end
section
/-! NEW CELLS -/
def gw_Z {α : Type} (I : Nat → Nat → α) (n : Nat) (v : α) : Nat → Nat → α := fun a b => if a = n then v else I a b
theorem gw_Z_s {α : Type} {I : Nat → Nat → α} {n : Nat} {v : α} : gw_Z I n v n = fun _ => v := funext fun _ => if_pos rfl
theorem gw_Z_r {α : Type} {I : Nat → Nat → α} {n a : Nat} {v : α} (h : a ≠ n) : gw_Z I n v a = I a := funext fun _ => if_neg h
theorem gw_P_push {E : gw_E} {n : Nat} {I I' : Nat → Nat → Int} {F F' : Nat → Nat → Option Nat} {H H1 : Heap} (h : gw_P E (n, I, F) H) (hI : ∀ a, a < n → I' a = I a) (hF : ∀ a, a < n → F' a = F a) (hz : H1.size = H.size + 1) (ho : ∀ q, q < H.size → H1[q]? = H[q]?) (hat : va_at E.1 vwCl (gw_a E + n, gw_cell E (gw_sh n) (I' n) (F' n)) H1) : gw_P E (n + 1, I', F') H1 := by
  have h0 : H.size = gw_a E + n := h.1
  refine ⟨by rw [hz, h0]; rfl, fun a ha => ?_⟩
  by_cases hak : a = n
  · subst hak
    exact hat
  · have ha : a < n + 1 := ha
    have h1 := h.2 a (show a < n by omega)
    dsimp only at h1 ⊢
    rw [hI a (by omega), hF a (by omega)]
    exact h1.kept (ho _ (by dsimp only; omega))
theorem gw_S_push {E : gw_E} {s : State} {H H1 : Heap} {locs : List Loc} (hS : va_S (gw_A E) s.heap H locs) (hz : H.size ≤ H1.size) (ho : ∀ q, q < H.size → H1[q]? = H[q]?) : va_S (gw_A E) s.heap H1 locs :=
  ⟨Nat.le_trans hS.1 hz, fun q h1 h2 => (ho q (Nat.lt_of_lt_of_le h1 hS.1)).trans (hS.2.1 q h1 h2), hS.2.2⟩
section GA
variable {C : gw_C} {j : gw_J} {pc : Nat} {ls : List (Option gw_V)} {st : List gw_V} {n : Nat} {I : Nat → Nat → Int} {F : Nat → Nat → Option Nat} {u w : Nat}
def gw_Bd (C : gw_C) (u w : Nat) : Prop := ∀ E R s args below Z, C E R s args below Z → u ≤ R.cells ∧ w ≤ R.slots
theorem gw_Bd_m {d u w : Nat} {Q : Option gw_V → gw_M → Prop} (hu : u ≤ j.2.2.2.2.1) (hw : w ≤ j.2.2.2.2.2) : gw_Bd (gw_Cm j d Q) u w := by
  intro E R s args below Z hC
  obtain ⟨rfl, rfl⟩ := hC
  exact ⟨hu, hw⟩
theorem gr_newO {idx ci N : Nat} {Cn : String} {T : u_T} (hd : decode j.2.1 pc = .ok (.new idx, 3)) (hw : Cond.classLink j.1.cls idx Cn ∈ gw_Tb) (hc : gw_Cl ci Cn T N) (hdt : ∀ k, k < N → defaultValue (gw_ty ci k) = (if gw_isR ci k = true then .null else .int 0)) (hsh : gw_sh n = (ci, N)) (hb : gw_Bd C (u + 1) (w + N)) (kk : gw_G C j (pc + 3) ls (.inr (some n) :: st) (n + 1, gw_Z I n 0, gw_Z F n none) (u + 1) (w + N)) : gw_G C j pc ls st (n, I, F) u w := by
  intro E p l e R s m args below meth c Z hC hX H locs lsA hP hS hL
  obtain ⟨hv, h6, hws, hty, hnm, hins, hini⟩ := hc
  have hts := hX.2.2.2.2.1
  have hKn := hX.2.2.2.2.2.2.2.2.1.1 ci _ hv
  obtain ⟨b1, b2⟩ := hb _ _ _ _ _ _ hC
  have h0 : H.size = gw_a E + n := hP.1
  refine W.newcK hX.1 hX.2.1 hX.2.2.2.1 (hts _ hw) (hts _ hins) (hts _ hini) rfl hd b1 b2 hKn.2.1 h0 fun H1 kC hkC e1 z1 o1 => ?_
  have o2 : ∀ q, q < H.size → H1[q]? = H[q]? := fun q hq => o1 q (by rw [← h0]; exact hq)
  refine kk E p l e R s m args below meth c Z hC hX H1 locs lsA (gw_P_push hP (fun a h => gw_Z_r (by omega)) (fun a h => gw_Z_r (by omega)) (by rw [z1, h0]) o2 ?_) (gw_S_push hS (by omega) o2) hL
  rw [hsh, gw_cell_o h6]
  refine ⟨_, hv, (u_born (gw_ty ci) hts hws hKn hkC e1 hty).to fun k hk => ?_⟩
  rw [gw_fs_V hk, hdt k hk, gw_Z_s, gw_Z_s]
  rfl
theorem gr_newI {N : Nat} {x : Int} (hd : decode j.2.1 pc = .ok (.newarray .int, 2)) (hw : Cond.arrayClass .int ∈ gw_Tb) (hx : x = (N : Int)) (hN : N < 100000000) (hsh : gw_sh n = (10, N)) (hb : gw_Bd C (u + 1) (w + N)) (kk : gw_G C j (pc + 2) ls (.inr (some n) :: st) (n + 1, gw_Z I n 0, gw_Z F n none) (u + 1) (w + N)) : gw_G C j pc ls (.inl x :: st) (n, I, F) u w := by
  intro E p l e R s m args below meth c Z hC hX H locs lsA hP hS hL
  have hts := hX.2.2.2.2.1
  have hK := hX.2.2.2.2.2.2.2.2.1
  obtain ⟨b1, b2⟩ := hb _ _ _ _ _ _ hC
  have h0 : H.size = gw_a E + n := hP.1
  obtain ⟨h1, h2⟩ := gw_nat (n := N + 1) hx (by omega) (by omega)
  refine va_newaK (atype := .int) hX.1 hX.2.1 (hts _ hw) rfl hd rfl (fun q => h1 (Or.inl q)) h2 (by show N * 4 ≤ _; omega) b1 b2 h0 fun H1 cA e1 z1 o1 hAr hNm => ?_
  have o2 : ∀ q, q < H.size → H1[q]? = H[q]? := fun q hq => o1 q (by rw [← h0]; exact hq)
  have hcA : cA = E.2.1 := Option.some.inj (hNm.symm.trans (hK.2 0 _ rfl).2)
  subst hcA
  refine kk E p l e R s m args below meth c Z hC hX H1 locs lsA (gw_P_push hP (fun a h => gw_Z_r (by omega)) (fun a h => gw_Z_r (by omega)) (by rw [z1, h0]) o2 ?_) (gw_S_push hS (by omega) o2) hL
  rw [hsh, gw_Z_s, gw_Z_s]
  exact e1
theorem gr_newZ {N : Nat} {x : Int} (hd : decode j.2.1 pc = .ok (.newarray .boolean, 2)) (hw : Cond.arrayClass .boolean ∈ gw_Tb) (hx : x = (N : Int)) (hN : N < 100000000) (hsh : gw_sh n = (11, N)) (hb : gw_Bd C (u + 1) (w + N)) (kk : gw_G C j (pc + 2) ls (.inr (some n) :: st) (n + 1, gw_Z I n 0, gw_Z F n none) (u + 1) (w + N)) : gw_G C j pc ls (.inl x :: st) (n, I, F) u w := by
  intro E p l e R s m args below meth c Z hC hX H locs lsA hP hS hL
  have hts := hX.2.2.2.2.1
  have hK := hX.2.2.2.2.2.2.2.2.1
  obtain ⟨b1, b2⟩ := hb _ _ _ _ _ _ hC
  have h0 : H.size = gw_a E + n := hP.1
  obtain ⟨h1, h2⟩ := gw_nat (n := N + 1) hx (by omega) (by omega)
  refine va_newaK (atype := .boolean) hX.1 hX.2.1 (hts _ hw) rfl hd rfl (fun q => h1 (Or.inl q)) h2 (by show N * 1 ≤ _; omega) b1 b2 h0 fun H1 cA e1 z1 o1 hAr hNm => ?_
  have o2 : ∀ q, q < H.size → H1[q]? = H[q]? := fun q hq => o1 q (by rw [← h0]; exact hq)
  have hcA : cA = E.2.2.1 := Option.some.inj (hNm.symm.trans (hK.2 1 _ rfl).2)
  subst hcA
  refine kk E p l e R s m args below meth c Z hC hX H1 locs lsA (gw_P_push hP (fun a h => gw_Z_r (by omega)) (fun a h => gw_Z_r (by omega)) (by rw [z1, h0]) o2 ?_) (gw_S_push hS (by omega) o2) hL
  rw [hsh, gw_Z_s, gw_Z_s]
  exact e1
theorem gr_newP {N idx : Nat} {x : Int} (hd : decode j.2.1 pc = .ok (.anewarray idx, 3)) (hw : Cond.classLink j.1.cls idx RX1 ∈ gw_Tb) (hx : x = (N : Int)) (hN : N < 100000000) (hsh : gw_sh n = (12, N)) (hb : gw_Bd C (u + 1) (w + N)) (kk : gw_G C j (pc + 3) ls (.inr (some n) :: st) (n + 1, gw_Z I n 0, gw_Z F n none) (u + 1) (w + N)) : gw_G C j pc ls (.inl x :: st) (n, I, F) u w := by
  intro E p l e R s m args below meth c Z hC hX H locs lsA hP hS hL
  have hts := hX.2.2.2.2.1
  have hK := hX.2.2.2.2.2.2.2.2.1
  obtain ⟨b1, b2⟩ := hb _ _ _ _ _ _ hC
  have h0 : H.size = gw_a E + n := hP.1
  obtain ⟨h1, h2⟩ := gw_nat (n := N + 1) hx (by omega) (by omega)
  have kk2 : ∀ H1 : Heap, H1[gw_a E + n]? = some (arrV E.2.2.2.1 N (fun _ => .null)) → H1.size = H.size + 1 → (∀ q, q < H.size → H1[q]? = H[q]?) → W p l e R s m args below meth c H1 locs (u + 1) (w + N) Z (F0 m (pc + 3) lsA (.ref (gw_a E + n) :: st.map (gw_val (gw_a E)))) := by
    intro H1 e1 z1 o2
    refine kk E p l e R s m args below meth c Z hC hX H1 locs lsA (gw_P_push hP (fun a h => gw_Z_r (by omega)) (fun a h => gw_Z_r (by omega)) z1 o2 ?_) (gw_S_push hS (by omega) o2) hL
    rw [hsh, gw_Z_s, gw_Z_s]
    exact e1
  refine W.anew hX.1 hX.2.1 hX.2.2.2.1 (hts _ hw) (va_AO.use hX.2.2.2.2.2.2.2.2.2.2.1) rfl hd rfl (fun q => h1 (Or.inl q)) (by rw [h2]; omega) b1 (by rw [h2]; exact b2) fun cA kA comp f1 f2 f3 f4 => ?_
  obtain ⟨kA', comp', k1, k2, k3, k4⟩ := (hK.2 2 _ rfl).2
  have hcA : cA = E.2.2.2.1 := Option.some.inj (f1.symm.trans k4)
  subst hcA
  rw [h2, h0]
  refine kk2 _ ?_ ?_ ?_
  · rw [← h0, Array.getElem?_push_size, ← arrV_new]
  · rw [Array.size_push]
  · intro q hq
    rw [Array.getElem?_push, if_neg (Nat.ne_of_lt hq)]
/-- new int[N][K] -/
theorem gr_newG {N K idx : Nat} {x y : Int} (hd : decode j.2.1 pc = .ok (.multianewarray idx 2, 4)) (hw : Cond.classLink j.1.cls idx "[[I" ∈ gw_Tb) (hw2 : Cond.arrayClass .int ∈ gw_Tb) (hx : x = (N : Int)) (hy : y = (K : Int)) (hN : N < 100000000) (hK' : K < 100000000) (hsh : gw_sh n = (13, N)) (hsh2 : ∀ i, i < N → gw_sh (n + 1 + i) = (10, K)) (hb : gw_Bd C (u + 1 + N) (w + N + N * K)) (kk : ∀ (I' : Nat → Nat → Int) (F' : Nat → Nat → Option Nat), (∀ a, a < n → I' a = I a) → (∀ a, a < n → F' a = F a) → (∀ i, i < N → F' n i = some (n + 1 + i)) → (∀ i, i < N → ∀ k, I' (n + 1 + i) k = 0) → gw_G C j (pc + 4) ls (.inr (some n) :: st) (n + 1 + N, I', F') (u + 1 + N) (w + N + N * K)) : gw_G C j pc ls (.inl y :: .inl x :: st) (n, I, F) u w := by
  intro E p l e R s m args below meth c Z hC hX H locs lsA hP hS hL
  have hts := hX.2.2.2.2.1
  have hK := hX.2.2.2.2.2.2.2.2.1
  obtain ⟨b1, b2⟩ := hb _ _ _ _ _ _ hC
  have h0 : H.size = gw_a E + n := hP.1
  obtain ⟨h1, h2⟩ := gw_nat (n := N + 1) hx (by omega) (by omega)
  obtain ⟨h3, h4⟩ := gw_nat (n := K + 1) hy (by omega) (by omega)
  have hAO : (Cond.arrayOver (.array .int)).before args s = true := hX.2.2.2.2.2.2.2.2.2.2.2
  intro T hT Xs
  obtain ⟨vm₁, cA, comp, -, fA, fC, hO, -, X', step⟩ := Xs.multianewarray2F hX.1 (own := j.1.cls) (index := idx) (ty := .int) hX.2.2.2.1 (hts _ hw) hAO (hts _ hw2) (g := F0 m pc lsA ((.inl y :: .inl x :: st : List gw_V).map (gw_val (gw_a E)))) rfl (by rw [hX.2.1]; exact hd) rfl (fun q => h1 (Or.inl q)) (fun q => h3 (Or.inl q)) (by rw [h2]; omega) (by rw [h4]; show K * 4 ≤ _; omega) (by rw [h4]; omega) rfl rfl (by rw [h2]; omega) (by rw [h2, h4]; omega)
  have hcA : cA = E.2.2.2.2.1 := Option.some.inj (fA.symm.trans (hK.2 3 _ rfl).2)
  have hcC : comp = E.2.1 := Option.some.inj (fC.symm.trans (hK.2 0 _ rfl).2)
  subst hcA
  subst hcC
  rw [h2, h4] at X' step
  generalize hFl : Jvm.Free.Multi.fill (T.setVm vm₁) E.2.2.2.2.1 E.2.1 N K (defaultValue .int) N = Fl at X' step
  have hTh : (T.setVm vm₁).heap = H := hT
  obtain ⟨f1, f2, -, -⟩ := Jvm.Free.Multi.fill_facts (T.setVm vm₁) E.2.2.2.2.1 E.2.1 N K (defaultValue .int) N
  rw [hFl, hTh] at f1 f2
  have hold : ∀ a : Nat, a < H.size → Fl.heap[a]? = H[a]? := fun a ha => by
    have := Jvm.Free.Multi.fill_old (T.setVm vm₁) E.2.2.2.2.1 E.2.1 N K (defaultValue .int) (a := a) (by rw [hTh]; exact ha) N
    rw [hFl, hTh] at this
    exact this
  have hrow : ∀ i : Nat, i < N → Fl.heap[H.size + 1 + i]? = some (Jvm.Free.Multi.innerC E.2.1 K (defaultValue .int)) := fun i hi => by
    have := Jvm.Free.Multi.fill_inner (T.setVm vm₁) E.2.2.2.2.1 E.2.1 N K (defaultValue .int) N i hi
    rw [hFl, hTh] at this
    exact this
  have houter : ∀ i : Nat, Jvm.Free.Multi.outerC E.2.2.2.2.1 N H.size i = arrV E.2.2.2.2.1 N (fun k => va_rf (if k < i then some (H.size + 1 + k) else none)) := by
    intro i
    induction i with
    | zero =>
      show ({ cls := E.2.2.2.2.1, slots := Array.replicate N .null, vm := .none } : Cell) = _
      rw [arrV_new]
      refine congrArg (arrV E.2.2.2.2.1 N) (funext fun k => ?_)
      simp [va_rf]
    | succ i ih =>
      show (Jvm.Free.Multi.outerC E.2.2.2.2.1 N H.size i).setSlot i (.ref (H.size + 1 + i)) = _
      rw [ih, arrV_store]
      refine congrArg (arrV E.2.2.2.2.1 N) (funext fun k => ?_)
      by_cases e : k = i
      · subst e
        simp [updV, va_rf]
      · by_cases h : k < i
        · simp [updV, e, h, Nat.lt_succ_of_lt h]
        · simp [updV, e, h, show ¬ k < i + 1 by omega]
  have hinner : Jvm.Free.Multi.innerC E.2.1 K (defaultValue .int) = arrV E.2.1 K (fun _ => .int 0) := by
    show ({ cls := E.2.1, slots := Array.replicate K (.int 0), vm := .none } : Cell) = _
    rw [arrV_new]
  have hP2 : gw_P E (n + 1 + N, fun a b => if a < n then I a b else 0, fun a b => if a < n then F a b else if b < N then some (n + 1 + b) else none) Fl.heap := by
    refine ⟨by rw [f1, h0]; show _ = gw_a E + (n + 1 + N); omega, fun a ha => ?_⟩
    have ha : a < n + 1 + N := ha
    dsimp only
    by_cases han : a < n
    · have h9 := hP.2 a han
      dsimp only at h9
      simp only [if_pos han]
      exact h9.kept (hold _ (by dsimp only; omega))
    · simp only [if_neg han]
      by_cases hae : a = n
      · subst hae
        rw [hsh]
        show Fl.heap[gw_a E + a]? = some (arrV E.2.2.2.2.1 N (fun k => va_rf ((if k < N then some (a + 1 + k) else none).map (fun k => gw_a E + k))))
        rw [← h0, f2, houter]
        congr 2
        funext k
        by_cases hkN : k < N
        · simp only [if_pos hkN, Option.map_some, h0]
          rw [show gw_a E + a + 1 + k = gw_a E + (a + 1 + k) by omega]
        · simp only [if_neg hkN, Option.map_none]
      · obtain ⟨i, hi⟩ : ∃ i, a = n + 1 + i := ⟨a - (n + 1), by omega⟩
        subst hi
        rw [hsh2 i (by omega)]
        show Fl.heap[gw_a E + (n + 1 + i)]? = some (arrV E.2.1 K (fun _ => .int 0))
        rw [show gw_a E + (n + 1 + i) = H.size + 1 + i by omega, hrow i (by omega), hinner]
  have hS2 : va_S (gw_A E) s.heap Fl.heap locs := gw_S_push hS (by rw [f1]; omega) hold
  obtain ⟨t, a1, b1⟩ := kk (fun a b => if a < n then I a b else 0) (fun a b => if a < n then F a b else if b < N then some (n + 1 + b) else none) (fun a ha => by funext b; simp only [if_pos ha]) (fun a ha => by funext b; simp only [if_pos ha]) (fun i hi => by simp only [if_neg (Nat.lt_irrefl n), if_pos hi]) (fun i hi k => by simp only [if_neg (show ¬ n + 1 + i < n by omega)]) E p l e R s m args below meth c Z hC hX Fl.heap locs lsA hP2 hS2 hL Fl rfl X'
  refine ⟨t, step t ?_, b1⟩
  have e9 : T.heap.size = gw_a E + n := by rw [hT]; exact h0
  rw [e9]
  exact a1
end GA
end
section
/-! METHODS as gw_J, and the pool entries: printed by wip/whole/gen_links.py -/
abbrev jX4_init : gw_J := (yX4_init, cX4_init, 2, none, 98, 9629)
set_option maxRecDepth 20000 in
theorem okX4_init : gw_ok jX4_init := ⟨by decide +kernel, gw_Tb_in (i := 67) rfl rfl, gw_Tb_in (i := 55) (by decide +kernel) rfl, ⟨by decide +kernel, by decide +kernel⟩, by decide⟩
abbrev jX2_init : gw_J := (yX2_init, cX2_init, 1, none, 10, 209)
set_option maxRecDepth 20000 in
theorem okX2_init : gw_ok jX2_init := ⟨by decide +kernel, gw_Tb_in (i := 75) rfl rfl, gw_Tb_in (i := 56) (by decide +kernel) rfl, ⟨by decide +kernel, by decide +kernel⟩, by decide⟩
abbrev jX0_init : gw_J := (yX0_init, cX0_init, 1, none, 5, 20)
set_option maxRecDepth 20000 in
theorem okX0_init : gw_ok jX0_init := ⟨by decide +kernel, gw_Tb_in (i := 81) rfl rfl, gw_Tb_in (i := 57) (by decide +kernel) rfl, ⟨by decide +kernel, by decide +kernel⟩, by decide⟩
abbrev jX1_init : gw_J := (yX1_init, cX1_init, 1, none, 1, 24)
set_option maxRecDepth 20000 in
theorem okX1_init : gw_ok jX1_init := ⟨by decide +kernel, gw_Tb_in (i := 119) rfl rfl, gw_Tb_in (i := 58) (by decide +kernel) rfl, ⟨by decide +kernel, by decide +kernel⟩, by decide⟩
abbrev jX3_init : gw_J := (yX3_init, cX3_init, 1, none, 57, 9024)
set_option maxRecDepth 20000 in
theorem okX3_init : gw_ok jX3_init := ⟨by decide +kernel, gw_Tb_in (i := 187) rfl rfl, gw_Tb_in (i := 59) (by decide +kernel) rfl, ⟨by decide +kernel, by decide +kernel⟩, by decide⟩
abbrev jX4_type : gw_J := (yX4_type, cX4_type, 2, some .int, 0, 0)
set_option maxRecDepth 20000 in
theorem okX4_type : gw_ok jX4_type := ⟨by decide +kernel, gw_Tb_in (i := 279) rfl rfl, gw_Tb_in (i := 55) (by decide +kernel) rfl, ⟨by decide +kernel, by decide +kernel⟩, by decide⟩
abbrev jX2_add : gw_J := (yX2_add, cX2_add, 2, none, 0, 0)
set_option maxRecDepth 20000 in
theorem okX2_add : gw_ok jX2_add := ⟨by decide +kernel, gw_Tb_in (i := 283) rfl rfl, gw_Tb_in (i := 56) (by decide +kernel) rfl, ⟨by decide +kernel, by decide +kernel⟩, by decide⟩
abbrev jX4_clear : gw_J := (yX4_clear, cX4_clear, 2, some .int, 0, 0)
set_option maxRecDepth 20000 in
theorem okX4_clear : gw_ok jX4_clear := ⟨by decide +kernel, gw_Tb_in (i := 287) rfl rfl, gw_Tb_in (i := 55) (by decide +kernel) rfl, ⟨by decide +kernel, by decide +kernel⟩, by decide⟩
abbrev jX4_band : gw_J := (yX4_band, cX4_band, 3, some .int, 0, 0)
set_option maxRecDepth 20000 in
theorem okX4_band : gw_ok jX4_band := ⟨by decide +kernel, gw_Tb_in (i := 291) rfl rfl, gw_Tb_in (i := 55) (by decide +kernel) rfl, ⟨by decide +kernel, by decide +kernel⟩, by decide⟩
abbrev jX2_read : gw_J := (yX2_read, cX2_read, 2, some .int, 0, 0)
set_option maxRecDepth 20000 in
theorem okX2_read : gw_ok jX2_read := ⟨by decide +kernel, gw_Tb_in (i := 295) rfl rfl, gw_Tb_in (i := 56) (by decide +kernel) rfl, ⟨by decide +kernel, by decide +kernel⟩, by decide⟩
abbrev jX0_empty : gw_J := (yX0_empty, cX0_empty, 1, none, 0, 0)
set_option maxRecDepth 20000 in
theorem okX0_empty : gw_ok jX0_empty := ⟨by decide +kernel, gw_Tb_in (i := 299) rfl rfl, gw_Tb_in (i := 57) (by decide +kernel) rfl, ⟨by decide +kernel, by decide +kernel⟩, by decide⟩
abbrev jX1_empty : gw_J := (yX1_empty, cX1_empty, 1, none, 0, 0)
set_option maxRecDepth 20000 in
theorem okX1_empty : gw_ok jX1_empty := ⟨by decide +kernel, gw_Tb_in (i := 303) rfl rfl, gw_Tb_in (i := 58) (by decide +kernel) rfl, ⟨by decide +kernel, by decide +kernel⟩, by decide⟩
abbrev jX2_next : gw_J := (yX2_next, cX2_next, 1, none, 0, 0)
set_option maxRecDepth 20000 in
theorem okX2_next : gw_ok jX2_next := ⟨by decide +kernel, gw_Tb_in (i := 307) rfl rfl, gw_Tb_in (i := 56) (by decide +kernel) rfl, ⟨by decide +kernel, by decide +kernel⟩, by decide⟩
abbrev jX2_isFigure : gw_J := (yX2_isFigure, cX2_isFigure, 1, some .boolean, 0, 0)
set_option maxRecDepth 20000 in
theorem okX2_isFigure : gw_ok jX2_isFigure := ⟨by decide +kernel, gw_Tb_in (i := 310) rfl rfl, gw_Tb_in (i := 56) (by decide +kernel) rfl, ⟨by decide +kernel, by decide +kernel⟩, by decide⟩
abbrev jX2_nextNumber : gw_J := (yX2_nextNumber, cX2_nextNumber, 3, none, 0, 0)
set_option maxRecDepth 20000 in
theorem okX2_nextNumber : gw_ok jX2_nextNumber := ⟨by decide +kernel, gw_Tb_in (i := 314) rfl rfl, gw_Tb_in (i := 56) (by decide +kernel) rfl, ⟨by decide +kernel, by decide +kernel⟩, by decide⟩
abbrev jX2_readItem : gw_J := (yX2_readItem, cX2_readItem, 1, some .boolean, 0, 0)
set_option maxRecDepth 20000 in
theorem okX2_readItem : gw_ok jX2_readItem := ⟨by decide +kernel, gw_Tb_in (i := 318) rfl rfl, gw_Tb_in (i := 56) (by decide +kernel) rfl, ⟨by decide +kernel, by decide +kernel⟩, by decide⟩
abbrev jX2_readPlayer : gw_J := (yX2_readPlayer, cX2_readPlayer, 6, some .boolean, 0, 0)
set_option maxRecDepth 20000 in
theorem okX2_readPlayer : gw_ok jX2_readPlayer := ⟨by decide +kernel, gw_Tb_in (i := 322) rfl rfl, gw_Tb_in (i := 56) (by decide +kernel) rfl, ⟨by decide +kernel, by decide +kernel⟩, by decide⟩
abbrev jX0_hasRoomFor : gw_J := (yX0_hasRoomFor, cX0_hasRoomFor, 2, some .boolean, 0, 0)
set_option maxRecDepth 20000 in
theorem okX0_hasRoomFor : gw_ok jX0_hasRoomFor := ⟨by decide +kernel, gw_Tb_in (i := 326) rfl rfl, gw_Tb_in (i := 57) (by decide +kernel) rfl, ⟨by decide +kernel, by decide +kernel⟩, by decide⟩
abbrev jX2_nextIsNumber : gw_J := (yX2_nextIsNumber, cX2_nextIsNumber, 3, some .boolean, 0, 0)
set_option maxRecDepth 20000 in
theorem okX2_nextIsNumber : gw_ok jX2_nextIsNumber := ⟨by decide +kernel, gw_Tb_in (i := 330) rfl rfl, gw_Tb_in (i := 56) (by decide +kernel) rfl, ⟨by decide +kernel, by decide +kernel⟩, by decide⟩
abbrev jX2_isNumber : gw_J := (yX2_isNumber, cX2_isNumber, 3, some .boolean, 0, 0)
set_option maxRecDepth 20000 in
theorem okX2_isNumber : gw_ok jX2_isNumber := ⟨by decide +kernel, gw_Tb_in (i := 334) rfl rfl, gw_Tb_in (i := 56) (by decide +kernel) rfl, ⟨by decide +kernel, by decide +kernel⟩, by decide⟩
abbrev jX4_isWithin : gw_J := (yX4_isWithin, cX4_isWithin, 3, some .boolean, 0, 0)
set_option maxRecDepth 20000 in
theorem okX4_isWithin : gw_ok jX4_isWithin := ⟨by decide +kernel, gw_Tb_in (i := 337) rfl rfl, gw_Tb_in (i := 55) (by decide +kernel) rfl, ⟨by decide +kernel, by decide +kernel⟩, by decide⟩
abbrev jX0_add : gw_J := (yX0_add, cX0_add, 6, none, 0, 0)
set_option maxRecDepth 20000 in
theorem okX0_add : gw_ok jX0_add := ⟨by decide +kernel, gw_Tb_in (i := 341) rfl rfl, gw_Tb_in (i := 57) (by decide +kernel) rfl, ⟨by decide +kernel, by decide +kernel⟩, by decide⟩
abbrev jX2_nextEndsItem : gw_J := (yX2_nextEndsItem, cX2_nextEndsItem, 1, some .boolean, 0, 0)
set_option maxRecDepth 20000 in
theorem okX2_nextEndsItem : gw_ok jX2_nextEndsItem := ⟨by decide +kernel, gw_Tb_in (i := 346) rfl rfl, gw_Tb_in (i := 56) (by decide +kernel) rfl, ⟨by decide +kernel, by decide +kernel⟩, by decide⟩
abbrev jX2_readChord : gw_J := (yX2_readChord, cX2_readChord, 2, some .boolean, 0, 0)
set_option maxRecDepth 20000 in
theorem okX2_readChord : gw_ok jX2_readChord := ⟨by decide +kernel, gw_Tb_in (i := 350) rfl rfl, gw_Tb_in (i := 56) (by decide +kernel) rfl, ⟨by decide +kernel, by decide +kernel⟩, by decide⟩
abbrev jX1_put : gw_J := (yX1_put, cX1_put, 5, none, 0, 0)
set_option maxRecDepth 20000 in
theorem okX1_put : gw_ok jX1_put := ⟨by decide +kernel, gw_Tb_in (i := 354) rfl rfl, gw_Tb_in (i := 58) (by decide +kernel) rfl, ⟨by decide +kernel, by decide +kernel⟩, by decide⟩
abbrev jX2_readRules : gw_J := (yX2_readRules, cX2_readRules, 1, some .boolean, 0, 0)
set_option maxRecDepth 20000 in
theorem okX2_readRules : gw_ok jX2_readRules := ⟨by decide +kernel, gw_Tb_in (i := 358) rfl rfl, gw_Tb_in (i := 56) (by decide +kernel) rfl, ⟨by decide +kernel, by decide +kernel⟩, by decide⟩
abbrev jX0_become : gw_J := (yX0_become, cX0_become, 3, none, 0, 0)
set_option maxRecDepth 20000 in
theorem okX0_become : gw_ok jX0_become := ⟨by decide +kernel, gw_Tb_in (i := 362) rfl rfl, gw_Tb_in (i := 57) (by decide +kernel) rfl, ⟨by decide +kernel, by decide +kernel⟩, by decide⟩
abbrev jX1_become : gw_J := (yX1_become, cX1_become, 3, none, 0, 0)
set_option maxRecDepth 20000 in
theorem okX1_become : gw_ok jX1_become := ⟨by decide +kernel, gw_Tb_in (i := 368) rfl rfl, gw_Tb_in (i := 58) (by decide +kernel) rfl, ⟨by decide +kernel, by decide +kernel⟩, by decide⟩
abbrev jX4_player : gw_J := (yX4_player, cX4_player, 3, some .int, 0, 0)
set_option maxRecDepth 20000 in
theorem okX4_player : gw_ok jX4_player := ⟨by decide +kernel, gw_Tb_in (i := 372) rfl rfl, gw_Tb_in (i := 55) (by decide +kernel) rfl, ⟨by decide +kernel, by decide +kernel⟩, by decide⟩
abbrev jX4_isPlayer : gw_J := (yX4_isPlayer, cX4_isPlayer, 2, some .boolean, 0, 0)
set_option maxRecDepth 20000 in
theorem okX4_isPlayer : gw_ok jX4_isPlayer := ⟨by decide +kernel, gw_Tb_in (i := 376) rfl rfl, gw_Tb_in (i := 55) (by decide +kernel) rfl, ⟨by decide +kernel, by decide +kernel⟩, by decide⟩
abbrev jX4_span : gw_J := (yX4_span, cX4_span, 2, some .int, 0, 0)
set_option maxRecDepth 20000 in
theorem okX4_span : gw_ok jX4_span := ⟨by decide +kernel, gw_Tb_in (i := 380) rfl rfl, gw_Tb_in (i := 55) (by decide +kernel) rfl, ⟨by decide +kernel, by decide +kernel⟩, by decide⟩
abbrev jX4_chord : gw_J := (yX4_chord, cX4_chord, 4, some .int, 0, 0)
set_option maxRecDepth 20000 in
theorem okX4_chord : gw_ok jX4_chord := ⟨by decide +kernel, gw_Tb_in (i := 384) rfl rfl, gw_Tb_in (i := 55) (by decide +kernel) rfl, ⟨by decide +kernel, by decide +kernel⟩, by decide⟩
abbrev jX4_isChord : gw_J := (yX4_isChord, cX4_isChord, 2, some .boolean, 0, 0)
set_option maxRecDepth 20000 in
theorem okX4_isChord : gw_ok jX4_isChord := ⟨by decide +kernel, gw_Tb_in (i := 388) rfl rfl, gw_Tb_in (i := 55) (by decide +kernel) rfl, ⟨by decide +kernel, by decide +kernel⟩, by decide⟩
abbrev jX1_notesOf : gw_J := (yX1_notesOf, cX1_notesOf, 3, some .int, 0, 0)
set_option maxRecDepth 20000 in
theorem okX1_notesOf : gw_ok jX1_notesOf := ⟨by decide +kernel, gw_Tb_in (i := 392) rfl rfl, gw_Tb_in (i := 58) (by decide +kernel) rfl, ⟨by decide +kernel, by decide +kernel⟩, by decide⟩
abbrev jX1_noteAt : gw_J := (yX1_noteAt, cX1_noteAt, 3, some .int, 0, 0)
set_option maxRecDepth 20000 in
theorem okX1_noteAt : gw_ok jX1_noteAt := ⟨by decide +kernel, gw_Tb_in (i := 396) rfl rfl, gw_Tb_in (i := 58) (by decide +kernel) rfl, ⟨by decide +kernel, by decide +kernel⟩, by decide⟩
abbrev jX4_puts : gw_J := (yX4_puts, cX4_puts, 5, some .int, 0, 0)
set_option maxRecDepth 20000 in
theorem okX4_puts : gw_ok jX4_puts := ⟨by decide +kernel, gw_Tb_in (i := 401) rfl rfl, gw_Tb_in (i := 55) (by decide +kernel) rfl, ⟨by decide +kernel, by decide +kernel⟩, by decide⟩
abbrev jX4_areNotes : gw_J := (yX4_areNotes, cX4_areNotes, 3, some .boolean, 0, 0)
set_option maxRecDepth 20000 in
theorem okX4_areNotes : gw_ok jX4_areNotes := ⟨by decide +kernel, gw_Tb_in (i := 404) rfl rfl, gw_Tb_in (i := 55) (by decide +kernel) rfl, ⟨by decide +kernel, by decide +kernel⟩, by decide⟩
abbrev jX1_isThat : gw_J := (yX1_isThat, cX1_isThat, 5, some .boolean, 0, 0)
set_option maxRecDepth 20000 in
theorem okX1_isThat : gw_ok jX1_isThat := ⟨by decide +kernel, gw_Tb_in (i := 409) rfl rfl, gw_Tb_in (i := 58) (by decide +kernel) rfl, ⟨by decide +kernel, by decide +kernel⟩, by decide⟩
abbrev jX4_remember : gw_J := (yX4_remember, cX4_remember, 1, none, 0, 0)
set_option maxRecDepth 20000 in
theorem okX4_remember : gw_ok jX4_remember := ⟨by decide +kernel, gw_Tb_in (i := 413) rfl rfl, gw_Tb_in (i := 55) (by decide +kernel) rfl, ⟨by decide +kernel, by decide +kernel⟩, by decide⟩
abbrev jX4_forgetOldest : gw_J := (yX4_forgetOldest, cX4_forgetOldest, 3, none, 0, 0)
set_option maxRecDepth 20000 in
theorem okX4_forgetOldest : gw_ok jX4_forgetOldest := ⟨by decide +kernel, gw_Tb_in (i := 417) rfl rfl, gw_Tb_in (i := 55) (by decide +kernel) rfl, ⟨by decide +kernel, by decide +kernel⟩, by decide⟩
abbrev jX4_takes : gw_J := (yX4_takes, cX4_takes, 2, some .int, 0, 0)
set_option maxRecDepth 20000 in
theorem okX4_takes : gw_ok jX4_takes := ⟨by decide +kernel, gw_Tb_in (i := 422) rfl rfl, gw_Tb_in (i := 55) (by decide +kernel) rfl, ⟨by decide +kernel, by decide +kernel⟩, by decide⟩
abbrev jX1_take : gw_J := (yX1_take, cX1_take, 3, none, 0, 0)
set_option maxRecDepth 20000 in
theorem okX1_take : gw_ok jX1_take := ⟨by decide +kernel, gw_Tb_in (i := 426) rfl rfl, gw_Tb_in (i := 58) (by decide +kernel) rfl, ⟨by decide +kernel, by decide +kernel⟩, by decide⟩
abbrev jX4_calls : gw_J := (yX4_calls, cX4_calls, 2, some .int, 0, 0)
set_option maxRecDepth 20000 in
theorem okX4_calls : gw_ok jX4_calls := ⟨by decide +kernel, gw_Tb_in (i := 430) rfl rfl, gw_Tb_in (i := 55) (by decide +kernel) rfl, ⟨by decide +kernel, by decide +kernel⟩, by decide⟩
abbrev jX4_tells : gw_J := (yX4_tells, cX4_tells, 3, some .int, 0, 0)
set_option maxRecDepth 20000 in
theorem okX4_tells : gw_ok jX4_tells := ⟨by decide +kernel, gw_Tb_in (i := 434) rfl rfl, gw_Tb_in (i := 55) (by decide +kernel) rfl, ⟨by decide +kernel, by decide +kernel⟩, by decide⟩
abbrev jX4_undo : gw_J := (yX4_undo, cX4_undo, 1, some .int, 0, 0)
set_option maxRecDepth 20000 in
theorem okX4_undo : gw_ok jX4_undo := ⟨by decide +kernel, gw_Tb_in (i := 438) rfl rfl, gw_Tb_in (i := 55) (by decide +kernel) rfl, ⟨by decide +kernel, by decide +kernel⟩, by decide⟩
abbrev jX4_could : gw_J := (yX4_could, cX4_could, 4, some .int, 0, 0)
set_option maxRecDepth 20000 in
theorem okX4_could : gw_ok jX4_could := ⟨by decide +kernel, gw_Tb_in (i := 442) rfl rfl, gw_Tb_in (i := 55) (by decide +kernel) rfl, ⟨by decide +kernel, by decide +kernel⟩, by decide⟩
abbrev jX0_manages : gw_J := (yX0_manages, cX0_manages, 8, some .boolean, 0, 0)
set_option maxRecDepth 20000 in
theorem okX0_manages : gw_ok jX0_manages := ⟨by decide +kernel, gw_Tb_in (i := 446) rfl rfl, gw_Tb_in (i := 57) (by decide +kernel) rfl, ⟨by decide +kernel, by decide +kernel⟩, by decide⟩
abbrev jJ6_bitCount_0f7a4 : gw_J := (yJ6_bitCount_0f7a4, cJ6_bitCount_0f7a4, 1, some .int, 0, 0)
set_option maxRecDepth 20000 in
theorem okJ6_bitCount_0f7a4 : gw_ok jJ6_bitCount_0f7a4 := ⟨by decide +kernel, gw_Tb_in (i := 449) rfl rfl, gw_Tb_in (i := 61) (by decide +kernel) rfl, ⟨by decide +kernel, by decide +kernel⟩, by decide⟩
abbrev jX1_lowestOf : gw_J := (yX1_lowestOf, cX1_lowestOf, 4, some .int, 0, 0)
set_option maxRecDepth 20000 in
theorem okX1_lowestOf : gw_ok jX1_lowestOf := ⟨by decide +kernel, gw_Tb_in (i := 456) rfl rfl, gw_Tb_in (i := 58) (by decide +kernel) rfl, ⟨by decide +kernel, by decide +kernel⟩, by decide⟩
abbrev jX1_highestOf : gw_J := (yX1_highestOf, cX1_highestOf, 4, some .int, 0, 0)
set_option maxRecDepth 20000 in
theorem okX1_highestOf : gw_ok jX1_highestOf := ⟨by decide +kernel, gw_Tb_in (i := 460) rfl rfl, gw_Tb_in (i := 58) (by decide +kernel) rfl, ⟨by decide +kernel, by decide +kernel⟩, by decide⟩
abbrev jX4_spreads : gw_J := (yX4_spreads, cX4_spreads, 2, some .int, 0, 0)
set_option maxRecDepth 20000 in
theorem okX4_spreads : gw_ok jX4_spreads := ⟨by decide +kernel, gw_Tb_in (i := 464) rfl rfl, gw_Tb_in (i := 55) (by decide +kernel) rfl, ⟨by decide +kernel, by decide +kernel⟩, by decide⟩
abbrev jX3_evenSpreads : gw_J := (yX3_evenSpreads, cX3_evenSpreads, 6, some .int, 0, 0)
set_option maxRecDepth 20000 in
theorem okX3_evenSpreads : gw_ok jX3_evenSpreads := ⟨by decide +kernel, gw_Tb_in (i := 468) rfl rfl, gw_Tb_in (i := 59) (by decide +kernel) rfl, ⟨by decide +kernel, by decide +kernel⟩, by decide⟩
abbrev jX3_offer : gw_J := (yX3_offer, cX3_offer, 8, none, 0, 0)
set_option maxRecDepth 20000 in
theorem okX3_offer : gw_ok jX3_offer := ⟨by decide +kernel, gw_Tb_in (i := 472) rfl rfl, gw_Tb_in (i := 59) (by decide +kernel) rfl, ⟨by decide +kernel, by decide +kernel⟩, by decide⟩
abbrev jX3_findGaps : gw_J := (yX3_findGaps, cX3_findGaps, 6, some .int, 0, 0)
set_option maxRecDepth 20000 in
theorem okX3_findGaps : gw_ok jX3_findGaps := ⟨by decide +kernel, gw_Tb_in (i := 481) rfl rfl, gw_Tb_in (i := 59) (by decide +kernel) rfl, ⟨by decide +kernel, by decide +kernel⟩, by decide⟩
abbrev jX3_packedLoud : gw_J := (yX3_packedLoud, cX3_packedLoud, 6, some .int, 0, 0)
set_option maxRecDepth 20000 in
theorem okX3_packedLoud : gw_ok jX3_packedLoud := ⟨by decide +kernel, gw_Tb_in (i := 485) rfl rfl, gw_Tb_in (i := 59) (by decide +kernel) rfl, ⟨by decide +kernel, by decide +kernel⟩, by decide⟩
abbrev jX0_strength : gw_J := (yX0_strength, cX0_strength, 3, some .int, 0, 0)
set_option maxRecDepth 20000 in
theorem okX0_strength : gw_ok jX0_strength := ⟨by decide +kernel, gw_Tb_in (i := 489) rfl rfl, gw_Tb_in (i := 57) (by decide +kernel) rfl, ⟨by decide +kernel, by decide +kernel⟩, by decide⟩
abbrev jX3_widen : gw_J := (yX3_widen, cX3_widen, 7, some .int, 0, 0)
set_option maxRecDepth 20000 in
theorem okX3_widen : gw_ok jX3_widen := ⟨by decide +kernel, gw_Tb_in (i := 493) rfl rfl, gw_Tb_in (i := 59) (by decide +kernel) rfl, ⟨by decide +kernel, by decide +kernel⟩, by decide⟩
abbrev jX3_gapOf : gw_J := (yX3_gapOf, cX3_gapOf, 6, some .int, 0, 0)
set_option maxRecDepth 20000 in
theorem okX3_gapOf : gw_ok jX3_gapOf := ⟨by decide +kernel, gw_Tb_in (i := 496) rfl rfl, gw_Tb_in (i := 59) (by decide +kernel) rfl, ⟨by decide +kernel, by decide +kernel⟩, by decide⟩
abbrev jX4_score : gw_J := (yX4_score, cX4_score, 2, some .int, 0, 0)
set_option maxRecDepth 20000 in
theorem okX4_score : gw_ok jX4_score := ⟨by decide +kernel, gw_Tb_in (i := 504) rfl rfl, gw_Tb_in (i := 55) (by decide +kernel) rfl, ⟨by decide +kernel, by decide +kernel⟩, by decide⟩
abbrev jX4_isThereAScore : gw_J := (yX4_isThereAScore, cX4_isThereAScore, 1, some .boolean, 0, 0)
set_option maxRecDepth 20000 in
theorem okX4_isThereAScore : gw_ok jX4_isThereAScore := ⟨by decide +kernel, gw_Tb_in (i := 508) rfl rfl, gw_Tb_in (i := 55) (by decide +kernel) rfl, ⟨by decide +kernel, by decide +kernel⟩, by decide⟩
abbrev jX3_solve : gw_J := (yX3_solve, cX3_solve, 3, none, 0, 0)
set_option maxRecDepth 20000 in
theorem okX3_solve : gw_ok jX3_solve := ⟨by decide +kernel, gw_Tb_in (i := 512) rfl rfl, gw_Tb_in (i := 59) (by decide +kernel) rfl, ⟨by decide +kernel, by decide +kernel⟩, by decide⟩
abbrev jX3_findCosts : gw_J := (yX3_findCosts, cX3_findCosts, 4, none, 0, 0)
set_option maxRecDepth 20000 in
theorem okX3_findCosts : gw_ok jX3_findCosts := ⟨by decide +kernel, gw_Tb_in (i := 516) rfl rfl, gw_Tb_in (i := 59) (by decide +kernel) rfl, ⟨by decide +kernel, by decide +kernel⟩, by decide⟩
abbrev jX3_fill : gw_J := (yX3_fill, cX3_fill, 4, none, 0, 0)
set_option maxRecDepth 20000 in
theorem okX3_fill : gw_ok jX3_fill := ⟨by decide +kernel, gw_Tb_in (i := 519) rfl rfl, gw_Tb_in (i := 59) (by decide +kernel) rfl, ⟨by decide +kernel, by decide +kernel⟩, by decide⟩
abbrev jX3_carry : gw_J := (yX3_carry, cX3_carry, 7, none, 0, 0)
set_option maxRecDepth 20000 in
theorem okX3_carry : gw_ok jX3_carry := ⟨by decide +kernel, gw_Tb_in (i := 523) rfl rfl, gw_Tb_in (i := 59) (by decide +kernel) rfl, ⟨by decide +kernel, by decide +kernel⟩, by decide⟩
abbrev jX3_carryPlayer : gw_J := (yX3_carryPlayer, cX3_carryPlayer, 13, none, 0, 0)
set_option maxRecDepth 20000 in
theorem okX3_carryPlayer : gw_ok jX3_carryPlayer := ⟨by decide +kernel, gw_Tb_in (i := 527) rfl rfl, gw_Tb_in (i := 59) (by decide +kernel) rfl, ⟨by decide +kernel, by decide +kernel⟩, by decide⟩
abbrev jX3_way : gw_J := (yX3_way, cX3_way, 7, some .int, 0, 0)
set_option maxRecDepth 20000 in
theorem okX3_way : gw_ok jX3_way := ⟨by decide +kernel, gw_Tb_in (i := 531) rfl rfl, gw_Tb_in (i := 59) (by decide +kernel) rfl, ⟨by decide +kernel, by decide +kernel⟩, by decide⟩
abbrev jX3_lower : gw_J := (yX3_lower, cX3_lower, 11, none, 0, 0)
set_option maxRecDepth 20000 in
theorem okX3_lower : gw_ok jX3_lower := ⟨by decide +kernel, gw_Tb_in (i := 540) rfl rfl, gw_Tb_in (i := 59) (by decide +kernel) rfl, ⟨by decide +kernel, by decide +kernel⟩, by decide⟩
abbrev jX3_firstBest : gw_J := (yX3_firstBest, cX3_firstBest, 6, some .int, 0, 0)
set_option maxRecDepth 20000 in
theorem okX3_firstBest : gw_ok jX3_firstBest := ⟨by decide +kernel, gw_Tb_in (i := 544) rfl rfl, gw_Tb_in (i := 59) (by decide +kernel) rfl, ⟨by decide +kernel, by decide +kernel⟩, by decide⟩
abbrev jX3_handIn : gw_J := (yX3_handIn, cX3_handIn, 3, some .int, 0, 0)
set_option maxRecDepth 20000 in
theorem okX3_handIn : gw_ok jX3_handIn := ⟨by decide +kernel, gw_Tb_in (i := 548) rfl rfl, gw_Tb_in (i := 59) (by decide +kernel) rfl, ⟨by decide +kernel, by decide +kernel⟩, by decide⟩
abbrev jX3_choose : gw_J := (yX3_choose, cX3_choose, 7, none, 0, 0)
set_option maxRecDepth 20000 in
theorem okX3_choose : gw_ok jX3_choose := ⟨by decide +kernel, gw_Tb_in (i := 552) rfl rfl, gw_Tb_in (i := 59) (by decide +kernel) rfl, ⟨by decide +kernel, by decide +kernel⟩, by decide⟩
abbrev jX3_handsThatPlay : gw_J := (yX3_handsThatPlay, cX3_handsThatPlay, 3, some .int, 0, 0)
set_option maxRecDepth 20000 in
theorem okX3_handsThatPlay : gw_ok jX3_handsThatPlay := ⟨by decide +kernel, gw_Tb_in (i := 557) rfl rfl, gw_Tb_in (i := 59) (by decide +kernel) rfl, ⟨by decide +kernel, by decide +kernel⟩, by decide⟩
abbrev jX3_doubledNotes : gw_J := (yX3_doubledNotes, cX3_doubledNotes, 4, some .int, 0, 0)
set_option maxRecDepth 20000 in
theorem okX3_doubledNotes : gw_ok jX3_doubledNotes := ⟨by decide +kernel, gw_Tb_in (i := 561) rfl rfl, gw_Tb_in (i := 59) (by decide +kernel) rfl, ⟨by decide +kernel, by decide +kernel⟩, by decide⟩
abbrev jX3_playersOf : gw_J := (yX3_playersOf, cX3_playersOf, 5, some .int, 0, 0)
set_option maxRecDepth 20000 in
theorem okX3_playersOf : gw_ok jX3_playersOf := ⟨by decide +kernel, gw_Tb_in (i := 565) rfl rfl, gw_Tb_in (i := 59) (by decide +kernel) rfl, ⟨by decide +kernel, by decide +kernel⟩, by decide⟩
abbrev jX4_hand : gw_J := (yX4_hand, cX4_hand, 3, some .int, 0, 0)
set_option maxRecDepth 20000 in
theorem okX4_hand : gw_ok jX4_hand := ⟨by decide +kernel, gw_Tb_in (i := 569) rfl rfl, gw_Tb_in (i := 55) (by decide +kernel) rfl, ⟨by decide +kernel, by decide +kernel⟩, by decide⟩
abbrev jX4_loud : gw_J := (yX4_loud, cX4_loud, 3, some .int, 0, 0)
set_option maxRecDepth 20000 in
theorem okX4_loud : gw_ok jX4_loud := ⟨by decide +kernel, gw_Tb_in (i := 574) rfl rfl, gw_Tb_in (i := 55) (by decide +kernel) rfl, ⟨by decide +kernel, by decide +kernel⟩, by decide⟩
abbrev jX3_loudWithout : gw_J := (yX3_loudWithout, cX3_loudWithout, 7, some .int, 0, 0)
set_option maxRecDepth 20000 in
theorem okX3_loudWithout : gw_ok jX3_loudWithout := ⟨by decide +kernel, gw_Tb_in (i := 578) rfl rfl, gw_Tb_in (i := 59) (by decide +kernel) rfl, ⟨by decide +kernel, by decide +kernel⟩, by decide⟩
abbrev jX4_couldRest : gw_J := (yX4_couldRest, cX4_couldRest, 4, some .int, 0, 0)
set_option maxRecDepth 20000 in
theorem okX4_couldRest : gw_ok jX4_couldRest := ⟨by decide +kernel, gw_Tb_in (i := 582) rfl rfl, gw_Tb_in (i := 55) (by decide +kernel) rfl, ⟨by decide +kernel, by decide +kernel⟩, by decide⟩
abbrev jX3_isEvenWithout : gw_J := (yX3_isEvenWithout, cX3_isEvenWithout, 6, some .boolean, 0, 0)
set_option maxRecDepth 20000 in
theorem okX3_isEvenWithout : gw_ok jX3_isEvenWithout := ⟨by decide +kernel, gw_Tb_in (i := 586) rfl rfl, gw_Tb_in (i := 59) (by decide +kernel) rfl, ⟨by decide +kernel, by decide +kernel⟩, by decide⟩
abbrev jX4_move : gw_J := (yX4_move, cX4_move, 3, some .int, 0, 0)
set_option maxRecDepth 20000 in
theorem okX4_move : gw_ok jX4_move := ⟨by decide +kernel, gw_Tb_in (i := 591) rfl rfl, gw_Tb_in (i := 55) (by decide +kernel) rfl, ⟨by decide +kernel, by decide +kernel⟩, by decide⟩
abbrev jX4_reach : gw_J := (yX4_reach, cX4_reach, 2, some .int, 0, 0)
set_option maxRecDepth 20000 in
theorem okX4_reach : gw_ok jX4_reach := ⟨by decide +kernel, gw_Tb_in (i := 596) rfl rfl, gw_Tb_in (i := 55) (by decide +kernel) rfl, ⟨by decide +kernel, by decide +kernel⟩, by decide⟩
abbrev jX3_measure : gw_J := (yX3_measure, cX3_measure, 6, none, 0, 0)
set_option maxRecDepth 20000 in
theorem okX3_measure : gw_ok jX3_measure := ⟨by decide +kernel, gw_Tb_in (i := 600) rfl rfl, gw_Tb_in (i := 59) (by decide +kernel) rfl, ⟨by decide +kernel, by decide +kernel⟩, by decide⟩
abbrev jX3_needed : gw_J := (yX3_needed, cX3_needed, 2, some .int, 0, 0)
set_option maxRecDepth 20000 in
theorem okX3_needed : gw_ok jX3_needed := ⟨by decide +kernel, gw_Tb_in (i := 604) rfl rfl, gw_Tb_in (i := 59) (by decide +kernel) rfl, ⟨by decide +kernel, by decide +kernel⟩, by decide⟩
abbrev jX4_fewest : gw_J := (yX4_fewest, cX4_fewest, 3, some .int, 0, 0)
set_option maxRecDepth 20000 in
theorem okX4_fewest : gw_ok jX4_fewest := ⟨by decide +kernel, gw_Tb_in (i := 608) rfl rfl, gw_Tb_in (i := 55) (by decide +kernel) rfl, ⟨by decide +kernel, by decide +kernel⟩, by decide⟩
abbrev jX4_canPlayAll : gw_J := (yX4_canPlayAll, cX4_canPlayAll, 2, some .boolean, 0, 0)
set_option maxRecDepth 20000 in
theorem okX4_canPlayAll : gw_ok jX4_canPlayAll := ⟨by decide +kernel, gw_Tb_in (i := 613) rfl rfl, gw_Tb_in (i := 55) (by decide +kernel) rfl, ⟨by decide +kernel, by decide +kernel⟩, by decide⟩
abbrev jX4_bear : gw_J := (yX4_bear, cX4_bear, 2, some .int, 0, 0)
set_option maxRecDepth 20000 in
theorem okX4_bear : gw_ok jX4_bear := ⟨by decide +kernel, gw_Tb_in (i := 617) rfl rfl, gw_Tb_in (i := 55) (by decide +kernel) rfl, ⟨by decide +kernel, by decide +kernel⟩, by decide⟩
abbrev jX4_hears : gw_J := (yX4_hears, cX4_hears, 3, some .int, 0, 0)
set_option maxRecDepth 20000 in
theorem okX4_hears : gw_ok jX4_hears := ⟨by decide +kernel, gw_Tb_in (i := 621) rfl rfl, gw_Tb_in (i := 55) (by decide +kernel) rfl, ⟨by decide +kernel, by decide +kernel⟩, by decide⟩
abbrev jX4_forget : gw_J := (yX4_forget, cX4_forget, 2, some .int, 0, 0)
set_option maxRecDepth 20000 in
theorem okX4_forget : gw_ok jX4_forget := ⟨by decide +kernel, gw_Tb_in (i := 625) rfl rfl, gw_Tb_in (i := 55) (by decide +kernel) rfl, ⟨by decide +kernel, by decide +kernel⟩, by decide⟩
abbrev jX4_ill : gw_J := (yX4_ill, cX4_ill, 3, some .int, 0, 0)
set_option maxRecDepth 20000 in
theorem okX4_ill : gw_ok jX4_ill := ⟨by decide +kernel, gw_Tb_in (i := 629) rfl rfl, gw_Tb_in (i := 55) (by decide +kernel) rfl, ⟨by decide +kernel, by decide +kernel⟩, by decide⟩
abbrev jX4_fitsAllHeard : gw_J := (yX4_fitsAllHeard, cX4_fitsAllHeard, 4, some .boolean, 0, 0)
set_option maxRecDepth 20000 in
theorem okX4_fitsAllHeard : gw_ok jX4_fitsAllHeard := ⟨by decide +kernel, gw_Tb_in (i := 633) rfl rfl, gw_Tb_in (i := 55) (by decide +kernel) rfl, ⟨by decide +kernel, by decide +kernel⟩, by decide⟩
abbrev jX4_keep : gw_J := (yX4_keep, cX4_keep, 2, some .int, 0, 0)
set_option maxRecDepth 20000 in
theorem okX4_keep : gw_ok jX4_keep := ⟨by decide +kernel, gw_Tb_in (i := 637) rfl rfl, gw_Tb_in (i := 55) (by decide +kernel) rfl, ⟨by decide +kernel, by decide +kernel⟩, by decide⟩
abbrev jX4_back : gw_J := (yX4_back, cX4_back, 2, some .int, 0, 0)
set_option maxRecDepth 20000 in
theorem okX4_back : gw_ok jX4_back := ⟨by decide +kernel, gw_Tb_in (i := 641) rfl rfl, gw_Tb_in (i := 55) (by decide +kernel) rfl, ⟨by decide +kernel, by decide +kernel⟩, by decide⟩
abbrev jX4_count : gw_J := (yX4_count, cX4_count, 2, some .int, 0, 0)
set_option maxRecDepth 20000 in
theorem okX4_count : gw_ok jX4_count := ⟨by decide +kernel, gw_Tb_in (i := 645) rfl rfl, gw_Tb_in (i := 55) (by decide +kernel) rfl, ⟨by decide +kernel, by decide +kernel⟩, by decide⟩
abbrev jX5_init : gw_J := (yX5_init, cX5_init, 1, none, 14, 13268)
set_option maxRecDepth 20000 in
theorem okX5_init : gw_ok jX5_init := ⟨by decide +kernel, gw_Tb_in (i := 650) rfl rfl, gw_Tb_in (i := 60) (by decide +kernel) rfl, ⟨by decide +kernel, by decide +kernel⟩, by decide⟩
abbrev jX5_begins : gw_J := (yX5_begins, cX5_begins, 2, none, 0, 0)
set_option maxRecDepth 20000 in
theorem okX5_begins : gw_ok jX5_begins := ⟨by decide +kernel, gw_Tb_in (i := 655) rfl rfl, gw_Tb_in (i := 60) (by decide +kernel) rfl, ⟨by decide +kernel, by decide +kernel⟩, by decide⟩
abbrev jX5_becomes : gw_J := (yX5_becomes, cX5_becomes, 2, none, 0, 0)
set_option maxRecDepth 20000 in
theorem okX5_becomes : gw_ok jX5_becomes := ⟨by decide +kernel, gw_Tb_in (i := 659) rfl rfl, gw_Tb_in (i := 60) (by decide +kernel) rfl, ⟨by decide +kernel, by decide +kernel⟩, by decide⟩
abbrev jX5_type : gw_J := (yX5_type, cX5_type, 2, some .int, 0, 0)
set_option maxRecDepth 20000 in
theorem okX5_type : gw_ok jX5_type := ⟨by decide +kernel, gw_Tb_in (i := 733) rfl rfl, gw_Tb_in (i := 60) (by decide +kernel) rfl, ⟨by decide +kernel, by decide +kernel⟩, by decide⟩
abbrev jX5_in : gw_J := (yX5_in, cX5_in, 3, some .boolean, 0, 0)
set_option maxRecDepth 20000 in
theorem okX5_in : gw_ok jX5_in := ⟨by decide +kernel, gw_Tb_in (i := 736) rfl rfl, gw_Tb_in (i := 60) (by decide +kernel) rfl, ⟨by decide +kernel, by decide +kernel⟩, by decide⟩
abbrev jX5_clear : gw_J := (yX5_clear, cX5_clear, 2, some .int, 0, 0)
set_option maxRecDepth 20000 in
theorem okX5_clear : gw_ok jX5_clear := ⟨by decide +kernel, gw_Tb_in (i := 740) rfl rfl, gw_Tb_in (i := 60) (by decide +kernel) rfl, ⟨by decide +kernel, by decide +kernel⟩, by decide⟩
abbrev jX5_band : gw_J := (yX5_band, cX5_band, 2, some .int, 0, 0)
set_option maxRecDepth 20000 in
theorem okX5_band : gw_ok jX5_band := ⟨by decide +kernel, gw_Tb_in (i := 744) rfl rfl, gw_Tb_in (i := 60) (by decide +kernel) rfl, ⟨by decide +kernel, by decide +kernel⟩, by decide⟩
abbrev jX5_here : gw_J := (yX5_here, cX5_here, 1, some .int, 0, 0)
set_option maxRecDepth 20000 in
theorem okX5_here : gw_ok jX5_here := ⟨by decide +kernel, gw_Tb_in (i := 748) rfl rfl, gw_Tb_in (i := 60) (by decide +kernel) rfl, ⟨by decide +kernel, by decide +kernel⟩, by decide⟩
abbrev jX5_item : gw_J := (yX5_item, cX5_item, 1, some .boolean, 0, 0)
set_option maxRecDepth 20000 in
theorem okX5_item : gw_ok jX5_item := ⟨by decide +kernel, gw_Tb_in (i := 752) rfl rfl, gw_Tb_in (i := 60) (by decide +kernel) rfl, ⟨by decide +kernel, by decide +kernel⟩, by decide⟩
abbrev jX5_readsPlayer : gw_J := (yX5_readsPlayer, cX5_readsPlayer, 3, some .boolean, 0, 0)
set_option maxRecDepth 20000 in
theorem okX5_readsPlayer : gw_ok jX5_readsPlayer := ⟨by decide +kernel, gw_Tb_in (i := 756) rfl rfl, gw_Tb_in (i := 60) (by decide +kernel) rfl, ⟨by decide +kernel, by decide +kernel⟩, by decide⟩
abbrev jX5_bows : gw_J := (yX5_bows, cX5_bows, 3, some .int, 0, 0)
set_option maxRecDepth 20000 in
theorem okX5_bows : gw_ok jX5_bows := ⟨by decide +kernel, gw_Tb_in (i := 760) rfl rfl, gw_Tb_in (i := 60) (by decide +kernel) rfl, ⟨by decide +kernel, by decide +kernel⟩, by decide⟩
abbrev jX5_reads : gw_J := (yX5_reads, cX5_reads, 7, some .boolean, 0, 0)
set_option maxRecDepth 20000 in
theorem okX5_reads : gw_ok jX5_reads := ⟨by decide +kernel, gw_Tb_in (i := 764) rfl rfl, gw_Tb_in (i := 60) (by decide +kernel) rfl, ⟨by decide +kernel, by decide +kernel⟩, by decide⟩
abbrev jX5_readsChord : gw_J := (yX5_readsChord, cX5_readsChord, 4, some .boolean, 0, 0)
set_option maxRecDepth 20000 in
theorem okX5_readsChord : gw_ok jX5_readsChord := ⟨by decide +kernel, gw_Tb_in (i := 768) rfl rfl, gw_Tb_in (i := 60) (by decide +kernel) rfl, ⟨by decide +kernel, by decide +kernel⟩, by decide⟩
abbrev jX5_readsQuiet : gw_J := (yX5_readsQuiet, cX5_readsQuiet, 1, some .boolean, 0, 0)
set_option maxRecDepth 20000 in
theorem okX5_readsQuiet : gw_ok jX5_readsQuiet := ⟨by decide +kernel, gw_Tb_in (i := 772) rfl rfl, gw_Tb_in (i := 60) (by decide +kernel) rfl, ⟨by decide +kernel, by decide +kernel⟩, by decide⟩
abbrev jX5_player : gw_J := (yX5_player, cX5_player, 3, some .int, 0, 0)
set_option maxRecDepth 20000 in
theorem okX5_player : gw_ok jX5_player := ⟨by decide +kernel, gw_Tb_in (i := 776) rfl rfl, gw_Tb_in (i := 60) (by decide +kernel) rfl, ⟨by decide +kernel, by decide +kernel⟩, by decide⟩
abbrev jX5_isPlayer : gw_J := (yX5_isPlayer, cX5_isPlayer, 2, some .boolean, 0, 0)
set_option maxRecDepth 20000 in
theorem okX5_isPlayer : gw_ok jX5_isPlayer := ⟨by decide +kernel, gw_Tb_in (i := 780) rfl rfl, gw_Tb_in (i := 60) (by decide +kernel) rfl, ⟨by decide +kernel, by decide +kernel⟩, by decide⟩
abbrev jX5_isIn : gw_J := (yX5_isIn, cX5_isIn, 2, some .boolean, 0, 0)
set_option maxRecDepth 20000 in
theorem okX5_isIn : gw_ok jX5_isIn := ⟨by decide +kernel, gw_Tb_in (i := 784) rfl rfl, gw_Tb_in (i := 60) (by decide +kernel) rfl, ⟨by decide +kernel, by decide +kernel⟩, by decide⟩
abbrev jX5_span : gw_J := (yX5_span, cX5_span, 2, some .int, 0, 0)
set_option maxRecDepth 20000 in
theorem okX5_span : gw_ok jX5_span := ⟨by decide +kernel, gw_Tb_in (i := 788) rfl rfl, gw_Tb_in (i := 60) (by decide +kernel) rfl, ⟨by decide +kernel, by decide +kernel⟩, by decide⟩
abbrev jX5_kind : gw_J := (yX5_kind, cX5_kind, 2, some .int, 0, 0)
set_option maxRecDepth 20000 in
theorem okX5_kind : gw_ok jX5_kind := ⟨by decide +kernel, gw_Tb_in (i := 792) rfl rfl, gw_Tb_in (i := 60) (by decide +kernel) rfl, ⟨by decide +kernel, by decide +kernel⟩, by decide⟩
abbrev jX5_chord : gw_J := (yX5_chord, cX5_chord, 3, some .int, 0, 0)
set_option maxRecDepth 20000 in
theorem okX5_chord : gw_ok jX5_chord := ⟨by decide +kernel, gw_Tb_in (i := 796) rfl rfl, gw_Tb_in (i := 60) (by decide +kernel) rfl, ⟨by decide +kernel, by decide +kernel⟩, by decide⟩
abbrev jX5_isChord : gw_J := (yX5_isChord, cX5_isChord, 2, some .boolean, 0, 0)
set_option maxRecDepth 20000 in
theorem okX5_isChord : gw_ok jX5_isChord := ⟨by decide +kernel, gw_Tb_in (i := 800) rfl rfl, gw_Tb_in (i := 60) (by decide +kernel) rfl, ⟨by decide +kernel, by decide +kernel⟩, by decide⟩
abbrev jX5_notes : gw_J := (yX5_notes, cX5_notes, 2, some .int, 0, 0)
set_option maxRecDepth 20000 in
theorem okX5_notes : gw_ok jX5_notes := ⟨by decide +kernel, gw_Tb_in (i := 804) rfl rfl, gw_Tb_in (i := 60) (by decide +kernel) rfl, ⟨by decide +kernel, by decide +kernel⟩, by decide⟩
abbrev jX5_note : gw_J := (yX5_note, cX5_note, 3, some .int, 0, 0)
set_option maxRecDepth 20000 in
theorem okX5_note : gw_ok jX5_note := ⟨by decide +kernel, gw_Tb_in (i := 808) rfl rfl, gw_Tb_in (i := 60) (by decide +kernel) rfl, ⟨by decide +kernel, by decide +kernel⟩, by decide⟩
abbrev jX5_puts : gw_J := (yX5_puts, cX5_puts, 8, some .int, 0, 0)
set_option maxRecDepth 20000 in
theorem okX5_puts : gw_ok jX5_puts := ⟨by decide +kernel, gw_Tb_in (i := 812) rfl rfl, gw_Tb_in (i := 60) (by decide +kernel) rfl, ⟨by decide +kernel, by decide +kernel⟩, by decide⟩
abbrev jX5_areNotes : gw_J := (yX5_areNotes, cX5_areNotes, 5, some .boolean, 0, 0)
set_option maxRecDepth 20000 in
theorem okX5_areNotes : gw_ok jX5_areNotes := ⟨by decide +kernel, gw_Tb_in (i := 815) rfl rfl, gw_Tb_in (i := 60) (by decide +kernel) rfl, ⟨by decide +kernel, by decide +kernel⟩, by decide⟩
abbrev jX5_remembers : gw_J := (yX5_remembers, cX5_remembers, 2, none, 0, 0)
set_option maxRecDepth 20000 in
theorem okX5_remembers : gw_ok jX5_remembers := ⟨by decide +kernel, gw_Tb_in (i := 819) rfl rfl, gw_Tb_in (i := 60) (by decide +kernel) rfl, ⟨by decide +kernel, by decide +kernel⟩, by decide⟩
abbrev jX5_takes : gw_J := (yX5_takes, cX5_takes, 3, some .int, 0, 0)
set_option maxRecDepth 20000 in
theorem okX5_takes : gw_ok jX5_takes := ⟨by decide +kernel, gw_Tb_in (i := 823) rfl rfl, gw_Tb_in (i := 60) (by decide +kernel) rfl, ⟨by decide +kernel, by decide +kernel⟩, by decide⟩
abbrev jX5_calls : gw_J := (yX5_calls, cX5_calls, 2, some .int, 0, 0)
set_option maxRecDepth 20000 in
theorem okX5_calls : gw_ok jX5_calls := ⟨by decide +kernel, gw_Tb_in (i := 827) rfl rfl, gw_Tb_in (i := 60) (by decide +kernel) rfl, ⟨by decide +kernel, by decide +kernel⟩, by decide⟩
abbrev jX5_tells : gw_J := (yX5_tells, cX5_tells, 3, some .int, 0, 0)
set_option maxRecDepth 20000 in
theorem okX5_tells : gw_ok jX5_tells := ⟨by decide +kernel, gw_Tb_in (i := 831) rfl rfl, gw_Tb_in (i := 60) (by decide +kernel) rfl, ⟨by decide +kernel, by decide +kernel⟩, by decide⟩
abbrev jX5_undo : gw_J := (yX5_undo, cX5_undo, 2, some .int, 0, 0)
set_option maxRecDepth 20000 in
theorem okX5_undo : gw_ok jX5_undo := ⟨by decide +kernel, gw_Tb_in (i := 835) rfl rfl, gw_Tb_in (i := 60) (by decide +kernel) rfl, ⟨by decide +kernel, by decide +kernel⟩, by decide⟩
abbrev jX5_could : gw_J := (yX5_could, cX5_could, 4, some .int, 0, 0)
set_option maxRecDepth 20000 in
theorem okX5_could : gw_ok jX5_could := ⟨by decide +kernel, gw_Tb_in (i := 839) rfl rfl, gw_Tb_in (i := 60) (by decide +kernel) rfl, ⟨by decide +kernel, by decide +kernel⟩, by decide⟩
abbrev jX5_isHand : gw_J := (yX5_isHand, cX5_isHand, 7, some .boolean, 0, 0)
set_option maxRecDepth 20000 in
theorem okX5_isHand : gw_ok jX5_isHand := ⟨by decide +kernel, gw_Tb_in (i := 843) rfl rfl, gw_Tb_in (i := 60) (by decide +kernel) rfl, ⟨by decide +kernel, by decide +kernel⟩, by decide⟩
abbrev jX5_lowest : gw_J := (yX5_lowest, cX5_lowest, 1, some .int, 0, 0)
set_option maxRecDepth 20000 in
theorem okX5_lowest : gw_ok jX5_lowest := ⟨by decide +kernel, gw_Tb_in (i := 846) rfl rfl, gw_Tb_in (i := 60) (by decide +kernel) rfl, ⟨by decide +kernel, by decide +kernel⟩, by decide⟩
abbrev jX5_highest : gw_J := (yX5_highest, cX5_highest, 1, some .int, 0, 0)
set_option maxRecDepth 20000 in
theorem okX5_highest : gw_ok jX5_highest := ⟨by decide +kernel, gw_Tb_in (i := 849) rfl rfl, gw_Tb_in (i := 60) (by decide +kernel) rfl, ⟨by decide +kernel, by decide +kernel⟩, by decide⟩
abbrev jX5_ones : gw_J := (yX5_ones, cX5_ones, 1, some .int, 0, 0)
set_option maxRecDepth 20000 in
theorem okX5_ones : gw_ok jX5_ones := ⟨by decide +kernel, gw_Tb_in (i := 852) rfl rfl, gw_Tb_in (i := 60) (by decide +kernel) rfl, ⟨by decide +kernel, by decide +kernel⟩, by decide⟩
abbrev jX5_spreads : gw_J := (yX5_spreads, cX5_spreads, 2, some .int, 0, 0)
set_option maxRecDepth 20000 in
theorem okX5_spreads : gw_ok jX5_spreads := ⟨by decide +kernel, gw_Tb_in (i := 856) rfl rfl, gw_Tb_in (i := 60) (by decide +kernel) rfl, ⟨by decide +kernel, by decide +kernel⟩, by decide⟩
abbrev jX5_laysSpreads : gw_J := (yX5_laysSpreads, cX5_laysSpreads, 5, none, 0, 0)
set_option maxRecDepth 20000 in
theorem okX5_laysSpreads : gw_ok jX5_laysSpreads := ⟨by decide +kernel, gw_Tb_in (i := 860) rfl rfl, gw_Tb_in (i := 60) (by decide +kernel) rfl, ⟨by decide +kernel, by decide +kernel⟩, by decide⟩
abbrev jX5_isSpread : gw_J := (yX5_isSpread, cX5_isSpread, 8, some .boolean, 0, 0)
set_option maxRecDepth 20000 in
theorem okX5_isSpread : gw_ok jX5_isSpread := ⟨by decide +kernel, gw_Tb_in (i := 864) rfl rfl, gw_Tb_in (i := 60) (by decide +kernel) rfl, ⟨by decide +kernel, by decide +kernel⟩, by decide⟩
abbrev jX5_handOf : gw_J := (yX5_handOf, cX5_handOf, 2, some .int, 0, 0)
set_option maxRecDepth 20000 in
theorem okX5_handOf : gw_ok jX5_handOf := ⟨by decide +kernel, gw_Tb_in (i := 867) rfl rfl, gw_Tb_in (i := 60) (by decide +kernel) rfl, ⟨by decide +kernel, by decide +kernel⟩, by decide⟩
abbrev jX5_isEven : gw_J := (yX5_isEven, cX5_isEven, 9, some .boolean, 0, 0)
set_option maxRecDepth 20000 in
theorem okX5_isEven : gw_ok jX5_isEven := ⟨by decide +kernel, gw_Tb_in (i := 871) rfl rfl, gw_Tb_in (i := 60) (by decide +kernel) rfl, ⟨by decide +kernel, by decide +kernel⟩, by decide⟩
abbrev jX5_loudOf : gw_J := (yX5_loudOf, cX5_loudOf, 7, some .int, 0, 0)
set_option maxRecDepth 20000 in
theorem okX5_loudOf : gw_ok jX5_loudOf := ⟨by decide +kernel, gw_Tb_in (i := 876) rfl rfl, gw_Tb_in (i := 60) (by decide +kernel) rfl, ⟨by decide +kernel, by decide +kernel⟩, by decide⟩
abbrev jX5_score : gw_J := (yX5_score, cX5_score, 6, some .int, 0, 0)
set_option maxRecDepth 20000 in
theorem okX5_score : gw_ok jX5_score := ⟨by decide +kernel, gw_Tb_in (i := 880) rfl rfl, gw_Tb_in (i := 60) (by decide +kernel) rfl, ⟨by decide +kernel, by decide +kernel⟩, by decide⟩
abbrev jX5_laysFirst : gw_J := (yX5_laysFirst, cX5_laysFirst, 5, some .boolean, 0, 0)
set_option maxRecDepth 20000 in
theorem okX5_laysFirst : gw_ok jX5_laysFirst := ⟨by decide +kernel, gw_Tb_in (i := 884) rfl rfl, gw_Tb_in (i := 60) (by decide +kernel) rfl, ⟨by decide +kernel, by decide +kernel⟩, by decide⟩
abbrev jX5_laysScore : gw_J := (yX5_laysScore, cX5_laysScore, 7, some .int, 0, 0)
set_option maxRecDepth 20000 in
theorem okX5_laysScore : gw_ok jX5_laysScore := ⟨by decide +kernel, gw_Tb_in (i := 888) rfl rfl, gw_Tb_in (i := 60) (by decide +kernel) rfl, ⟨by decide +kernel, by decide +kernel⟩, by decide⟩
abbrev jX5_leastBehind : gw_J := (yX5_leastBehind, cX5_leastBehind, 8, some .int, 0, 0)
set_option maxRecDepth 20000 in
theorem okX5_leastBehind : gw_ok jX5_leastBehind := ⟨by decide +kernel, gw_Tb_in (i := 892) rfl rfl, gw_Tb_in (i := 60) (by decide +kernel) rfl, ⟨by decide +kernel, by decide +kernel⟩, by decide⟩
abbrev jX5_movesOf : gw_J := (yX5_movesOf, cX5_movesOf, 8, some .int, 0, 0)
set_option maxRecDepth 20000 in
theorem okX5_movesOf : gw_ok jX5_movesOf := ⟨by decide +kernel, gw_Tb_in (i := 896) rfl rfl, gw_Tb_in (i := 60) (by decide +kernel) rfl, ⟨by decide +kernel, by decide +kernel⟩, by decide⟩
abbrev jX5_moveOf : gw_J := (yX5_moveOf, cX5_moveOf, 5, some .int, 0, 0)
set_option maxRecDepth 20000 in
theorem okX5_moveOf : gw_ok jX5_moveOf := ⟨by decide +kernel, gw_Tb_in (i := 900) rfl rfl, gw_Tb_in (i := 60) (by decide +kernel) rfl, ⟨by decide +kernel, by decide +kernel⟩, by decide⟩
abbrev jX5_playing : gw_J := (yX5_playing, cX5_playing, 5, some .int, 0, 0)
set_option maxRecDepth 20000 in
theorem okX5_playing : gw_ok jX5_playing := ⟨by decide +kernel, gw_Tb_in (i := 904) rfl rfl, gw_Tb_in (i := 60) (by decide +kernel) rfl, ⟨by decide +kernel, by decide +kernel⟩, by decide⟩
abbrev jX5_hand : gw_J := (yX5_hand, cX5_hand, 3, some .int, 0, 0)
set_option maxRecDepth 20000 in
theorem okX5_hand : gw_ok jX5_hand := ⟨by decide +kernel, gw_Tb_in (i := 908) rfl rfl, gw_Tb_in (i := 60) (by decide +kernel) rfl, ⟨by decide +kernel, by decide +kernel⟩, by decide⟩
abbrev jX5_loud : gw_J := (yX5_loud, cX5_loud, 3, some .int, 0, 0)
set_option maxRecDepth 20000 in
theorem okX5_loud : gw_ok jX5_loud := ⟨by decide +kernel, gw_Tb_in (i := 912) rfl rfl, gw_Tb_in (i := 60) (by decide +kernel) rfl, ⟨by decide +kernel, by decide +kernel⟩, by decide⟩
abbrev jX5_couldRest : gw_J := (yX5_couldRest, cX5_couldRest, 5, some .int, 0, 0)
set_option maxRecDepth 20000 in
theorem okX5_couldRest : gw_ok jX5_couldRest := ⟨by decide +kernel, gw_Tb_in (i := 916) rfl rfl, gw_Tb_in (i := 60) (by decide +kernel) rfl, ⟨by decide +kernel, by decide +kernel⟩, by decide⟩
abbrev jX5_move : gw_J := (yX5_move, cX5_move, 3, some .int, 0, 0)
set_option maxRecDepth 20000 in
theorem okX5_move : gw_ok jX5_move := ⟨by decide +kernel, gw_Tb_in (i := 920) rfl rfl, gw_Tb_in (i := 60) (by decide +kernel) rfl, ⟨by decide +kernel, by decide +kernel⟩, by decide⟩
abbrev jX5_reach : gw_J := (yX5_reach, cX5_reach, 2, some .int, 0, 0)
set_option maxRecDepth 20000 in
theorem okX5_reach : gw_ok jX5_reach := ⟨by decide +kernel, gw_Tb_in (i := 924) rfl rfl, gw_Tb_in (i := 60) (by decide +kernel) rfl, ⟨by decide +kernel, by decide +kernel⟩, by decide⟩
abbrev jX5_fewest : gw_J := (yX5_fewest, cX5_fewest, 3, some .int, 0, 0)
set_option maxRecDepth 20000 in
theorem okX5_fewest : gw_ok jX5_fewest := ⟨by decide +kernel, gw_Tb_in (i := 928) rfl rfl, gw_Tb_in (i := 60) (by decide +kernel) rfl, ⟨by decide +kernel, by decide +kernel⟩, by decide⟩
abbrev jX5_bits : gw_J := (yX5_bits, cX5_bits, 1, some .int, 0, 0)
set_option maxRecDepth 20000 in
theorem okX5_bits : gw_ok jX5_bits := ⟨by decide +kernel, gw_Tb_in (i := 931) rfl rfl, gw_Tb_in (i := 60) (by decide +kernel) rfl, ⟨by decide +kernel, by decide +kernel⟩, by decide⟩
abbrev jX5_bear : gw_J := (yX5_bear, cX5_bear, 2, some .int, 0, 0)
set_option maxRecDepth 20000 in
theorem okX5_bear : gw_ok jX5_bear := ⟨by decide +kernel, gw_Tb_in (i := 935) rfl rfl, gw_Tb_in (i := 60) (by decide +kernel) rfl, ⟨by decide +kernel, by decide +kernel⟩, by decide⟩
abbrev jX5_hears : gw_J := (yX5_hears, cX5_hears, 3, some .int, 0, 0)
set_option maxRecDepth 20000 in
theorem okX5_hears : gw_ok jX5_hears := ⟨by decide +kernel, gw_Tb_in (i := 939) rfl rfl, gw_Tb_in (i := 60) (by decide +kernel) rfl, ⟨by decide +kernel, by decide +kernel⟩, by decide⟩
abbrev jX5_forget : gw_J := (yX5_forget, cX5_forget, 2, some .int, 0, 0)
set_option maxRecDepth 20000 in
theorem okX5_forget : gw_ok jX5_forget := ⟨by decide +kernel, gw_Tb_in (i := 943) rfl rfl, gw_Tb_in (i := 60) (by decide +kernel) rfl, ⟨by decide +kernel, by decide +kernel⟩, by decide⟩
abbrev jX5_ill : gw_J := (yX5_ill, cX5_ill, 5, some .int, 0, 0)
set_option maxRecDepth 20000 in
theorem okX5_ill : gw_ok jX5_ill := ⟨by decide +kernel, gw_Tb_in (i := 947) rfl rfl, gw_Tb_in (i := 60) (by decide +kernel) rfl, ⟨by decide +kernel, by decide +kernel⟩, by decide⟩
abbrev jX5_keep : gw_J := (yX5_keep, cX5_keep, 3, some .int, 0, 0)
set_option maxRecDepth 20000 in
theorem okX5_keep : gw_ok jX5_keep := ⟨by decide +kernel, gw_Tb_in (i := 951) rfl rfl, gw_Tb_in (i := 60) (by decide +kernel) rfl, ⟨by decide +kernel, by decide +kernel⟩, by decide⟩
abbrev jX5_back : gw_J := (yX5_back, cX5_back, 3, some .int, 0, 0)
set_option maxRecDepth 20000 in
theorem okX5_back : gw_ok jX5_back := ⟨by decide +kernel, gw_Tb_in (i := 955) rfl rfl, gw_Tb_in (i := 60) (by decide +kernel) rfl, ⟨by decide +kernel, by decide +kernel⟩, by decide⟩
abbrev jX5_count : gw_J := (yX5_count, cX5_count, 2, some .int, 0, 0)
set_option maxRecDepth 20000 in
theorem okX5_count : gw_ok jX5_count := ⟨by decide +kernel, gw_Tb_in (i := 959) rfl rfl, gw_Tb_in (i := 60) (by decide +kernel) rfl, ⟨by decide +kernel, by decide +kernel⟩, by decide⟩
abbrev jL_law : gw_J := (yL_law, cL_law, 4, some .boolean, 600000, 7302250)
set_option maxRecDepth 20000 in
theorem glX0 : ∀ k, k < 7 → u_lay RX0 TX0 k ∈ gw_Tb := fun k hk => match k, hk with
  | 0, _ => gw_Tb_in (i := 99) rfl rfl
  | 1, _ => gw_Tb_in (i := 101) rfl rfl
  | 2, _ => gw_Tb_in (i := 103) rfl rfl
  | 3, _ => gw_Tb_in (i := 105) rfl rfl
  | 4, _ => gw_Tb_in (i := 107) rfl rfl
  | 5, _ => gw_Tb_in (i := 109) rfl rfl
  | 6, _ => gw_Tb_in (i := 111) rfl rfl
  | k + 7, h => absurd h (by omega)
set_option maxRecDepth 20000 in
theorem gcX0 : gw_Cl 0 RX0 TX0 7 := ⟨rfl, by decide, fun w hw => by
  obtain ⟨k, hk, rfl⟩ := List.mem_map.mp hw
  exact glX0 k (List.mem_range.mp hk), tyX0_ok, nmX0, gw_Tb_in (i := 78) (by decide +kernel) rfl, gw_Tb_in (i := 57) (by decide +kernel) rfl⟩
theorem gdX0 : ∀ k, k < 7 → defaultValue (gw_ty 0 k) = (if gw_isR 0 k = true then .null else .int 0) := fun k hk => match k, hk with
  | 0, _ => rfl
  | 1, _ => rfl
  | 2, _ => rfl
  | 3, _ => rfl
  | 4, _ => rfl
  | 5, _ => rfl
  | 6, _ => rfl
  | k + 7, h => absurd h (by omega)
set_option maxRecDepth 20000 in
theorem glX1 : ∀ k, k < 5 → u_lay RX1 TX1 k ∈ gw_Tb := fun k hk => match k, hk with
  | 0, _ => gw_Tb_in (i := 138) rfl rfl
  | 1, _ => gw_Tb_in (i := 140) rfl rfl
  | 2, _ => gw_Tb_in (i := 142) rfl rfl
  | 3, _ => gw_Tb_in (i := 144) rfl rfl
  | 4, _ => gw_Tb_in (i := 146) rfl rfl
  | k + 5, h => absurd h (by omega)
set_option maxRecDepth 20000 in
theorem gcX1 : gw_Cl 1 RX1 TX1 5 := ⟨rfl, by decide, fun w hw => by
  obtain ⟨k, hk, rfl⟩ := List.mem_map.mp hw
  exact glX1 k (List.mem_range.mp hk), tyX1_ok, nmX1, gw_Tb_in (i := 116) (by decide +kernel) rfl, gw_Tb_in (i := 58) (by decide +kernel) rfl⟩
theorem gdX1 : ∀ k, k < 5 → defaultValue (gw_ty 1 k) = (if gw_isR 1 k = true then .null else .int 0) := fun k hk => match k, hk with
  | 0, _ => rfl
  | 1, _ => rfl
  | 2, _ => rfl
  | 3, _ => rfl
  | 4, _ => rfl
  | k + 5, h => absurd h (by omega)
set_option maxRecDepth 20000 in
theorem glX2 : ∀ k, k < 10 → u_lay RX2 TX2 k ∈ gw_Tb := fun k hk => match k, hk with
  | 0, _ => gw_Tb_in (i := 162) rfl rfl
  | 1, _ => gw_Tb_in (i := 164) rfl rfl
  | 2, _ => gw_Tb_in (i := 166) rfl rfl
  | 3, _ => gw_Tb_in (i := 168) rfl rfl
  | 4, _ => gw_Tb_in (i := 170) rfl rfl
  | 5, _ => gw_Tb_in (i := 172) rfl rfl
  | 6, _ => gw_Tb_in (i := 174) rfl rfl
  | 7, _ => gw_Tb_in (i := 176) rfl rfl
  | 8, _ => gw_Tb_in (i := 178) rfl rfl
  | 9, _ => gw_Tb_in (i := 180) rfl rfl
  | k + 10, h => absurd h (by omega)
set_option maxRecDepth 20000 in
theorem gcX2 : gw_Cl 2 RX2 TX2 10 := ⟨rfl, by decide, fun w hw => by
  obtain ⟨k, hk, rfl⟩ := List.mem_map.mp hw
  exact glX2 k (List.mem_range.mp hk), tyX2_ok, nmX2, gw_Tb_in (i := 72) (by decide +kernel) rfl, gw_Tb_in (i := 56) (by decide +kernel) rfl⟩
theorem gdX2 : ∀ k, k < 10 → defaultValue (gw_ty 2 k) = (if gw_isR 2 k = true then .null else .int 0) := fun k hk => match k, hk with
  | 0, _ => rfl
  | 1, _ => rfl
  | 2, _ => rfl
  | 3, _ => rfl
  | 4, _ => rfl
  | 5, _ => rfl
  | 6, _ => rfl
  | 7, _ => rfl
  | 8, _ => rfl
  | 9, _ => rfl
  | k + 10, h => absurd h (by omega)
set_option maxRecDepth 20000 in
theorem glX3 : ∀ k, k < 12 → u_lay RX3 TX3 k ∈ gw_Tb := fun k hk => match k, hk with
  | 0, _ => gw_Tb_in (i := 210) rfl rfl
  | 1, _ => gw_Tb_in (i := 212) rfl rfl
  | 2, _ => gw_Tb_in (i := 214) rfl rfl
  | 3, _ => gw_Tb_in (i := 216) rfl rfl
  | 4, _ => gw_Tb_in (i := 218) rfl rfl
  | 5, _ => gw_Tb_in (i := 220) rfl rfl
  | 6, _ => gw_Tb_in (i := 222) rfl rfl
  | 7, _ => gw_Tb_in (i := 224) rfl rfl
  | 8, _ => gw_Tb_in (i := 226) rfl rfl
  | 9, _ => gw_Tb_in (i := 228) rfl rfl
  | 10, _ => gw_Tb_in (i := 230) rfl rfl
  | 11, _ => gw_Tb_in (i := 232) rfl rfl
  | k + 12, h => absurd h (by omega)
set_option maxRecDepth 20000 in
theorem gcX3 : gw_Cl 3 RX3 TX3 12 := ⟨rfl, by decide, fun w hw => by
  obtain ⟨k, hk, rfl⟩ := List.mem_map.mp hw
  exact glX3 k (List.mem_range.mp hk), tyX3_ok, nmX3, gw_Tb_in (i := 184) (by decide +kernel) rfl, gw_Tb_in (i := 59) (by decide +kernel) rfl⟩
theorem gdX3 : ∀ k, k < 12 → defaultValue (gw_ty 3 k) = (if gw_isR 3 k = true then .null else .int 0) := fun k hk => match k, hk with
  | 0, _ => rfl
  | 1, _ => rfl
  | 2, _ => rfl
  | 3, _ => rfl
  | 4, _ => rfl
  | 5, _ => rfl
  | 6, _ => rfl
  | 7, _ => rfl
  | 8, _ => rfl
  | 9, _ => rfl
  | 10, _ => rfl
  | 11, _ => rfl
  | k + 12, h => absurd h (by omega)
set_option maxRecDepth 20000 in
theorem glX4 : ∀ k, k < 12 → u_lay RX4 TX4 k ∈ gw_Tb := fun k hk => match k, hk with
  | 0, _ => gw_Tb_in (i := 250) rfl rfl
  | 1, _ => gw_Tb_in (i := 252) rfl rfl
  | 2, _ => gw_Tb_in (i := 254) rfl rfl
  | 3, _ => gw_Tb_in (i := 256) rfl rfl
  | 4, _ => gw_Tb_in (i := 258) rfl rfl
  | 5, _ => gw_Tb_in (i := 260) rfl rfl
  | 6, _ => gw_Tb_in (i := 262) rfl rfl
  | 7, _ => gw_Tb_in (i := 264) rfl rfl
  | 8, _ => gw_Tb_in (i := 266) rfl rfl
  | 9, _ => gw_Tb_in (i := 268) rfl rfl
  | 10, _ => gw_Tb_in (i := 270) rfl rfl
  | 11, _ => gw_Tb_in (i := 272) rfl rfl
  | k + 12, h => absurd h (by omega)
set_option maxRecDepth 20000 in
theorem gcX4 : gw_Cl 4 RX4 TX4 12 := ⟨rfl, by decide, fun w hw => by
  obtain ⟨k, hk, rfl⟩ := List.mem_map.mp hw
  exact glX4 k (List.mem_range.mp hk), tyX4_ok, nmX4, gw_Tb_in (i := 64) (by decide +kernel) rfl, gw_Tb_in (i := 55) (by decide +kernel) rfl⟩
theorem gdX4 : ∀ k, k < 12 → defaultValue (gw_ty 4 k) = (if gw_isR 4 k = true then .null else .int 0) := fun k hk => match k, hk with
  | 0, _ => rfl
  | 1, _ => rfl
  | 2, _ => rfl
  | 3, _ => rfl
  | 4, _ => rfl
  | 5, _ => rfl
  | 6, _ => rfl
  | 7, _ => rfl
  | 8, _ => rfl
  | 9, _ => rfl
  | 10, _ => rfl
  | 11, _ => rfl
  | k + 12, h => absurd h (by omega)
set_option maxRecDepth 20000 in
theorem glX5 : ∀ k, k < 23 → u_lay RX5 TX5 k ∈ gw_Tb := fun k hk => match k, hk with
  | 0, _ => gw_Tb_in (i := 683) rfl rfl
  | 1, _ => gw_Tb_in (i := 685) rfl rfl
  | 2, _ => gw_Tb_in (i := 687) rfl rfl
  | 3, _ => gw_Tb_in (i := 689) rfl rfl
  | 4, _ => gw_Tb_in (i := 691) rfl rfl
  | 5, _ => gw_Tb_in (i := 693) rfl rfl
  | 6, _ => gw_Tb_in (i := 695) rfl rfl
  | 7, _ => gw_Tb_in (i := 697) rfl rfl
  | 8, _ => gw_Tb_in (i := 699) rfl rfl
  | 9, _ => gw_Tb_in (i := 701) rfl rfl
  | 10, _ => gw_Tb_in (i := 703) rfl rfl
  | 11, _ => gw_Tb_in (i := 705) rfl rfl
  | 12, _ => gw_Tb_in (i := 707) rfl rfl
  | 13, _ => gw_Tb_in (i := 709) rfl rfl
  | 14, _ => gw_Tb_in (i := 711) rfl rfl
  | 15, _ => gw_Tb_in (i := 713) rfl rfl
  | 16, _ => gw_Tb_in (i := 715) rfl rfl
  | 17, _ => gw_Tb_in (i := 717) rfl rfl
  | 18, _ => gw_Tb_in (i := 719) rfl rfl
  | 19, _ => gw_Tb_in (i := 721) rfl rfl
  | 20, _ => gw_Tb_in (i := 723) rfl rfl
  | 21, _ => gw_Tb_in (i := 725) rfl rfl
  | 22, _ => gw_Tb_in (i := 727) rfl rfl
  | k + 23, h => absurd h (by omega)
set_option maxRecDepth 20000 in
theorem gcX5 : gw_Cl 5 RX5 TX5 23 := ⟨rfl, by decide, fun w hw => by
  obtain ⟨k, hk, rfl⟩ := List.mem_map.mp hw
  exact glX5 k (List.mem_range.mp hk), tyX5_ok, nmX5, gw_Tb_in (i := 647) (by decide +kernel) rfl, gw_Tb_in (i := 60) (by decide +kernel) rfl⟩
theorem gdX5 : ∀ k, k < 23 → defaultValue (gw_ty 5 k) = (if gw_isR 5 k = true then .null else .int 0) := fun k hk => match k, hk with
  | 0, _ => rfl
  | 1, _ => rfl
  | 2, _ => rfl
  | 3, _ => rfl
  | 4, _ => rfl
  | 5, _ => rfl
  | 6, _ => rfl
  | 7, _ => rfl
  | 8, _ => rfl
  | 9, _ => rfl
  | 10, _ => rfl
  | 11, _ => rfl
  | 12, _ => rfl
  | 13, _ => rfl
  | 14, _ => rfl
  | 15, _ => rfl
  | 16, _ => rfl
  | 17, _ => rfl
  | 18, _ => rfl
  | 19, _ => rfl
  | 20, _ => rfl
  | 21, _ => rfl
  | 22, _ => rfl
  | k + 23, h => absurd h (by omega)
set_option maxRecDepth 20000 in
theorem fX0_9 : gw_F RX0 9 0 0 false := ⟨RX0, TX0, 7, gcX0, by decide, gw_Tb_in (i := 83) rfl rfl, rfl, rfl⟩
set_option maxRecDepth 20000 in
theorem fX3_79 : gw_F RX3 79 0 0 false := ⟨RX0, TX0, 7, gcX0, by decide, gw_Tb_in (i := 84) rfl rfl, rfl, rfl⟩
set_option maxRecDepth 20000 in
theorem fX2_63 : gw_F RX2 63 0 0 false := ⟨RX0, TX0, 7, gcX0, by decide, gw_Tb_in (i := 85) rfl rfl, rfl, rfl⟩
set_option maxRecDepth 20000 in
theorem fX4_179 : gw_F RX4 179 0 0 false := ⟨RX0, TX0, 7, gcX0, by decide, gw_Tb_in (i := 86) rfl rfl, rfl, rfl⟩
set_option maxRecDepth 20000 in
theorem fX0_15 : gw_F RX0 15 0 1 false := ⟨RX0, TX0, 7, gcX0, by decide, gw_Tb_in (i := 87) rfl rfl, rfl, rfl⟩
set_option maxRecDepth 20000 in
theorem fX0_18 : gw_F RX0 18 0 2 true := ⟨RX0, TX0, 7, gcX0, by decide, gw_Tb_in (i := 88) rfl rfl, rfl, rfl⟩
set_option maxRecDepth 20000 in
theorem fX4_93 : gw_F RX4 93 0 2 true := ⟨RX0, TX0, 7, gcX0, by decide, gw_Tb_in (i := 89) rfl rfl, rfl, rfl⟩
set_option maxRecDepth 20000 in
theorem fX3_112 : gw_F RX3 112 0 2 true := ⟨RX0, TX0, 7, gcX0, by decide, gw_Tb_in (i := 90) rfl rfl, rfl, rfl⟩
set_option maxRecDepth 20000 in
theorem fX0_22 : gw_F RX0 22 0 3 true := ⟨RX0, TX0, 7, gcX0, by decide, gw_Tb_in (i := 91) rfl rfl, rfl, rfl⟩
set_option maxRecDepth 20000 in
theorem fX4_96 : gw_F RX4 96 0 3 true := ⟨RX0, TX0, 7, gcX0, by decide, gw_Tb_in (i := 92) rfl rfl, rfl, rfl⟩
set_option maxRecDepth 20000 in
theorem fX0_25 : gw_F RX0 25 0 4 true := ⟨RX0, TX0, 7, gcX0, by decide, gw_Tb_in (i := 93) rfl rfl, rfl, rfl⟩
set_option maxRecDepth 20000 in
theorem fX4_99 : gw_F RX4 99 0 4 true := ⟨RX0, TX0, 7, gcX0, by decide, gw_Tb_in (i := 94) rfl rfl, rfl, rfl⟩
set_option maxRecDepth 20000 in
theorem fX0_28 : gw_F RX0 28 0 5 true := ⟨RX0, TX0, 7, gcX0, by decide, gw_Tb_in (i := 95) rfl rfl, rfl, rfl⟩
set_option maxRecDepth 20000 in
theorem fX4_102 : gw_F RX4 102 0 5 true := ⟨RX0, TX0, 7, gcX0, by decide, gw_Tb_in (i := 96) rfl rfl, rfl, rfl⟩
set_option maxRecDepth 20000 in
theorem fX0_31 : gw_F RX0 31 0 6 true := ⟨RX0, TX0, 7, gcX0, by decide, gw_Tb_in (i := 97) rfl rfl, rfl, rfl⟩
set_option maxRecDepth 20000 in
theorem fX4_108 : gw_F RX4 108 0 6 true := ⟨RX0, TX0, 7, gcX0, by decide, gw_Tb_in (i := 98) rfl rfl, rfl, rfl⟩
set_option maxRecDepth 20000 in
theorem fX1_9 : gw_F RX1 9 1 0 false := ⟨RX1, TX1, 5, gcX1, by decide, gw_Tb_in (i := 121) rfl rfl, rfl, rfl⟩
set_option maxRecDepth 20000 in
theorem fX2_93 : gw_F RX2 93 1 0 false := ⟨RX1, TX1, 5, gcX1, by decide, gw_Tb_in (i := 122) rfl rfl, rfl, rfl⟩
set_option maxRecDepth 20000 in
theorem fX4_122 : gw_F RX4 122 1 0 false := ⟨RX1, TX1, 5, gcX1, by decide, gw_Tb_in (i := 123) rfl rfl, rfl, rfl⟩
set_option maxRecDepth 20000 in
theorem fX3_136 : gw_F RX3 136 1 0 false := ⟨RX1, TX1, 5, gcX1, by decide, gw_Tb_in (i := 124) rfl rfl, rfl, rfl⟩
set_option maxRecDepth 20000 in
theorem fX1_15 : gw_F RX1 15 1 1 false := ⟨RX1, TX1, 5, gcX1, by decide, gw_Tb_in (i := 125) rfl rfl, rfl, rfl⟩
set_option maxRecDepth 20000 in
theorem fX2_66 : gw_F RX2 66 1 1 false := ⟨RX1, TX1, 5, gcX1, by decide, gw_Tb_in (i := 126) rfl rfl, rfl, rfl⟩
set_option maxRecDepth 20000 in
theorem fX4_105 : gw_F RX4 105 1 1 false := ⟨RX1, TX1, 5, gcX1, by decide, gw_Tb_in (i := 127) rfl rfl, rfl, rfl⟩
set_option maxRecDepth 20000 in
theorem fX3_150 : gw_F RX3 150 1 1 false := ⟨RX1, TX1, 5, gcX1, by decide, gw_Tb_in (i := 128) rfl rfl, rfl, rfl⟩
set_option maxRecDepth 20000 in
theorem fX1_18 : gw_F RX1 18 1 2 false := ⟨RX1, TX1, 5, gcX1, by decide, gw_Tb_in (i := 129) rfl rfl, rfl, rfl⟩
set_option maxRecDepth 20000 in
theorem fX2_101 : gw_F RX2 101 1 2 false := ⟨RX1, TX1, 5, gcX1, by decide, gw_Tb_in (i := 130) rfl rfl, rfl, rfl⟩
set_option maxRecDepth 20000 in
theorem fX3_103 : gw_F RX3 103 1 2 false := ⟨RX1, TX1, 5, gcX1, by decide, gw_Tb_in (i := 131) rfl rfl, rfl, rfl⟩
set_option maxRecDepth 20000 in
theorem fX4_146 : gw_F RX4 146 1 2 false := ⟨RX1, TX1, 5, gcX1, by decide, gw_Tb_in (i := 132) rfl rfl, rfl, rfl⟩
set_option maxRecDepth 20000 in
theorem fX1_21 : gw_F RX1 21 1 3 false := ⟨RX1, TX1, 5, gcX1, by decide, gw_Tb_in (i := 133) rfl rfl, rfl, rfl⟩
set_option maxRecDepth 20000 in
theorem fX3_67 : gw_F RX3 67 1 3 false := ⟨RX1, TX1, 5, gcX1, by decide, gw_Tb_in (i := 134) rfl rfl, rfl, rfl⟩
set_option maxRecDepth 20000 in
theorem fX2_104 : gw_F RX2 104 1 3 false := ⟨RX1, TX1, 5, gcX1, by decide, gw_Tb_in (i := 135) rfl rfl, rfl, rfl⟩
set_option maxRecDepth 20000 in
theorem fX4_149 : gw_F RX4 149 1 3 false := ⟨RX1, TX1, 5, gcX1, by decide, gw_Tb_in (i := 136) rfl rfl, rfl, rfl⟩
set_option maxRecDepth 20000 in
theorem fX1_24 : gw_F RX1 24 1 4 true := ⟨RX1, TX1, 5, gcX1, by decide, gw_Tb_in (i := 137) rfl rfl, rfl, rfl⟩
set_option maxRecDepth 20000 in
theorem fX2_12 : gw_F RX2 12 2 0 true := ⟨RX2, TX2, 10, gcX2, by decide, gw_Tb_in (i := 149) rfl rfl, rfl, rfl⟩
set_option maxRecDepth 20000 in
theorem fX4_78 : gw_F RX4 78 2 0 true := ⟨RX2, TX2, 10, gcX2, by decide, gw_Tb_in (i := 150) rfl rfl, rfl, rfl⟩
set_option maxRecDepth 20000 in
theorem fX2_21 : gw_F RX2 21 2 1 true := ⟨RX2, TX2, 10, gcX2, by decide, gw_Tb_in (i := 151) rfl rfl, rfl, rfl⟩
set_option maxRecDepth 20000 in
theorem fX4_85 : gw_F RX4 85 2 1 true := ⟨RX2, TX2, 10, gcX2, by decide, gw_Tb_in (i := 152) rfl rfl, rfl, rfl⟩
set_option maxRecDepth 20000 in
theorem fX2_25 : gw_F RX2 25 2 2 false := ⟨RX2, TX2, 10, gcX2, by decide, gw_Tb_in (i := 153) rfl rfl, rfl, rfl⟩
set_option maxRecDepth 20000 in
theorem fX4_67 : gw_F RX4 67 2 2 false := ⟨RX2, TX2, 10, gcX2, by decide, gw_Tb_in (i := 154) rfl rfl, rfl, rfl⟩
set_option maxRecDepth 20000 in
theorem fX2_29 : gw_F RX2 29 2 3 true := ⟨RX2, TX2, 10, gcX2, by decide, gw_Tb_in (i := 155) rfl rfl, rfl, rfl⟩
set_option maxRecDepth 20000 in
theorem fX2_33 : gw_F RX2 33 2 4 true := ⟨RX2, TX2, 10, gcX2, by decide, gw_Tb_in (i := 156) rfl rfl, rfl, rfl⟩
set_option maxRecDepth 20000 in
theorem fX2_36 : gw_F RX2 36 2 5 false := ⟨RX2, TX2, 10, gcX2, by decide, gw_Tb_in (i := 157) rfl rfl, rfl, rfl⟩
set_option maxRecDepth 20000 in
theorem fX2_39 : gw_F RX2 39 2 6 false := ⟨RX2, TX2, 10, gcX2, by decide, gw_Tb_in (i := 158) rfl rfl, rfl, rfl⟩
set_option maxRecDepth 20000 in
theorem fX2_42 : gw_F RX2 42 2 7 false := ⟨RX2, TX2, 10, gcX2, by decide, gw_Tb_in (i := 159) rfl rfl, rfl, rfl⟩
set_option maxRecDepth 20000 in
theorem fX2_45 : gw_F RX2 45 2 8 false := ⟨RX2, TX2, 10, gcX2, by decide, gw_Tb_in (i := 160) rfl rfl, rfl, rfl⟩
set_option maxRecDepth 20000 in
theorem fX2_48 : gw_F RX2 48 2 9 false := ⟨RX2, TX2, 10, gcX2, by decide, gw_Tb_in (i := 161) rfl rfl, rfl, rfl⟩
set_option maxRecDepth 20000 in
theorem fX3_12 : gw_F RX3 12 3 0 true := ⟨RX3, TX3, 12, gcX3, by decide, gw_Tb_in (i := 195) rfl rfl, rfl, rfl⟩
set_option maxRecDepth 20000 in
theorem fX4_23 : gw_F RX4 23 3 0 true := ⟨RX3, TX3, 12, gcX3, by decide, gw_Tb_in (i := 196) rfl rfl, rfl, rfl⟩
set_option maxRecDepth 20000 in
theorem fX3_21 : gw_F RX3 21 3 1 true := ⟨RX3, TX3, 12, gcX3, by decide, gw_Tb_in (i := 197) rfl rfl, rfl, rfl⟩
set_option maxRecDepth 20000 in
theorem fX4_28 : gw_F RX4 28 3 1 true := ⟨RX3, TX3, 12, gcX3, by decide, gw_Tb_in (i := 198) rfl rfl, rfl, rfl⟩
set_option maxRecDepth 20000 in
theorem fX3_25 : gw_F RX3 25 3 2 false := ⟨RX3, TX3, 12, gcX3, by decide, gw_Tb_in (i := 199) rfl rfl, rfl, rfl⟩
set_option maxRecDepth 20000 in
theorem fX4_163 : gw_F RX4 163 3 2 false := ⟨RX3, TX3, 12, gcX3, by decide, gw_Tb_in (i := 200) rfl rfl, rfl, rfl⟩
set_option maxRecDepth 20000 in
theorem fX3_31 : gw_F RX3 31 3 3 true := ⟨RX3, TX3, 12, gcX3, by decide, gw_Tb_in (i := 201) rfl rfl, rfl, rfl⟩
set_option maxRecDepth 20000 in
theorem fX3_34 : gw_F RX3 34 3 4 true := ⟨RX3, TX3, 12, gcX3, by decide, gw_Tb_in (i := 202) rfl rfl, rfl, rfl⟩
set_option maxRecDepth 20000 in
theorem fX3_38 : gw_F RX3 38 3 5 true := ⟨RX3, TX3, 12, gcX3, by decide, gw_Tb_in (i := 203) rfl rfl, rfl, rfl⟩
set_option maxRecDepth 20000 in
theorem fX3_41 : gw_F RX3 41 3 6 true := ⟨RX3, TX3, 12, gcX3, by decide, gw_Tb_in (i := 204) rfl rfl, rfl, rfl⟩
set_option maxRecDepth 20000 in
theorem fX3_44 : gw_F RX3 44 3 7 true := ⟨RX3, TX3, 12, gcX3, by decide, gw_Tb_in (i := 205) rfl rfl, rfl, rfl⟩
set_option maxRecDepth 20000 in
theorem fX3_47 : gw_F RX3 47 3 8 false := ⟨RX3, TX3, 12, gcX3, by decide, gw_Tb_in (i := 206) rfl rfl, rfl, rfl⟩
set_option maxRecDepth 20000 in
theorem fX3_50 : gw_F RX3 50 3 9 false := ⟨RX3, TX3, 12, gcX3, by decide, gw_Tb_in (i := 207) rfl rfl, rfl, rfl⟩
set_option maxRecDepth 20000 in
theorem fX3_53 : gw_F RX3 53 3 10 true := ⟨RX3, TX3, 12, gcX3, by decide, gw_Tb_in (i := 208) rfl rfl, rfl, rfl⟩
set_option maxRecDepth 20000 in
theorem fX3_56 : gw_F RX3 56 3 11 true := ⟨RX3, TX3, 12, gcX3, by decide, gw_Tb_in (i := 209) rfl rfl, rfl, rfl⟩
set_option maxRecDepth 20000 in
theorem fX4_10 : gw_F RX4 10 4 0 true := ⟨RX4, TX4, 12, gcX4, by decide, gw_Tb_in (i := 238) rfl rfl, rfl, rfl⟩
set_option maxRecDepth 20000 in
theorem fX4_19 : gw_F RX4 19 4 1 true := ⟨RX4, TX4, 12, gcX4, by decide, gw_Tb_in (i := 239) rfl rfl, rfl, rfl⟩
set_option maxRecDepth 20000 in
theorem fX4_27 : gw_F RX4 27 4 2 true := ⟨RX4, TX4, 12, gcX4, by decide, gw_Tb_in (i := 240) rfl rfl, rfl, rfl⟩
set_option maxRecDepth 20000 in
theorem fX4_32 : gw_F RX4 32 4 3 true := ⟨RX4, TX4, 12, gcX4, by decide, gw_Tb_in (i := 241) rfl rfl, rfl, rfl⟩
set_option maxRecDepth 20000 in
theorem fX4_37 : gw_F RX4 37 4 4 true := ⟨RX4, TX4, 12, gcX4, by decide, gw_Tb_in (i := 242) rfl rfl, rfl, rfl⟩
set_option maxRecDepth 20000 in
theorem fX4_41 : gw_F RX4 41 4 5 false := ⟨RX4, TX4, 12, gcX4, by decide, gw_Tb_in (i := 243) rfl rfl, rfl, rfl⟩
set_option maxRecDepth 20000 in
theorem fX4_45 : gw_F RX4 45 4 6 true := ⟨RX4, TX4, 12, gcX4, by decide, gw_Tb_in (i := 244) rfl rfl, rfl, rfl⟩
set_option maxRecDepth 20000 in
theorem fX4_48 : gw_F RX4 48 4 7 true := ⟨RX4, TX4, 12, gcX4, by decide, gw_Tb_in (i := 245) rfl rfl, rfl, rfl⟩
set_option maxRecDepth 20000 in
theorem fX4_52 : gw_F RX4 52 4 8 true := ⟨RX4, TX4, 12, gcX4, by decide, gw_Tb_in (i := 246) rfl rfl, rfl, rfl⟩
set_option maxRecDepth 20000 in
theorem fX4_56 : gw_F RX4 56 4 9 true := ⟨RX4, TX4, 12, gcX4, by decide, gw_Tb_in (i := 247) rfl rfl, rfl, rfl⟩
set_option maxRecDepth 20000 in
theorem fX4_59 : gw_F RX4 59 4 10 false := ⟨RX4, TX4, 12, gcX4, by decide, gw_Tb_in (i := 248) rfl rfl, rfl, rfl⟩
set_option maxRecDepth 20000 in
theorem fX4_62 : gw_F RX4 62 4 11 false := ⟨RX4, TX4, 12, gcX4, by decide, gw_Tb_in (i := 249) rfl rfl, rfl, rfl⟩
set_option maxRecDepth 20000 in
theorem fX5_63 : gw_F RX5 63 5 0 false := ⟨RX5, TX5, 23, gcX5, by decide, gw_Tb_in (i := 660) rfl rfl, rfl, rfl⟩
set_option maxRecDepth 20000 in
theorem fX5_7 : gw_F RX5 7 5 1 true := ⟨RX5, TX5, 23, gcX5, by decide, gw_Tb_in (i := 661) rfl rfl, rfl, rfl⟩
set_option maxRecDepth 20000 in
theorem fX5_13 : gw_F RX5 13 5 2 true := ⟨RX5, TX5, 23, gcX5, by decide, gw_Tb_in (i := 662) rfl rfl, rfl, rfl⟩
set_option maxRecDepth 20000 in
theorem fX5_66 : gw_F RX5 66 5 3 false := ⟨RX5, TX5, 23, gcX5, by decide, gw_Tb_in (i := 663) rfl rfl, rfl, rfl⟩
set_option maxRecDepth 20000 in
theorem fX5_16 : gw_F RX5 16 5 4 true := ⟨RX5, TX5, 23, gcX5, by decide, gw_Tb_in (i := 664) rfl rfl, rfl, rfl⟩
set_option maxRecDepth 20000 in
theorem fX5_19 : gw_F RX5 19 5 5 true := ⟨RX5, TX5, 23, gcX5, by decide, gw_Tb_in (i := 665) rfl rfl, rfl, rfl⟩
set_option maxRecDepth 20000 in
theorem fX5_23 : gw_F RX5 23 5 6 true := ⟨RX5, TX5, 23, gcX5, by decide, gw_Tb_in (i := 666) rfl rfl, rfl, rfl⟩
set_option maxRecDepth 20000 in
theorem fX5_69 : gw_F RX5 69 5 7 false := ⟨RX5, TX5, 23, gcX5, by decide, gw_Tb_in (i := 667) rfl rfl, rfl, rfl⟩
set_option maxRecDepth 20000 in
theorem fX5_26 : gw_F RX5 26 5 8 true := ⟨RX5, TX5, 23, gcX5, by decide, gw_Tb_in (i := 668) rfl rfl, rfl, rfl⟩
set_option maxRecDepth 20000 in
theorem fX5_29 : gw_F RX5 29 5 9 true := ⟨RX5, TX5, 23, gcX5, by decide, gw_Tb_in (i := 669) rfl rfl, rfl, rfl⟩
set_option maxRecDepth 20000 in
theorem fX5_59 : gw_F RX5 59 5 10 false := ⟨RX5, TX5, 23, gcX5, by decide, gw_Tb_in (i := 670) rfl rfl, rfl, rfl⟩
set_option maxRecDepth 20000 in
theorem fX5_32 : gw_F RX5 32 5 11 true := ⟨RX5, TX5, 23, gcX5, by decide, gw_Tb_in (i := 671) rfl rfl, rfl, rfl⟩
set_option maxRecDepth 20000 in
theorem fX5_35 : gw_F RX5 35 5 12 true := ⟨RX5, TX5, 23, gcX5, by decide, gw_Tb_in (i := 672) rfl rfl, rfl, rfl⟩
set_option maxRecDepth 20000 in
theorem fX5_76 : gw_F RX5 76 5 13 false := ⟨RX5, TX5, 23, gcX5, by decide, gw_Tb_in (i := 673) rfl rfl, rfl, rfl⟩
set_option maxRecDepth 20000 in
theorem fX5_38 : gw_F RX5 38 5 14 true := ⟨RX5, TX5, 23, gcX5, by decide, gw_Tb_in (i := 674) rfl rfl, rfl, rfl⟩
set_option maxRecDepth 20000 in
theorem fX5_79 : gw_F RX5 79 5 15 false := ⟨RX5, TX5, 23, gcX5, by decide, gw_Tb_in (i := 675) rfl rfl, rfl, rfl⟩
set_option maxRecDepth 20000 in
theorem fX5_86 : gw_F RX5 86 5 16 false := ⟨RX5, TX5, 23, gcX5, by decide, gw_Tb_in (i := 676) rfl rfl, rfl, rfl⟩
set_option maxRecDepth 20000 in
theorem fX5_96 : gw_F RX5 96 5 17 false := ⟨RX5, TX5, 23, gcX5, by decide, gw_Tb_in (i := 677) rfl rfl, rfl, rfl⟩
set_option maxRecDepth 20000 in
theorem fX5_41 : gw_F RX5 41 5 18 true := ⟨RX5, TX5, 23, gcX5, by decide, gw_Tb_in (i := 678) rfl rfl, rfl, rfl⟩
set_option maxRecDepth 20000 in
theorem fX5_44 : gw_F RX5 44 5 19 true := ⟨RX5, TX5, 23, gcX5, by decide, gw_Tb_in (i := 679) rfl rfl, rfl, rfl⟩
set_option maxRecDepth 20000 in
theorem fX5_47 : gw_F RX5 47 5 20 true := ⟨RX5, TX5, 23, gcX5, by decide, gw_Tb_in (i := 680) rfl rfl, rfl, rfl⟩
set_option maxRecDepth 20000 in
theorem fX5_50 : gw_F RX5 50 5 21 true := ⟨RX5, TX5, 23, gcX5, by decide, gw_Tb_in (i := 681) rfl rfl, rfl, rfl⟩
set_option maxRecDepth 20000 in
theorem fX5_183 : gw_F RX5 183 5 22 false := ⟨RX5, TX5, 23, gcX5, by decide, gw_Tb_in (i := 682) rfl rfl, rfl, rfl⟩
set_option maxRecDepth 20000 in
theorem kL_9 : gw_CI RL 9 jX4_init 0 := ⟨okX4_init, gw_Tb_in (i := 65) rfl rfl, gw_Tb_in (i := 66) rfl rfl, by unfold gw_np; decide +kernel, by decide +kernel, rfl⟩
set_option maxRecDepth 20000 in
theorem oX4_1 : Cond.methodLink RX4 1 Lib.objectInit ∈ gw_Tb := gw_Tb_in (i := 68) rfl rfl
set_option maxRecDepth 20000 in
theorem oX2_3 : Cond.methodLink RX2 3 Lib.objectInit ∈ gw_Tb := gw_Tb_in (i := 76) rfl rfl
set_option maxRecDepth 20000 in
theorem oX0_3 : Cond.methodLink RX0 3 Lib.objectInit ∈ gw_Tb := gw_Tb_in (i := 82) rfl rfl
set_option maxRecDepth 20000 in
theorem oX1_3 : Cond.methodLink RX1 3 Lib.objectInit ∈ gw_Tb := gw_Tb_in (i := 120) rfl rfl
set_option maxRecDepth 20000 in
theorem oX3_3 : Cond.methodLink RX3 3 Lib.objectInit ∈ gw_Tb := gw_Tb_in (i := 188) rfl rfl
set_option maxRecDepth 20000 in
theorem kL_13 : gw_CV RL 13 jX4_type 1 4 := ⟨okX4_type, gw_Tb_in (i := 276) rfl rfl, gw_Tb_in (i := 277) rfl rfl, gw_Tb_in (i := 278) rfl rfl, by unfold gw_np; decide +kernel, rfl, by decide⟩
set_option maxRecDepth 20000 in
theorem kX4_70 : gw_CV RX4 70 jX2_add 1 2 := ⟨okX2_add, gw_Tb_in (i := 280) rfl rfl, gw_Tb_in (i := 281) rfl rfl, gw_Tb_in (i := 282) rfl rfl, by unfold gw_np; decide +kernel, rfl, by decide⟩
set_option maxRecDepth 20000 in
theorem kL_18 : gw_CV RL 18 jX4_clear 0 4 := ⟨okX4_clear, gw_Tb_in (i := 284) rfl rfl, gw_Tb_in (i := 285) rfl rfl, gw_Tb_in (i := 286) rfl rfl, by unfold gw_np; decide +kernel, rfl, by decide⟩
set_option maxRecDepth 20000 in
theorem kL_23 : gw_CV RL 23 jX4_band 0 4 := ⟨okX4_band, gw_Tb_in (i := 288) rfl rfl, gw_Tb_in (i := 289) rfl rfl, gw_Tb_in (i := 290) rfl rfl, by unfold gw_np; decide +kernel, rfl, by decide⟩
set_option maxRecDepth 20000 in
theorem kX4_74 : gw_CV RX4 74 jX2_read 0 2 := ⟨okX2_read, gw_Tb_in (i := 292) rfl rfl, gw_Tb_in (i := 293) rfl rfl, gw_Tb_in (i := 294) rfl rfl, by unfold gw_np; decide +kernel, rfl, by decide⟩
set_option maxRecDepth 20000 in
theorem kX2_52 : gw_CV RX2 52 jX0_empty 0 0 := ⟨okX0_empty, gw_Tb_in (i := 296) rfl rfl, gw_Tb_in (i := 297) rfl rfl, gw_Tb_in (i := 298) rfl rfl, by unfold gw_np; decide +kernel, rfl, by decide⟩
set_option maxRecDepth 20000 in
theorem kX2_55 : gw_CV RX2 55 jX1_empty 0 1 := ⟨okX1_empty, gw_Tb_in (i := 300) rfl rfl, gw_Tb_in (i := 301) rfl rfl, gw_Tb_in (i := 302) rfl rfl, by unfold gw_np; decide +kernel, rfl, by decide⟩
set_option maxRecDepth 20000 in
theorem kX2_56 : gw_CV RX2 56 jX2_next 0 2 := ⟨okX2_next, gw_Tb_in (i := 304) rfl rfl, gw_Tb_in (i := 306) rfl rfl, gw_Tb_in (i := 0) rfl rfl, by unfold gw_np; decide +kernel, rfl, by decide⟩
set_option maxRecDepth 20000 in
theorem kX2_111 : gw_CS RX2 111 jX2_isFigure 1 := ⟨okX2_isFigure, gw_Tb_in (i := 308) rfl rfl, gw_Tb_in (i := 309) rfl rfl, by unfold gw_np; decide +kernel⟩
set_option maxRecDepth 20000 in
theorem kX2_114 : gw_CV RX2 114 jX2_nextNumber 0 2 := ⟨okX2_nextNumber, gw_Tb_in (i := 311) rfl rfl, gw_Tb_in (i := 313) rfl rfl, gw_Tb_in (i := 1) rfl rfl, by unfold gw_np; decide +kernel, rfl, by decide⟩
set_option maxRecDepth 20000 in
theorem kX2_59 : gw_CV RX2 59 jX2_readItem 0 2 := ⟨okX2_readItem, gw_Tb_in (i := 315) rfl rfl, gw_Tb_in (i := 317) rfl rfl, gw_Tb_in (i := 2) rfl rfl, by unfold gw_np; decide +kernel, rfl, by decide⟩
set_option maxRecDepth 20000 in
theorem kX2_69 : gw_CV RX2 69 jX2_readPlayer 1 2 := ⟨okX2_readPlayer, gw_Tb_in (i := 319) rfl rfl, gw_Tb_in (i := 321) rfl rfl, gw_Tb_in (i := 3) rfl rfl, by unfold gw_np; decide +kernel, rfl, by decide⟩
set_option maxRecDepth 20000 in
theorem kX2_79 : gw_CV RX2 79 jX0_hasRoomFor 1 0 := ⟨okX0_hasRoomFor, gw_Tb_in (i := 323) rfl rfl, gw_Tb_in (i := 324) rfl rfl, gw_Tb_in (i := 325) rfl rfl, by unfold gw_np; decide +kernel, rfl, by decide⟩
set_option maxRecDepth 20000 in
theorem kX2_82 : gw_CV RX2 82 jX2_nextIsNumber 2 2 := ⟨okX2_nextIsNumber, gw_Tb_in (i := 327) rfl rfl, gw_Tb_in (i := 329) rfl rfl, gw_Tb_in (i := 4) rfl rfl, by unfold gw_np; decide +kernel, rfl, by decide⟩
set_option maxRecDepth 20000 in
theorem kX2_98 : gw_CV RX2 98 jX2_isNumber 2 2 := ⟨okX2_isNumber, gw_Tb_in (i := 331) rfl rfl, gw_Tb_in (i := 333) rfl rfl, gw_Tb_in (i := 5) rfl rfl, by unfold gw_np; decide +kernel, rfl, by decide⟩
set_option maxRecDepth 20000 in
theorem kX2_86 : gw_CV RX2 86 jX0_add 5 0 := ⟨okX0_add, gw_Tb_in (i := 338) rfl rfl, gw_Tb_in (i := 339) rfl rfl, gw_Tb_in (i := 340) rfl rfl, by unfold gw_np; decide +kernel, rfl, by decide⟩
set_option maxRecDepth 20000 in
theorem kX0_34 : gw_CV RX0 34 jX0_hasRoomFor 1 0 := ⟨okX0_hasRoomFor, gw_Tb_in (i := 342) rfl rfl, gw_Tb_in (i := 324) rfl rfl, gw_Tb_in (i := 325) rfl rfl, by unfold gw_np; decide +kernel, rfl, by decide⟩
set_option maxRecDepth 20000 in
theorem kX2_90 : gw_CV RX2 90 jX2_nextEndsItem 0 2 := ⟨okX2_nextEndsItem, gw_Tb_in (i := 343) rfl rfl, gw_Tb_in (i := 345) rfl rfl, gw_Tb_in (i := 6) rfl rfl, by unfold gw_np; decide +kernel, rfl, by decide⟩
set_option maxRecDepth 20000 in
theorem kX2_73 : gw_CV RX2 73 jX2_readChord 0 2 := ⟨okX2_readChord, gw_Tb_in (i := 347) rfl rfl, gw_Tb_in (i := 349) rfl rfl, gw_Tb_in (i := 7) rfl rfl, by unfold gw_np; decide +kernel, rfl, by decide⟩
set_option maxRecDepth 20000 in
theorem kX2_94 : gw_CV RX2 94 jX1_put 4 1 := ⟨okX1_put, gw_Tb_in (i := 351) rfl rfl, gw_Tb_in (i := 352) rfl rfl, gw_Tb_in (i := 353) rfl rfl, by unfold gw_np; decide +kernel, rfl, by decide⟩
set_option maxRecDepth 20000 in
theorem kX2_76 : gw_CV RX2 76 jX2_readRules 0 2 := ⟨okX2_readRules, gw_Tb_in (i := 355) rfl rfl, gw_Tb_in (i := 357) rfl rfl, gw_Tb_in (i := 8) rfl rfl, by unfold gw_np; decide +kernel, rfl, by decide⟩
set_option maxRecDepth 20000 in
theorem kX4_79 : gw_CV RX4 79 jX0_become 1 0 := ⟨okX0_become, gw_Tb_in (i := 359) rfl rfl, gw_Tb_in (i := 360) rfl rfl, gw_Tb_in (i := 361) rfl rfl, by unfold gw_np; decide +kernel, rfl, by decide⟩
set_option maxRecDepth 20000 in
theorem kX0_38 : gw_CV RX0 38 jX0_empty 0 0 := ⟨okX0_empty, gw_Tb_in (i := 363) rfl rfl, gw_Tb_in (i := 297) rfl rfl, gw_Tb_in (i := 298) rfl rfl, by unfold gw_np; decide +kernel, rfl, by decide⟩
set_option maxRecDepth 20000 in
theorem kX0_41 : gw_CV RX0 41 jX0_add 5 0 := ⟨okX0_add, gw_Tb_in (i := 364) rfl rfl, gw_Tb_in (i := 339) rfl rfl, gw_Tb_in (i := 340) rfl rfl, by unfold gw_np; decide +kernel, rfl, by decide⟩
set_option maxRecDepth 20000 in
theorem kX4_86 : gw_CV RX4 86 jX1_become 1 1 := ⟨okX1_become, gw_Tb_in (i := 365) rfl rfl, gw_Tb_in (i := 366) rfl rfl, gw_Tb_in (i := 367) rfl rfl, by unfold gw_np; decide +kernel, rfl, by decide⟩
set_option maxRecDepth 20000 in
theorem kL_27 : gw_CV RL 27 jX4_player 2 4 := ⟨okX4_player, gw_Tb_in (i := 369) rfl rfl, gw_Tb_in (i := 370) rfl rfl, gw_Tb_in (i := 371) rfl rfl, by unfold gw_np; decide +kernel, rfl, by decide⟩
set_option maxRecDepth 20000 in
theorem kX4_89 : gw_CV RX4 89 jX4_isPlayer 1 4 := ⟨okX4_isPlayer, gw_Tb_in (i := 373) rfl rfl, gw_Tb_in (i := 375) rfl rfl, gw_Tb_in (i := 9) rfl rfl, by unfold gw_np; decide +kernel, rfl, by decide⟩
set_option maxRecDepth 20000 in
theorem kL_32 : gw_CV RL 32 jX4_span 1 4 := ⟨okX4_span, gw_Tb_in (i := 377) rfl rfl, gw_Tb_in (i := 378) rfl rfl, gw_Tb_in (i := 379) rfl rfl, by unfold gw_np; decide +kernel, rfl, by decide⟩
set_option maxRecDepth 20000 in
theorem kL_36 : gw_CV RL 36 jX4_chord 2 4 := ⟨okX4_chord, gw_Tb_in (i := 381) rfl rfl, gw_Tb_in (i := 382) rfl rfl, gw_Tb_in (i := 383) rfl rfl, by unfold gw_np; decide +kernel, rfl, by decide⟩
set_option maxRecDepth 20000 in
theorem kX4_111 : gw_CV RX4 111 jX4_isChord 1 4 := ⟨okX4_isChord, gw_Tb_in (i := 385) rfl rfl, gw_Tb_in (i := 387) rfl rfl, gw_Tb_in (i := 10) rfl rfl, by unfold gw_np; decide +kernel, rfl, by decide⟩
set_option maxRecDepth 20000 in
theorem kX4_114 : gw_CV RX4 114 jX1_notesOf 1 1 := ⟨okX1_notesOf, gw_Tb_in (i := 389) rfl rfl, gw_Tb_in (i := 390) rfl rfl, gw_Tb_in (i := 391) rfl rfl, by unfold gw_np; decide +kernel, rfl, by decide⟩
set_option maxRecDepth 20000 in
theorem kX1_28 : gw_CV RX1 28 jX1_noteAt 2 1 := ⟨okX1_noteAt, gw_Tb_in (i := 393) rfl rfl, gw_Tb_in (i := 394) rfl rfl, gw_Tb_in (i := 395) rfl rfl, by unfold gw_np; decide +kernel, rfl, by decide⟩
set_option maxRecDepth 20000 in
theorem kX4_118 : gw_CV RX4 118 jX1_noteAt 2 1 := ⟨okX1_noteAt, gw_Tb_in (i := 397) rfl rfl, gw_Tb_in (i := 394) rfl rfl, gw_Tb_in (i := 395) rfl rfl, by unfold gw_np; decide +kernel, rfl, by decide⟩
set_option maxRecDepth 20000 in
theorem kL_40 : gw_CV RL 40 jX4_puts 4 4 := ⟨okX4_puts, gw_Tb_in (i := 398) rfl rfl, gw_Tb_in (i := 399) rfl rfl, gw_Tb_in (i := 400) rfl rfl, by unfold gw_np; decide +kernel, rfl, by decide⟩
set_option maxRecDepth 20000 in
theorem kX4_125 : gw_CS RX4 125 jX4_areNotes 3 := ⟨okX4_areNotes, gw_Tb_in (i := 402) rfl rfl, gw_Tb_in (i := 403) rfl rfl, by unfold gw_np; decide +kernel⟩
set_option maxRecDepth 20000 in
theorem kX4_143 : gw_CS RX4 143 jX4_isWithin 3 := ⟨okX4_isWithin, gw_Tb_in (i := 405) rfl rfl, gw_Tb_in (i := 336) rfl rfl, by unfold gw_np; decide +kernel⟩
set_option maxRecDepth 20000 in
theorem kX4_129 : gw_CV RX4 129 jX1_isThat 4 1 := ⟨okX1_isThat, gw_Tb_in (i := 406) rfl rfl, gw_Tb_in (i := 407) rfl rfl, gw_Tb_in (i := 408) rfl rfl, by unfold gw_np; decide +kernel, rfl, by decide⟩
set_option maxRecDepth 20000 in
theorem kX4_133 : gw_CV RX4 133 jX4_remember 0 4 := ⟨okX4_remember, gw_Tb_in (i := 410) rfl rfl, gw_Tb_in (i := 412) rfl rfl, gw_Tb_in (i := 11) rfl rfl, by unfold gw_np; decide +kernel, rfl, by decide⟩
set_option maxRecDepth 20000 in
theorem kX4_205 : gw_CV RX4 205 jX4_forgetOldest 0 4 := ⟨okX4_forgetOldest, gw_Tb_in (i := 414) rfl rfl, gw_Tb_in (i := 416) rfl rfl, gw_Tb_in (i := 12) rfl rfl, by unfold gw_np; decide +kernel, rfl, by decide⟩
set_option maxRecDepth 20000 in
theorem kX4_136 : gw_CV RX4 136 jX1_put 4 1 := ⟨okX1_put, gw_Tb_in (i := 418) rfl rfl, gw_Tb_in (i := 352) rfl rfl, gw_Tb_in (i := 353) rfl rfl, by unfold gw_np; decide +kernel, rfl, by decide⟩
set_option maxRecDepth 20000 in
theorem kL_45 : gw_CV RL 45 jX4_takes 1 4 := ⟨okX4_takes, gw_Tb_in (i := 419) rfl rfl, gw_Tb_in (i := 420) rfl rfl, gw_Tb_in (i := 421) rfl rfl, by unfold gw_np; decide +kernel, rfl, by decide⟩
set_option maxRecDepth 20000 in
theorem kX4_140 : gw_CV RX4 140 jX1_take 1 1 := ⟨okX1_take, gw_Tb_in (i := 423) rfl rfl, gw_Tb_in (i := 424) rfl rfl, gw_Tb_in (i := 425) rfl rfl, by unfold gw_np; decide +kernel, rfl, by decide⟩
set_option maxRecDepth 20000 in
theorem kL_49 : gw_CV RL 49 jX4_calls 1 4 := ⟨okX4_calls, gw_Tb_in (i := 427) rfl rfl, gw_Tb_in (i := 428) rfl rfl, gw_Tb_in (i := 429) rfl rfl, by unfold gw_np; decide +kernel, rfl, by decide⟩
set_option maxRecDepth 20000 in
theorem kL_53 : gw_CV RL 53 jX4_tells 2 4 := ⟨okX4_tells, gw_Tb_in (i := 431) rfl rfl, gw_Tb_in (i := 432) rfl rfl, gw_Tb_in (i := 433) rfl rfl, by unfold gw_np; decide +kernel, rfl, by decide⟩
set_option maxRecDepth 20000 in
theorem kL_57 : gw_CV RL 57 jX4_undo 0 4 := ⟨okX4_undo, gw_Tb_in (i := 435) rfl rfl, gw_Tb_in (i := 436) rfl rfl, gw_Tb_in (i := 437) rfl rfl, by unfold gw_np; decide +kernel, rfl, by decide⟩
set_option maxRecDepth 20000 in
theorem kL_61 : gw_CV RL 61 jX4_could 3 4 := ⟨okX4_could, gw_Tb_in (i := 439) rfl rfl, gw_Tb_in (i := 440) rfl rfl, gw_Tb_in (i := 441) rfl rfl, by unfold gw_np; decide +kernel, rfl, by decide⟩
set_option maxRecDepth 20000 in
theorem kX4_152 : gw_CV RX4 152 jX0_manages 4 0 := ⟨okX0_manages, gw_Tb_in (i := 443) rfl rfl, gw_Tb_in (i := 444) rfl rfl, gw_Tb_in (i := 445) rfl rfl, by unfold gw_np; decide +kernel, rfl, by decide⟩
set_option maxRecDepth 20000 in
theorem kX0_45 : gw_CS RX0 45 jJ6_bitCount_0f7a4 1 := ⟨okJ6_bitCount_0f7a4, gw_Tb_in (i := 447) rfl rfl, gw_Tb_in (i := 448) rfl rfl, by unfold gw_np; decide +kernel⟩
set_option maxRecDepth 20000 in
theorem kX0_51 : gw_CV RX0 51 jX1_lowestOf 2 1 := ⟨okX1_lowestOf, gw_Tb_in (i := 453) rfl rfl, gw_Tb_in (i := 454) rfl rfl, gw_Tb_in (i := 455) rfl rfl, by unfold gw_np; decide +kernel, rfl, by decide⟩
set_option maxRecDepth 20000 in
theorem kX0_57 : gw_CV RX0 57 jX1_highestOf 2 1 := ⟨okX1_highestOf, gw_Tb_in (i := 457) rfl rfl, gw_Tb_in (i := 458) rfl rfl, gw_Tb_in (i := 459) rfl rfl, by unfold gw_np; decide +kernel, rfl, by decide⟩
set_option maxRecDepth 20000 in
theorem kL_66 : gw_CV RL 66 jX4_spreads 1 4 := ⟨okX4_spreads, gw_Tb_in (i := 461) rfl rfl, gw_Tb_in (i := 462) rfl rfl, gw_Tb_in (i := 463) rfl rfl, by unfold gw_np; decide +kernel, rfl, by decide⟩
set_option maxRecDepth 20000 in
theorem kX4_156 : gw_CV RX4 156 jX3_evenSpreads 2 3 := ⟨okX3_evenSpreads, gw_Tb_in (i := 465) rfl rfl, gw_Tb_in (i := 466) rfl rfl, gw_Tb_in (i := 467) rfl rfl, by unfold gw_np; decide +kernel, rfl, by decide⟩
set_option maxRecDepth 20000 in
theorem kX3_59 : gw_CV RX3 59 jX3_offer 2 3 := ⟨okX3_offer, gw_Tb_in (i := 469) rfl rfl, gw_Tb_in (i := 471) rfl rfl, gw_Tb_in (i := 13) rfl rfl, by unfold gw_np; decide +kernel, rfl, by decide⟩
set_option maxRecDepth 20000 in
theorem kX3_70 : gw_CV RX3 70 jX1_notesOf 1 1 := ⟨okX1_notesOf, gw_Tb_in (i := 473) rfl rfl, gw_Tb_in (i := 390) rfl rfl, gw_Tb_in (i := 391) rfl rfl, by unfold gw_np; decide +kernel, rfl, by decide⟩
set_option maxRecDepth 20000 in
theorem mX3_73 : Cond.methodLink RX3 73 Lib.Math.min.name ∈ gw_Tb := gw_Tb_in (i := 474) rfl rfl
set_option maxRecDepth 20000 in
theorem kX3_82 : gw_CV RX3 82 jX0_manages 4 0 := ⟨okX0_manages, gw_Tb_in (i := 477) rfl rfl, gw_Tb_in (i := 444) rfl rfl, gw_Tb_in (i := 445) rfl rfl, by unfold gw_np; decide +kernel, rfl, by decide⟩
set_option maxRecDepth 20000 in
theorem kX3_63 : gw_CV RX3 63 jX3_findGaps 1 3 := ⟨okX3_findGaps, gw_Tb_in (i := 478) rfl rfl, gw_Tb_in (i := 480) rfl rfl, gw_Tb_in (i := 14) rfl rfl, by unfold gw_np; decide +kernel, rfl, by decide⟩
set_option maxRecDepth 20000 in
theorem kX3_86 : gw_CV RX3 86 jX3_packedLoud 2 3 := ⟨okX3_packedLoud, gw_Tb_in (i := 482) rfl rfl, gw_Tb_in (i := 484) rfl rfl, gw_Tb_in (i := 15) rfl rfl, by unfold gw_np; decide +kernel, rfl, by decide⟩
set_option maxRecDepth 20000 in
theorem kX3_96 : gw_CV RX3 96 jX0_strength 2 0 := ⟨okX0_strength, gw_Tb_in (i := 486) rfl rfl, gw_Tb_in (i := 487) rfl rfl, gw_Tb_in (i := 488) rfl rfl, by unfold gw_np; decide +kernel, rfl, by decide⟩
set_option maxRecDepth 20000 in
theorem kX3_89 : gw_CV RX3 89 jX3_widen 3 3 := ⟨okX3_widen, gw_Tb_in (i := 490) rfl rfl, gw_Tb_in (i := 492) rfl rfl, gw_Tb_in (i := 16) rfl rfl, by unfold gw_np; decide +kernel, rfl, by decide⟩
set_option maxRecDepth 20000 in
theorem kX3_93 : gw_CS RX3 93 jX3_gapOf 2 := ⟨okX3_gapOf, gw_Tb_in (i := 494) rfl rfl, gw_Tb_in (i := 495) rfl rfl, by unfold gw_np; decide +kernel⟩
set_option maxRecDepth 20000 in
theorem mX3_100 : Cond.methodLink RX3 100 Lib.Math.max.name ∈ gw_Tb := gw_Tb_in (i := 498) rfl rfl
set_option maxRecDepth 20000 in
theorem kL_70 : gw_CV RL 70 jX4_score 1 4 := ⟨okX4_score, gw_Tb_in (i := 501) rfl rfl, gw_Tb_in (i := 502) rfl rfl, gw_Tb_in (i := 503) rfl rfl, by unfold gw_np; decide +kernel, rfl, by decide⟩
set_option maxRecDepth 20000 in
theorem kX4_159 : gw_CV RX4 159 jX4_isThereAScore 0 4 := ⟨okX4_isThereAScore, gw_Tb_in (i := 505) rfl rfl, gw_Tb_in (i := 507) rfl rfl, gw_Tb_in (i := 17) rfl rfl, by unfold gw_np; decide +kernel, rfl, by decide⟩
set_option maxRecDepth 20000 in
theorem kX4_208 : gw_CV RX4 208 jX3_solve 0 3 := ⟨okX3_solve, gw_Tb_in (i := 509) rfl rfl, gw_Tb_in (i := 510) rfl rfl, gw_Tb_in (i := 511) rfl rfl, by unfold gw_np; decide +kernel, rfl, by decide⟩
set_option maxRecDepth 20000 in
theorem kX3_141 : gw_CV RX3 141 jX3_findCosts 0 3 := ⟨okX3_findCosts, gw_Tb_in (i := 513) rfl rfl, gw_Tb_in (i := 515) rfl rfl, gw_Tb_in (i := 18) rfl rfl, by unfold gw_np; decide +kernel, rfl, by decide⟩
set_option maxRecDepth 20000 in
theorem kX3_124 : gw_CS RX3 124 jX3_fill 3 := ⟨okX3_fill, gw_Tb_in (i := 517) rfl rfl, gw_Tb_in (i := 518) rfl rfl, by unfold gw_np; decide +kernel⟩
set_option maxRecDepth 20000 in
theorem kX3_137 : gw_CV RX3 137 jX3_carry 3 3 := ⟨okX3_carry, gw_Tb_in (i := 520) rfl rfl, gw_Tb_in (i := 522) rfl rfl, gw_Tb_in (i := 19) rfl rfl, by unfold gw_np; decide +kernel, rfl, by decide⟩
set_option maxRecDepth 20000 in
theorem kX3_120 : gw_CV RX3 120 jX3_carryPlayer 5 3 := ⟨okX3_carryPlayer, gw_Tb_in (i := 524) rfl rfl, gw_Tb_in (i := 526) rfl rfl, gw_Tb_in (i := 20) rfl rfl, by unfold gw_np; decide +kernel, rfl, by decide⟩
set_option maxRecDepth 20000 in
theorem kX3_128 : gw_CV RX3 128 jX3_way 5 3 := ⟨okX3_way, gw_Tb_in (i := 528) rfl rfl, gw_Tb_in (i := 529) rfl rfl, gw_Tb_in (i := 530) rfl rfl, by unfold gw_np; decide +kernel, rfl, by decide⟩
set_option maxRecDepth 20000 in
theorem kX3_106 : gw_CV RX3 106 jX1_lowestOf 2 1 := ⟨okX1_lowestOf, gw_Tb_in (i := 532) rfl rfl, gw_Tb_in (i := 454) rfl rfl, gw_Tb_in (i := 455) rfl rfl, by unfold gw_np; decide +kernel, rfl, by decide⟩
set_option maxRecDepth 20000 in
theorem mX3_109 : Cond.methodLink RX3 109 Lib.Math.abs.name ∈ gw_Tb := gw_Tb_in (i := 533) rfl rfl
set_option maxRecDepth 20000 in
theorem kX3_115 : gw_CS RX3 115 jJ6_bitCount_0f7a4 1 := ⟨okJ6_bitCount_0f7a4, gw_Tb_in (i := 536) rfl rfl, gw_Tb_in (i := 448) rfl rfl, by unfold gw_np; decide +kernel⟩
set_option maxRecDepth 20000 in
theorem kX3_132 : gw_CV RX3 132 jX3_lower 5 3 := ⟨okX3_lower, gw_Tb_in (i := 537) rfl rfl, gw_Tb_in (i := 539) rfl rfl, gw_Tb_in (i := 21) rfl rfl, by unfold gw_np; decide +kernel, rfl, by decide⟩
set_option maxRecDepth 20000 in
theorem kX3_144 : gw_CV RX3 144 jX3_firstBest 1 3 := ⟨okX3_firstBest, gw_Tb_in (i := 541) rfl rfl, gw_Tb_in (i := 543) rfl rfl, gw_Tb_in (i := 22) rfl rfl, by unfold gw_np; decide +kernel, rfl, by decide⟩
set_option maxRecDepth 20000 in
theorem kX3_153 : gw_CV RX3 153 jX3_handIn 2 3 := ⟨okX3_handIn, gw_Tb_in (i := 545) rfl rfl, gw_Tb_in (i := 546) rfl rfl, gw_Tb_in (i := 547) rfl rfl, by unfold gw_np; decide +kernel, rfl, by decide⟩
set_option maxRecDepth 20000 in
theorem kX3_147 : gw_CV RX3 147 jX3_choose 2 3 := ⟨okX3_choose, gw_Tb_in (i := 549) rfl rfl, gw_Tb_in (i := 551) rfl rfl, gw_Tb_in (i := 23) rfl rfl, by unfold gw_np; decide +kernel, rfl, by decide⟩
set_option maxRecDepth 20000 in
theorem kX4_166 : gw_CV RX4 166 jX3_handsThatPlay 0 3 := ⟨okX3_handsThatPlay, gw_Tb_in (i := 554) rfl rfl, gw_Tb_in (i := 555) rfl rfl, gw_Tb_in (i := 556) rfl rfl, by unfold gw_np; decide +kernel, rfl, by decide⟩
set_option maxRecDepth 20000 in
theorem kX4_169 : gw_CV RX4 169 jX3_doubledNotes 0 3 := ⟨okX3_doubledNotes, gw_Tb_in (i := 558) rfl rfl, gw_Tb_in (i := 559) rfl rfl, gw_Tb_in (i := 560) rfl rfl, by unfold gw_np; decide +kernel, rfl, by decide⟩
set_option maxRecDepth 20000 in
theorem kX3_156 : gw_CV RX3 156 jX3_playersOf 2 3 := ⟨okX3_playersOf, gw_Tb_in (i := 562) rfl rfl, gw_Tb_in (i := 564) rfl rfl, gw_Tb_in (i := 24) rfl rfl, by unfold gw_np; decide +kernel, rfl, by decide⟩
set_option maxRecDepth 20000 in
theorem kL_74 : gw_CV RL 74 jX4_hand 2 4 := ⟨okX4_hand, gw_Tb_in (i := 566) rfl rfl, gw_Tb_in (i := 567) rfl rfl, gw_Tb_in (i := 568) rfl rfl, by unfold gw_np; decide +kernel, rfl, by decide⟩
set_option maxRecDepth 20000 in
theorem kX4_172 : gw_CV RX4 172 jX3_handIn 2 3 := ⟨okX3_handIn, gw_Tb_in (i := 570) rfl rfl, gw_Tb_in (i := 546) rfl rfl, gw_Tb_in (i := 547) rfl rfl, by unfold gw_np; decide +kernel, rfl, by decide⟩
set_option maxRecDepth 20000 in
theorem kL_78 : gw_CV RL 78 jX4_loud 2 4 := ⟨okX4_loud, gw_Tb_in (i := 571) rfl rfl, gw_Tb_in (i := 572) rfl rfl, gw_Tb_in (i := 573) rfl rfl, by unfold gw_np; decide +kernel, rfl, by decide⟩
set_option maxRecDepth 20000 in
theorem kX4_175 : gw_CV RX4 175 jX3_loudWithout 3 3 := ⟨okX3_loudWithout, gw_Tb_in (i := 575) rfl rfl, gw_Tb_in (i := 576) rfl rfl, gw_Tb_in (i := 577) rfl rfl, by unfold gw_np; decide +kernel, rfl, by decide⟩
set_option maxRecDepth 20000 in
theorem kL_82 : gw_CV RL 82 jX4_couldRest 1 4 := ⟨okX4_couldRest, gw_Tb_in (i := 579) rfl rfl, gw_Tb_in (i := 580) rfl rfl, gw_Tb_in (i := 581) rfl rfl, by unfold gw_np; decide +kernel, rfl, by decide⟩
set_option maxRecDepth 20000 in
theorem kX4_180 : gw_CV RX4 180 jX3_isEvenWithout 2 3 := ⟨okX3_isEvenWithout, gw_Tb_in (i := 583) rfl rfl, gw_Tb_in (i := 584) rfl rfl, gw_Tb_in (i := 585) rfl rfl, by unfold gw_np; decide +kernel, rfl, by decide⟩
set_option maxRecDepth 20000 in
theorem kX3_159 : gw_CV RX3 159 jX3_loudWithout 3 3 := ⟨okX3_loudWithout, gw_Tb_in (i := 587) rfl rfl, gw_Tb_in (i := 576) rfl rfl, gw_Tb_in (i := 577) rfl rfl, by unfold gw_np; decide +kernel, rfl, by decide⟩
set_option maxRecDepth 20000 in
theorem kL_86 : gw_CV RL 86 jX4_move 2 4 := ⟨okX4_move, gw_Tb_in (i := 588) rfl rfl, gw_Tb_in (i := 589) rfl rfl, gw_Tb_in (i := 590) rfl rfl, by unfold gw_np; decide +kernel, rfl, by decide⟩
set_option maxRecDepth 20000 in
theorem kX4_184 : gw_CV RX4 184 jX3_way 5 3 := ⟨okX3_way, gw_Tb_in (i := 592) rfl rfl, gw_Tb_in (i := 529) rfl rfl, gw_Tb_in (i := 530) rfl rfl, by unfold gw_np; decide +kernel, rfl, by decide⟩
set_option maxRecDepth 20000 in
theorem kL_90 : gw_CV RL 90 jX4_reach 0 4 := ⟨okX4_reach, gw_Tb_in (i := 593) rfl rfl, gw_Tb_in (i := 594) rfl rfl, gw_Tb_in (i := 595) rfl rfl, by unfold gw_np; decide +kernel, rfl, by decide⟩
set_option maxRecDepth 20000 in
theorem kX4_188 : gw_CV RX4 188 jX3_measure 1 3 := ⟨okX3_measure, gw_Tb_in (i := 597) rfl rfl, gw_Tb_in (i := 598) rfl rfl, gw_Tb_in (i := 599) rfl rfl, by unfold gw_np; decide +kernel, rfl, by decide⟩
set_option maxRecDepth 20000 in
theorem kX4_191 : gw_CV RX4 191 jX3_needed 1 3 := ⟨okX3_needed, gw_Tb_in (i := 601) rfl rfl, gw_Tb_in (i := 602) rfl rfl, gw_Tb_in (i := 603) rfl rfl, by unfold gw_np; decide +kernel, rfl, by decide⟩
set_option maxRecDepth 20000 in
theorem kL_94 : gw_CV RL 94 jX4_fewest 0 4 := ⟨okX4_fewest, gw_Tb_in (i := 605) rfl rfl, gw_Tb_in (i := 606) rfl rfl, gw_Tb_in (i := 607) rfl rfl, by unfold gw_np; decide +kernel, rfl, by decide⟩
set_option maxRecDepth 20000 in
theorem kX4_194 : gw_CS RX4 194 jJ6_bitCount_0f7a4 1 := ⟨okJ6_bitCount_0f7a4, gw_Tb_in (i := 609) rfl rfl, gw_Tb_in (i := 448) rfl rfl, by unfold gw_np; decide +kernel⟩
set_option maxRecDepth 20000 in
theorem kX4_199 : gw_CV RX4 199 jX4_canPlayAll 1 4 := ⟨okX4_canPlayAll, gw_Tb_in (i := 610) rfl rfl, gw_Tb_in (i := 612) rfl rfl, gw_Tb_in (i := 25) rfl rfl, by unfold gw_np; decide +kernel, rfl, by decide⟩
set_option maxRecDepth 20000 in
theorem kL_98 : gw_CV RL 98 jX4_bear 0 4 := ⟨okX4_bear, gw_Tb_in (i := 614) rfl rfl, gw_Tb_in (i := 615) rfl rfl, gw_Tb_in (i := 616) rfl rfl, by unfold gw_np; decide +kernel, rfl, by decide⟩
set_option maxRecDepth 20000 in
theorem kL_102 : gw_CV RL 102 jX4_hears 2 4 := ⟨okX4_hears, gw_Tb_in (i := 618) rfl rfl, gw_Tb_in (i := 619) rfl rfl, gw_Tb_in (i := 620) rfl rfl, by unfold gw_np; decide +kernel, rfl, by decide⟩
set_option maxRecDepth 20000 in
theorem kL_106 : gw_CV RL 106 jX4_forget 0 4 := ⟨okX4_forget, gw_Tb_in (i := 622) rfl rfl, gw_Tb_in (i := 623) rfl rfl, gw_Tb_in (i := 624) rfl rfl, by unfold gw_np; decide +kernel, rfl, by decide⟩
set_option maxRecDepth 20000 in
theorem kL_110 : gw_CV RL 110 jX4_ill 0 4 := ⟨okX4_ill, gw_Tb_in (i := 626) rfl rfl, gw_Tb_in (i := 627) rfl rfl, gw_Tb_in (i := 628) rfl rfl, by unfold gw_np; decide +kernel, rfl, by decide⟩
set_option maxRecDepth 20000 in
theorem kX4_202 : gw_CV RX4 202 jX4_fitsAllHeard 1 4 := ⟨okX4_fitsAllHeard, gw_Tb_in (i := 630) rfl rfl, gw_Tb_in (i := 632) rfl rfl, gw_Tb_in (i := 26) rfl rfl, by unfold gw_np; decide +kernel, rfl, by decide⟩
set_option maxRecDepth 20000 in
theorem kL_114 : gw_CV RL 114 jX4_keep 1 4 := ⟨okX4_keep, gw_Tb_in (i := 634) rfl rfl, gw_Tb_in (i := 635) rfl rfl, gw_Tb_in (i := 636) rfl rfl, by unfold gw_np; decide +kernel, rfl, by decide⟩
set_option maxRecDepth 20000 in
theorem kL_118 : gw_CV RL 118 jX4_back 1 4 := ⟨okX4_back, gw_Tb_in (i := 638) rfl rfl, gw_Tb_in (i := 639) rfl rfl, gw_Tb_in (i := 640) rfl rfl, by unfold gw_np; decide +kernel, rfl, by decide⟩
set_option maxRecDepth 20000 in
theorem kL_122 : gw_CV RL 122 jX4_count 1 4 := ⟨okX4_count, gw_Tb_in (i := 642) rfl rfl, gw_Tb_in (i := 643) rfl rfl, gw_Tb_in (i := 644) rfl rfl, by unfold gw_np; decide +kernel, rfl, by decide⟩
set_option maxRecDepth 20000 in
theorem kL_12 : gw_CI RL 12 jX5_init 0 := ⟨okX5_init, gw_Tb_in (i := 648) rfl rfl, gw_Tb_in (i := 649) rfl rfl, by unfold gw_np; decide +kernel, by decide +kernel, rfl⟩
set_option maxRecDepth 20000 in
theorem oX5_1 : Cond.methodLink RX5 1 Lib.objectInit ∈ gw_Tb := gw_Tb_in (i := 651) rfl rfl
set_option maxRecDepth 20000 in
theorem kX5_53 : gw_CV RX5 53 jX5_begins 0 5 := ⟨okX5_begins, gw_Tb_in (i := 652) rfl rfl, gw_Tb_in (i := 654) rfl rfl, gw_Tb_in (i := 27) rfl rfl, by unfold gw_np; decide +kernel, rfl, by decide⟩
set_option maxRecDepth 20000 in
theorem kX5_56 : gw_CV RX5 56 jX5_becomes 0 5 := ⟨okX5_becomes, gw_Tb_in (i := 656) rfl rfl, gw_Tb_in (i := 658) rfl rfl, gw_Tb_in (i := 28) rfl rfl, by unfold gw_np; decide +kernel, rfl, by decide⟩
set_option maxRecDepth 20000 in
theorem kL_17 : gw_CV RL 17 jX5_type 1 5 := ⟨okX5_type, gw_Tb_in (i := 730) rfl rfl, gw_Tb_in (i := 731) rfl rfl, gw_Tb_in (i := 732) rfl rfl, by unfold gw_np; decide +kernel, rfl, by decide⟩
set_option maxRecDepth 20000 in
theorem kX5_72 : gw_CS RX5 72 jX5_in 3 := ⟨okX5_in, gw_Tb_in (i := 734) rfl rfl, gw_Tb_in (i := 735) rfl rfl, by unfold gw_np; decide +kernel⟩
set_option maxRecDepth 20000 in
theorem kL_22 : gw_CV RL 22 jX5_clear 0 5 := ⟨okX5_clear, gw_Tb_in (i := 737) rfl rfl, gw_Tb_in (i := 738) rfl rfl, gw_Tb_in (i := 739) rfl rfl, by unfold gw_np; decide +kernel, rfl, by decide⟩
set_option maxRecDepth 20000 in
theorem kL_26 : gw_CV RL 26 jX5_band 0 5 := ⟨okX5_band, gw_Tb_in (i := 741) rfl rfl, gw_Tb_in (i := 742) rfl rfl, gw_Tb_in (i := 743) rfl rfl, by unfold gw_np; decide +kernel, rfl, by decide⟩
set_option maxRecDepth 20000 in
theorem kX5_82 : gw_CV RX5 82 jX5_here 0 5 := ⟨okX5_here, gw_Tb_in (i := 745) rfl rfl, gw_Tb_in (i := 747) rfl rfl, gw_Tb_in (i := 29) rfl rfl, by unfold gw_np; decide +kernel, rfl, by decide⟩
set_option maxRecDepth 20000 in
theorem kX5_111 : gw_CV RX5 111 jX5_item 0 5 := ⟨okX5_item, gw_Tb_in (i := 749) rfl rfl, gw_Tb_in (i := 751) rfl rfl, gw_Tb_in (i := 30) rfl rfl, by unfold gw_np; decide +kernel, rfl, by decide⟩
set_option maxRecDepth 20000 in
theorem kX5_100 : gw_CV RX5 100 jX5_readsPlayer 1 5 := ⟨okX5_readsPlayer, gw_Tb_in (i := 753) rfl rfl, gw_Tb_in (i := 755) rfl rfl, gw_Tb_in (i := 31) rfl rfl, by unfold gw_np; decide +kernel, rfl, by decide⟩
set_option maxRecDepth 20000 in
theorem kX5_89 : gw_CV RX5 89 jX5_bows 0 5 := ⟨okX5_bows, gw_Tb_in (i := 757) rfl rfl, gw_Tb_in (i := 759) rfl rfl, gw_Tb_in (i := 32) rfl rfl, by unfold gw_np; decide +kernel, rfl, by decide⟩
set_option maxRecDepth 20000 in
theorem kX5_92 : gw_CV RX5 92 jX5_reads 2 5 := ⟨okX5_reads, gw_Tb_in (i := 761) rfl rfl, gw_Tb_in (i := 763) rfl rfl, gw_Tb_in (i := 33) rfl rfl, by unfold gw_np; decide +kernel, rfl, by decide⟩
set_option maxRecDepth 20000 in
theorem kX5_104 : gw_CV RX5 104 jX5_readsChord 0 5 := ⟨okX5_readsChord, gw_Tb_in (i := 765) rfl rfl, gw_Tb_in (i := 767) rfl rfl, gw_Tb_in (i := 34) rfl rfl, by unfold gw_np; decide +kernel, rfl, by decide⟩
set_option maxRecDepth 20000 in
theorem kX5_108 : gw_CV RX5 108 jX5_readsQuiet 0 5 := ⟨okX5_readsQuiet, gw_Tb_in (i := 769) rfl rfl, gw_Tb_in (i := 771) rfl rfl, gw_Tb_in (i := 35) rfl rfl, by unfold gw_np; decide +kernel, rfl, by decide⟩
set_option maxRecDepth 20000 in
theorem kL_31 : gw_CV RL 31 jX5_player 2 5 := ⟨okX5_player, gw_Tb_in (i := 773) rfl rfl, gw_Tb_in (i := 774) rfl rfl, gw_Tb_in (i := 775) rfl rfl, by unfold gw_np; decide +kernel, rfl, by decide⟩
set_option maxRecDepth 20000 in
theorem kX5_114 : gw_CV RX5 114 jX5_isPlayer 1 5 := ⟨okX5_isPlayer, gw_Tb_in (i := 777) rfl rfl, gw_Tb_in (i := 779) rfl rfl, gw_Tb_in (i := 36) rfl rfl, by unfold gw_np; decide +kernel, rfl, by decide⟩
set_option maxRecDepth 20000 in
theorem kX5_117 : gw_CV RX5 117 jX5_isIn 1 5 := ⟨okX5_isIn, gw_Tb_in (i := 781) rfl rfl, gw_Tb_in (i := 783) rfl rfl, gw_Tb_in (i := 37) rfl rfl, by unfold gw_np; decide +kernel, rfl, by decide⟩
set_option maxRecDepth 20000 in
theorem kL_35 : gw_CV RL 35 jX5_span 1 5 := ⟨okX5_span, gw_Tb_in (i := 785) rfl rfl, gw_Tb_in (i := 786) rfl rfl, gw_Tb_in (i := 787) rfl rfl, by unfold gw_np; decide +kernel, rfl, by decide⟩
set_option maxRecDepth 20000 in
theorem kX5_120 : gw_CV RX5 120 jX5_kind 1 5 := ⟨okX5_kind, gw_Tb_in (i := 789) rfl rfl, gw_Tb_in (i := 791) rfl rfl, gw_Tb_in (i := 38) rfl rfl, by unfold gw_np; decide +kernel, rfl, by decide⟩
set_option maxRecDepth 20000 in
theorem kL_39 : gw_CV RL 39 jX5_chord 2 5 := ⟨okX5_chord, gw_Tb_in (i := 793) rfl rfl, gw_Tb_in (i := 794) rfl rfl, gw_Tb_in (i := 795) rfl rfl, by unfold gw_np; decide +kernel, rfl, by decide⟩
set_option maxRecDepth 20000 in
theorem kX5_124 : gw_CV RX5 124 jX5_isChord 1 5 := ⟨okX5_isChord, gw_Tb_in (i := 797) rfl rfl, gw_Tb_in (i := 799) rfl rfl, gw_Tb_in (i := 39) rfl rfl, by unfold gw_np; decide +kernel, rfl, by decide⟩
set_option maxRecDepth 20000 in
theorem kX5_127 : gw_CV RX5 127 jX5_notes 1 5 := ⟨okX5_notes, gw_Tb_in (i := 801) rfl rfl, gw_Tb_in (i := 803) rfl rfl, gw_Tb_in (i := 40) rfl rfl, by unfold gw_np; decide +kernel, rfl, by decide⟩
set_option maxRecDepth 20000 in
theorem kX5_130 : gw_CV RX5 130 jX5_note 2 5 := ⟨okX5_note, gw_Tb_in (i := 805) rfl rfl, gw_Tb_in (i := 807) rfl rfl, gw_Tb_in (i := 41) rfl rfl, by unfold gw_np; decide +kernel, rfl, by decide⟩
set_option maxRecDepth 20000 in
theorem kL_44 : gw_CV RL 44 jX5_puts 4 5 := ⟨okX5_puts, gw_Tb_in (i := 809) rfl rfl, gw_Tb_in (i := 810) rfl rfl, gw_Tb_in (i := 811) rfl rfl, by unfold gw_np; decide +kernel, rfl, by decide⟩
set_option maxRecDepth 20000 in
theorem kX5_134 : gw_CS RX5 134 jX5_areNotes 3 := ⟨okX5_areNotes, gw_Tb_in (i := 813) rfl rfl, gw_Tb_in (i := 814) rfl rfl, by unfold gw_np; decide +kernel⟩
set_option maxRecDepth 20000 in
theorem kX5_137 : gw_CV RX5 137 jX5_remembers 0 5 := ⟨okX5_remembers, gw_Tb_in (i := 816) rfl rfl, gw_Tb_in (i := 818) rfl rfl, gw_Tb_in (i := 42) rfl rfl, by unfold gw_np; decide +kernel, rfl, by decide⟩
set_option maxRecDepth 20000 in
theorem kL_48 : gw_CV RL 48 jX5_takes 1 5 := ⟨okX5_takes, gw_Tb_in (i := 820) rfl rfl, gw_Tb_in (i := 821) rfl rfl, gw_Tb_in (i := 822) rfl rfl, by unfold gw_np; decide +kernel, rfl, by decide⟩
set_option maxRecDepth 20000 in
theorem kL_52 : gw_CV RL 52 jX5_calls 1 5 := ⟨okX5_calls, gw_Tb_in (i := 824) rfl rfl, gw_Tb_in (i := 825) rfl rfl, gw_Tb_in (i := 826) rfl rfl, by unfold gw_np; decide +kernel, rfl, by decide⟩
set_option maxRecDepth 20000 in
theorem kL_56 : gw_CV RL 56 jX5_tells 2 5 := ⟨okX5_tells, gw_Tb_in (i := 828) rfl rfl, gw_Tb_in (i := 829) rfl rfl, gw_Tb_in (i := 830) rfl rfl, by unfold gw_np; decide +kernel, rfl, by decide⟩
set_option maxRecDepth 20000 in
theorem kL_60 : gw_CV RL 60 jX5_undo 0 5 := ⟨okX5_undo, gw_Tb_in (i := 832) rfl rfl, gw_Tb_in (i := 833) rfl rfl, gw_Tb_in (i := 834) rfl rfl, by unfold gw_np; decide +kernel, rfl, by decide⟩
set_option maxRecDepth 20000 in
theorem kL_65 : gw_CV RL 65 jX5_could 3 5 := ⟨okX5_could, gw_Tb_in (i := 836) rfl rfl, gw_Tb_in (i := 837) rfl rfl, gw_Tb_in (i := 838) rfl rfl, by unfold gw_np; decide +kernel, rfl, by decide⟩
set_option maxRecDepth 20000 in
theorem kX5_149 : gw_CV RX5 149 jX5_isHand 3 5 := ⟨okX5_isHand, gw_Tb_in (i := 840) rfl rfl, gw_Tb_in (i := 842) rfl rfl, gw_Tb_in (i := 43) rfl rfl, by unfold gw_np; decide +kernel, rfl, by decide⟩
set_option maxRecDepth 20000 in
theorem kX5_140 : gw_CS RX5 140 jX5_lowest 1 := ⟨okX5_lowest, gw_Tb_in (i := 844) rfl rfl, gw_Tb_in (i := 845) rfl rfl, by unfold gw_np; decide +kernel⟩
set_option maxRecDepth 20000 in
theorem kX5_143 : gw_CS RX5 143 jX5_highest 1 := ⟨okX5_highest, gw_Tb_in (i := 847) rfl rfl, gw_Tb_in (i := 848) rfl rfl, by unfold gw_np; decide +kernel⟩
set_option maxRecDepth 20000 in
theorem kX5_146 : gw_CS RX5 146 jX5_ones 1 := ⟨okX5_ones, gw_Tb_in (i := 850) rfl rfl, gw_Tb_in (i := 851) rfl rfl, by unfold gw_np; decide +kernel⟩
set_option maxRecDepth 20000 in
theorem kL_69 : gw_CV RL 69 jX5_spreads 1 5 := ⟨okX5_spreads, gw_Tb_in (i := 853) rfl rfl, gw_Tb_in (i := 854) rfl rfl, gw_Tb_in (i := 855) rfl rfl, by unfold gw_np; decide +kernel, rfl, by decide⟩
set_option maxRecDepth 20000 in
theorem kX5_166 : gw_CV RX5 166 jX5_laysSpreads 3 5 := ⟨okX5_laysSpreads, gw_Tb_in (i := 857) rfl rfl, gw_Tb_in (i := 859) rfl rfl, gw_Tb_in (i := 44) rfl rfl, by unfold gw_np; decide +kernel, rfl, by decide⟩
set_option maxRecDepth 20000 in
theorem kX5_162 : gw_CV RX5 162 jX5_isSpread 4 5 := ⟨okX5_isSpread, gw_Tb_in (i := 861) rfl rfl, gw_Tb_in (i := 863) rfl rfl, gw_Tb_in (i := 45) rfl rfl, by unfold gw_np; decide +kernel, rfl, by decide⟩
set_option maxRecDepth 20000 in
theorem kX5_152 : gw_CS RX5 152 jX5_handOf 2 := ⟨okX5_handOf, gw_Tb_in (i := 865) rfl rfl, gw_Tb_in (i := 866) rfl rfl, by unfold gw_np; decide +kernel⟩
set_option maxRecDepth 20000 in
theorem kX5_159 : gw_CV RX5 159 jX5_isEven 3 5 := ⟨okX5_isEven, gw_Tb_in (i := 868) rfl rfl, gw_Tb_in (i := 870) rfl rfl, gw_Tb_in (i := 46) rfl rfl, by unfold gw_np; decide +kernel, rfl, by decide⟩
set_option maxRecDepth 20000 in
theorem kX5_156 : gw_CV RX5 156 jX5_loudOf 2 5 := ⟨okX5_loudOf, gw_Tb_in (i := 873) rfl rfl, gw_Tb_in (i := 875) rfl rfl, gw_Tb_in (i := 47) rfl rfl, by unfold gw_np; decide +kernel, rfl, by decide⟩
set_option maxRecDepth 20000 in
theorem kL_73 : gw_CV RL 73 jX5_score 1 5 := ⟨okX5_score, gw_Tb_in (i := 877) rfl rfl, gw_Tb_in (i := 878) rfl rfl, gw_Tb_in (i := 879) rfl rfl, by unfold gw_np; decide +kernel, rfl, by decide⟩
set_option maxRecDepth 20000 in
theorem kX5_186 : gw_CV RX5 186 jX5_laysFirst 0 5 := ⟨okX5_laysFirst, gw_Tb_in (i := 881) rfl rfl, gw_Tb_in (i := 883) rfl rfl, gw_Tb_in (i := 48) rfl rfl, by unfold gw_np; decide +kernel, rfl, by decide⟩
set_option maxRecDepth 20000 in
theorem kX5_180 : gw_CV RX5 180 jX5_laysScore 3 5 := ⟨okX5_laysScore, gw_Tb_in (i := 885) rfl rfl, gw_Tb_in (i := 887) rfl rfl, gw_Tb_in (i := 49) rfl rfl, by unfold gw_np; decide +kernel, rfl, by decide⟩
set_option maxRecDepth 20000 in
theorem kX5_177 : gw_CV RX5 177 jX5_leastBehind 3 5 := ⟨okX5_leastBehind, gw_Tb_in (i := 889) rfl rfl, gw_Tb_in (i := 891) rfl rfl, gw_Tb_in (i := 50) rfl rfl, by unfold gw_np; decide +kernel, rfl, by decide⟩
set_option maxRecDepth 20000 in
theorem kX5_174 : gw_CV RX5 174 jX5_movesOf 3 5 := ⟨okX5_movesOf, gw_Tb_in (i := 893) rfl rfl, gw_Tb_in (i := 895) rfl rfl, gw_Tb_in (i := 51) rfl rfl, by unfold gw_np; decide +kernel, rfl, by decide⟩
set_option maxRecDepth 20000 in
theorem kX5_170 : gw_CV RX5 170 jX5_moveOf 3 5 := ⟨okX5_moveOf, gw_Tb_in (i := 897) rfl rfl, gw_Tb_in (i := 899) rfl rfl, gw_Tb_in (i := 52) rfl rfl, by unfold gw_np; decide +kernel, rfl, by decide⟩
set_option maxRecDepth 20000 in
theorem kX5_189 : gw_CV RX5 189 jX5_playing 2 5 := ⟨okX5_playing, gw_Tb_in (i := 901) rfl rfl, gw_Tb_in (i := 903) rfl rfl, gw_Tb_in (i := 53) rfl rfl, by unfold gw_np; decide +kernel, rfl, by decide⟩
set_option maxRecDepth 20000 in
theorem kL_77 : gw_CV RL 77 jX5_hand 2 5 := ⟨okX5_hand, gw_Tb_in (i := 905) rfl rfl, gw_Tb_in (i := 906) rfl rfl, gw_Tb_in (i := 907) rfl rfl, by unfold gw_np; decide +kernel, rfl, by decide⟩
set_option maxRecDepth 20000 in
theorem kL_81 : gw_CV RL 81 jX5_loud 2 5 := ⟨okX5_loud, gw_Tb_in (i := 909) rfl rfl, gw_Tb_in (i := 910) rfl rfl, gw_Tb_in (i := 911) rfl rfl, by unfold gw_np; decide +kernel, rfl, by decide⟩
set_option maxRecDepth 20000 in
theorem kL_85 : gw_CV RL 85 jX5_couldRest 1 5 := ⟨okX5_couldRest, gw_Tb_in (i := 913) rfl rfl, gw_Tb_in (i := 914) rfl rfl, gw_Tb_in (i := 915) rfl rfl, by unfold gw_np; decide +kernel, rfl, by decide⟩
set_option maxRecDepth 20000 in
theorem kL_89 : gw_CV RL 89 jX5_move 2 5 := ⟨okX5_move, gw_Tb_in (i := 917) rfl rfl, gw_Tb_in (i := 918) rfl rfl, gw_Tb_in (i := 919) rfl rfl, by unfold gw_np; decide +kernel, rfl, by decide⟩
set_option maxRecDepth 20000 in
theorem kL_93 : gw_CV RL 93 jX5_reach 0 5 := ⟨okX5_reach, gw_Tb_in (i := 921) rfl rfl, gw_Tb_in (i := 922) rfl rfl, gw_Tb_in (i := 923) rfl rfl, by unfold gw_np; decide +kernel, rfl, by decide⟩
set_option maxRecDepth 20000 in
theorem kL_97 : gw_CV RL 97 jX5_fewest 0 5 := ⟨okX5_fewest, gw_Tb_in (i := 925) rfl rfl, gw_Tb_in (i := 926) rfl rfl, gw_Tb_in (i := 927) rfl rfl, by unfold gw_np; decide +kernel, rfl, by decide⟩
set_option maxRecDepth 20000 in
theorem kX5_192 : gw_CS RX5 192 jX5_bits 1 := ⟨okX5_bits, gw_Tb_in (i := 929) rfl rfl, gw_Tb_in (i := 930) rfl rfl, by unfold gw_np; decide +kernel⟩
set_option maxRecDepth 20000 in
theorem kL_101 : gw_CV RL 101 jX5_bear 0 5 := ⟨okX5_bear, gw_Tb_in (i := 932) rfl rfl, gw_Tb_in (i := 933) rfl rfl, gw_Tb_in (i := 934) rfl rfl, by unfold gw_np; decide +kernel, rfl, by decide⟩
set_option maxRecDepth 20000 in
theorem kL_105 : gw_CV RL 105 jX5_hears 2 5 := ⟨okX5_hears, gw_Tb_in (i := 936) rfl rfl, gw_Tb_in (i := 937) rfl rfl, gw_Tb_in (i := 938) rfl rfl, by unfold gw_np; decide +kernel, rfl, by decide⟩
set_option maxRecDepth 20000 in
theorem kL_109 : gw_CV RL 109 jX5_forget 0 5 := ⟨okX5_forget, gw_Tb_in (i := 940) rfl rfl, gw_Tb_in (i := 941) rfl rfl, gw_Tb_in (i := 942) rfl rfl, by unfold gw_np; decide +kernel, rfl, by decide⟩
set_option maxRecDepth 20000 in
theorem kL_113 : gw_CV RL 113 jX5_ill 0 5 := ⟨okX5_ill, gw_Tb_in (i := 944) rfl rfl, gw_Tb_in (i := 945) rfl rfl, gw_Tb_in (i := 946) rfl rfl, by unfold gw_np; decide +kernel, rfl, by decide⟩
set_option maxRecDepth 20000 in
theorem kL_117 : gw_CV RL 117 jX5_keep 1 5 := ⟨okX5_keep, gw_Tb_in (i := 948) rfl rfl, gw_Tb_in (i := 949) rfl rfl, gw_Tb_in (i := 950) rfl rfl, by unfold gw_np; decide +kernel, rfl, by decide⟩
set_option maxRecDepth 20000 in
theorem kL_121 : gw_CV RL 121 jX5_back 1 5 := ⟨okX5_back, gw_Tb_in (i := 952) rfl rfl, gw_Tb_in (i := 953) rfl rfl, gw_Tb_in (i := 954) rfl rfl, by unfold gw_np; decide +kernel, rfl, by decide⟩
set_option maxRecDepth 20000 in
theorem kL_125 : gw_CV RL 125 jX5_count 1 5 := ⟨okX5_count, gw_Tb_in (i := 956) rfl rfl, gw_Tb_in (i := 957) rfl rfl, gw_Tb_in (i := 958) rfl rfl, by unfold gw_np; decide +kernel, rfl, by decide⟩
set_option maxRecDepth 20000 in
theorem kX4_9 : gw_CIN RX4 9 jX2_init 0 := ⟨okX2_init, ⟨"ChordSpreads", List.mem_of_getElem? (i := 19) rfl⟩, gw_Tb_in (i := 74) rfl rfl, by unfold gw_np; decide +kernel, by decide +kernel, rfl⟩
set_option maxRecDepth 20000 in
theorem kX2_11 : gw_CIN RX2 11 jX0_init 0 := ⟨okX0_init, ⟨"ChordSpreads", List.mem_of_getElem? (i := 25) rfl⟩, gw_Tb_in (i := 80) rfl rfl, by unfold gw_np; decide +kernel, by decide +kernel, rfl⟩
set_option maxRecDepth 20000 in
theorem kX2_20 : gw_CIN RX2 20 jX1_init 0 := ⟨okX1_init, ⟨"ChordSpreads", List.mem_of_getElem? (i := 63) rfl⟩, gw_Tb_in (i := 118) rfl rfl, by unfold gw_np; decide +kernel, by decide +kernel, rfl⟩
set_option maxRecDepth 20000 in
theorem kX4_18 : gw_CIN RX4 18 jX3_init 0 := ⟨okX3_init, ⟨"ChordSpreads", List.mem_of_getElem? (i := 131) rfl⟩, gw_Tb_in (i := 186) rfl rfl, by unfold gw_np; decide +kernel, by decide +kernel, rfl⟩
set_option maxRecDepth 20000 in
theorem kX3_11 : gw_CIN RX3 11 jX0_init 0 := ⟨okX0_init, ⟨"ChordSpreads", List.mem_of_getElem? (i := 136) rfl⟩, gw_Tb_in (i := 80) rfl rfl, by unfold gw_np; decide +kernel, by decide +kernel, rfl⟩
set_option maxRecDepth 20000 in
theorem kX3_20 : gw_CIN RX3 20 jX1_init 0 := ⟨okX1_init, ⟨"ChordSpreads", List.mem_of_getElem? (i := 138) rfl⟩, gw_Tb_in (i := 118) rfl rfl, by unfold gw_np; decide +kernel, by decide +kernel, rfl⟩
set_option maxRecDepth 20000 in
theorem kX4_66 : gw_CIN RX4 66 jX1_init 0 := ⟨okX1_init, ⟨"ChordSpreads", List.mem_of_getElem? (i := 183) rfl⟩, gw_Tb_in (i := 118) rfl rfl, by unfold gw_np; decide +kernel, by decide +kernel, rfl⟩
set_option maxRecDepth 20000 in
theorem kX2_107 : gw_CSN RX2 107 jX4_isWithin 3 := ⟨okX4_isWithin, ⟨"ChordSpreads", List.mem_of_getElem? (i := 281) rfl⟩, gw_Tb_in (i := 336) rfl rfl, by unfold gw_np; decide +kernel⟩
set_option maxRecDepth 20000 in
theorem nJ6_265 : Cond.constant RJ6 265 (Int32.ofInt 1431655765) ∈ gw_Tb := gw_Tb_in (i := 450) rfl rfl
set_option maxRecDepth 20000 in
theorem nJ6_266 : Cond.constant RJ6 266 (Int32.ofInt 858993459) ∈ gw_Tb := gw_Tb_in (i := 451) rfl rfl
set_option maxRecDepth 20000 in
theorem nJ6_267 : Cond.constant RJ6 267 (Int32.ofInt 252645135) ∈ gw_Tb := gw_Tb_in (i := 452) rfl rfl
set_option maxRecDepth 20000 in
theorem nX3_99 : Cond.constant RX3 99 (Int32.ofInt 67108864) ∈ gw_Tb := gw_Tb_in (i := 497) rfl rfl
set_option maxRecDepth 20000 in
theorem nX4_211 : Cond.constant RX4 211 (Int32.ofInt 67108864) ∈ gw_Tb := gw_Tb_in (i := 553) rfl rfl
set_option maxRecDepth 20000 in
theorem nX5_155 : Cond.constant RX5 155 (Int32.ofInt 1000000) ∈ gw_Tb := gw_Tb_in (i := 872) rfl rfl
set_option maxRecDepth 20000 in
theorem lL_7 : Cond.classLink RL 7 RX4 ∈ gw_Tb := gw_Tb_in (i := 63) rfl rfl
set_option maxRecDepth 20000 in
theorem lX4_7 : Cond.classLink RX4 7 RX2 ∈ gw_Tb := gw_Tb_in (i := 71) rfl rfl
set_option maxRecDepth 20000 in
theorem lX2_9 : Cond.classLink RX2 9 RX0 ∈ gw_Tb := gw_Tb_in (i := 77) rfl rfl
set_option maxRecDepth 20000 in
theorem lX2_18 : Cond.classLink RX2 18 RX1 ∈ gw_Tb := gw_Tb_in (i := 115) rfl rfl
set_option maxRecDepth 20000 in
theorem lX4_16 : Cond.classLink RX4 16 RX3 ∈ gw_Tb := gw_Tb_in (i := 183) rfl rfl
set_option maxRecDepth 20000 in
theorem lX3_9 : Cond.classLink RX3 9 RX0 ∈ gw_Tb := gw_Tb_in (i := 189) rfl rfl
set_option maxRecDepth 20000 in
theorem lX3_18 : Cond.classLink RX3 18 RX1 ∈ gw_Tb := gw_Tb_in (i := 191) rfl rfl
set_option maxRecDepth 20000 in
theorem lX3_29 : Cond.classLink RX3 29 "[[I" ∈ gw_Tb := gw_Tb_in (i := 193) rfl rfl
set_option maxRecDepth 20000 in
theorem lX4_35 : Cond.classLink RX4 35 RX1 ∈ gw_Tb := gw_Tb_in (i := 235) rfl rfl
set_option maxRecDepth 20000 in
theorem lL_10 : Cond.classLink RL 10 RX5 ∈ gw_Tb := gw_Tb_in (i := 646) rfl rfl
set_option maxRecDepth 20000 in
theorem mm_max1 : Cond.static Lib.Math.max.name ∈ gw_Tb := gw_Tb_in (i := 499) rfl rfl
set_option maxRecDepth 20000 in
theorem mm_max2 : Cond.code Lib.Math.max.name Lib.Math.max.code 2 (some .int) ∈ gw_Tb := gw_Tb_in (i := 500) rfl rfl
set_option maxRecDepth 20000 in
theorem mm_min1 : Cond.static Lib.Math.min.name ∈ gw_Tb := gw_Tb_in (i := 475) rfl rfl
set_option maxRecDepth 20000 in
theorem mm_min2 : Cond.code Lib.Math.min.name Lib.Math.min.code 2 (some .int) ∈ gw_Tb := gw_Tb_in (i := 476) rfl rfl
set_option maxRecDepth 20000 in
theorem mm_abs1 : Cond.static Lib.Math.abs.name ∈ gw_Tb := gw_Tb_in (i := 534) rfl rfl
set_option maxRecDepth 20000 in
theorem mm_abs2 : Cond.code Lib.Math.abs.name Lib.Math.abs.code 1 (some .int) ∈ gw_Tb := gw_Tb_in (i := 535) rfl rfl
set_option maxRecDepth 20000 in
theorem mm_ini : Cond.initialized "java/lang/Math" ∈ gw_Tb := gw_Tb_in (i := 62) rfl rfl
set_option maxRecDepth 20000 in
theorem oo_1 : Cond.instanceMethod Lib.objectInit ∈ gw_Tb := gw_Tb_in (i := 69) rfl rfl
set_option maxRecDepth 20000 in
theorem oo_2 : Cond.code Lib.objectInit ⟨#[0xb1]⟩ 1 none ∈ gw_Tb := gw_Tb_in (i := 70) rfl rfl
set_option maxRecDepth 20000 in
theorem aa_i : Cond.arrayClass .int ∈ gw_Tb := gw_Tb_in (i := 114) rfl rfl
set_option maxRecDepth 20000 in
theorem aa_z : Cond.arrayClass .boolean ∈ gw_Tb := gw_Tb_in (i := 275) rfl rfl
end
section
/-! NUMBERS: bits of Ints -/
theorem ga_n (n : Nat) : Int32.ofInt (n : Int) = nI n := by
  unfold nI
  exact Int32.ofInt_eq_ofNat
theorem ga_sm {y : Nat} (h : y < 32) : ((Int32.ofInt (y : Int) &&& 31).toBitVec.smod 32).toNat = y := by
  have : ∀ y : Nat, y < 32 → ((Int32.ofInt (y : Int) &&& 31).toBitVec.smod 32).toNat = y := by decide +kernel
  exact this y h
theorem ga_shrN {a y : Nat} (ha : a < 2147483648) (hy : y < 32) : Int32.ofInt (a : Int) >>> (Int32.ofInt (y : Int) &&& 31) = Int32.ofInt ((a / 2 ^ y : Nat) : Int) := by
  rw [ga_n a, ga_n (a / 2 ^ y), pk_shrN ha _ y (ga_sm hy)]
theorem ga_shlN {a y : Nat} (hy : y < 32) (h : a * 2 ^ y < 4294967296) : Int32.ofInt (a : Int) <<< (Int32.ofInt (y : Int) &&& 31) = Int32.ofInt ((a * 2 ^ y : Nat) : Int) := by
  rw [ga_n a, ga_n (a * 2 ^ y), pk_shlN _ y (ga_sm hy) h]
theorem ga_tb (n : Nat) : (Int32.ofInt (n : Int)).toBitVec = BitVec.ofNat 32 n := by
  rw [ga_n]
  rfl
theorem ga_andN (a b : Nat) : Int32.ofInt (a : Int) &&& Int32.ofInt (b : Int) = Int32.ofInt ((a &&& b : Nat) : Int) := by
  apply Int32.toBitVec_inj.mp
  rw [Int32.toBitVec_and, ga_tb, ga_tb, ga_tb, BitVec.ofNat_and]
theorem ga_orN (a b : Nat) : Int32.ofInt (a : Int) ||| Int32.ofInt (b : Int) = Int32.ofInt ((a ||| b : Nat) : Int) := by
  apply Int32.toBitVec_inj.mp
  rw [Int32.toBitVec_or, ga_tb, ga_tb, ga_tb, BitVec.ofNat_or]
theorem ga_xorN (a b : Nat) : Int32.ofInt (a : Int) ^^^ Int32.ofInt (b : Int) = Int32.ofInt ((a ^^^ b : Nat) : Int) := by
  apply Int32.toBitVec_inj.mp
  rw [Int32.toBitVec_xor, ga_tb, ga_tb, ga_tb, BitVec.ofNat_xor]
theorem ga_shr {x y : Int} (hx : 0 ≤ x) (hx2 : x < 2147483648) (hy : 0 ≤ y) (hy2 : y < 32) : Int32.ofInt x >>> (Int32.ofInt y &&& 31) = Int32.ofInt (x / 2 ^ y.toNat) := by
  obtain ⟨a, rfl⟩ := Int.eq_ofNat_of_zero_le hx
  obtain ⟨b, rfl⟩ := Int.eq_ofNat_of_zero_le hy
  rw [ga_shrN (by omega) (by omega)]
  congr 1
theorem ga_and1 {x : Int} (hx : 0 ≤ x) : Int32.ofInt x &&& Int32.ofInt 1 = Int32.ofInt (x % 2) := by
  obtain ⟨a, rfl⟩ := Int.eq_ofNat_of_zero_le hx
  have h := ga_andN a 1
  rw [Nat.and_one_is_mod] at h
  exact h
theorem ga_and7 {x : Int} (hx : 0 ≤ x) : Int32.ofInt x &&& Int32.ofInt 7 = Int32.ofInt (x % 8) := by
  obtain ⟨a, rfl⟩ := Int.eq_ofNat_of_zero_le hx
  have h := ga_andN a 7
  rw [show (7 : Nat) = 2 ^ 3 - 1 from rfl, Nat.and_two_pow_sub_one_eq_mod] at h
  exact h
theorem ga_and255 {x : Int} (hx : 0 ≤ x) : Int32.ofInt x &&& Int32.ofInt 255 = Int32.ofInt (x % 256) := by
  obtain ⟨a, rfl⟩ := Int.eq_ofNat_of_zero_le hx
  have h := ga_andN a 255
  rw [show (255 : Nat) = 2 ^ 8 - 1 from rfl, Nat.and_two_pow_sub_one_eq_mod] at h
  exact h
theorem ga_and31 (x : Int32) : x &&& Int32.ofInt 31 = Int32.ofInt ((x.toBitVec.toNat % 32 : Nat) : Int) := by
  rw [ga_n, pk_and x 5 (by decide +kernel)]
theorem ga_shl1 {y : Int} (hy : 0 ≤ y) (hy2 : y < 31) : Int32.ofInt 1 <<< (Int32.ofInt y &&& 31) = Int32.ofInt (2 ^ y.toNat) := by
  obtain ⟨b, rfl⟩ := Int.eq_ofNat_of_zero_le hy
  have hb : b < 31 := by omega
  have h2 : 2 ^ b < 2 ^ 31 := Nat.pow_lt_pow_right (by decide) hb
  have h := ga_shlN (a := 1) (y := b) (by omega) (by omega)
  rw [Nat.one_mul] at h
  refine h.trans ?_
  congr 1
end
section
/-! Piece: chords, who is in, rest, balance -/
/-- k is the place of a Piece, k + 1 that of its notes -/
def gp_K (F : Nat → Nat → Option Nat) (k : Nat) : Prop := gw_sh k = (1, 5) ∧ gw_sh (k + 1) = (10, 24) ∧ k + 1 < 114 ∧ F k 4 = some (k + 1)
/-- notes: -1 .. 60 -/
def gp_N (N : Nat → Int) : Prop := ∀ i, i < 24 → -1 ≤ N i ∧ N i ≤ 60
abbrev gw_pu (r : Int) (μ : gw_M) : Option gw_V → gw_M → Prop := fun v μ' => v = some (.inl r) ∧ μ' = μ
/-- a void call: the ints become so -/
abbrev gw_vo (F : Nat → Nat → Option Nat) (Q : (Nat → Nat → Int) → Prop) : Option gw_V → gw_M → Prop := fun v μ' => v = none ∧ ∃ I' : Nat → Nat → Int, μ' = (114, I', F) ∧ Q I'
/-- a call that answers an int -/
abbrev gw_io (F : Nat → Nat → Option Nat) (Q : Int → (Nat → Nat → Int) → Prop) : Option gw_V → gw_M → Prop := fun v μ' => ∃ (r : Int) (I' : Nat → Nat → Int), v = some (.inl r) ∧ μ' = (114, I', F) ∧ Q r I'
/-- how many notes a chord has -/
def gp_cnt (N : Nat → Int) (c : Nat) : Nat := if N (3 * c + 0) = -1 then 0 else if N (3 * c + 1) = -1 then 1 else if N (3 * c + 2) = -1 then 2 else 3
/-- the lowest, the highest note of a hand (0 .. 7) -/
def gp_lo (N : Nat → Int) (c h : Nat) : Int := if h % 2 = 1 then N (3 * c + 0) else if h / 2 % 2 = 1 then N (3 * c + 1) else if h / 4 % 2 = 1 then N (3 * c + 2) else -1
def gp_hi (N : Nat → Int) (c h : Nat) : Int := if h / 4 % 2 = 1 then N (3 * c + 2) else if h / 2 % 2 = 1 then N (3 * c + 1) else if h % 2 = 1 then N (3 * c + 0) else -1
theorem ga_bit {h i : Nat} (hh : h < 2147483648) (hi : i < 32) : Int32.ofInt (h : Int) >>> (Int32.ofInt (i : Int) &&& 31) = Int32.ofInt ((h / 2 ^ i : Nat) : Int) := ga_shrN hh hi
theorem ga_bit1 (x : Nat) : Int32.ofInt (x : Int) &&& Int32.ofInt 1 = Int32.ofInt ((x % 2 : Nat) : Int) := by
  have h := ga_andN x 1
  rw [Nat.and_one_is_mod] at h
  exact h
section GP
variable {I : Nat → Nat → Int} {F : Nat → Nat → Option Nat} {k : Nat}
theorem c_noteAt {c i : Nat} (d : Nat) (hk : gp_K F k) (hc : c < 8) (hi : i < 3) : gw_Met jX1_noteAt d [.inr (some k), .inl (c : Int), .inl (i : Int)] (114, I, F) (gw_pu (I (k + 1) (3 * c + i)) (114, I, F)) := by
  obtain ⟨hk1, hk2, hk3, hk4⟩ := hk
  refine gw_enter okX1_noteAt rfl (Nat.le_of_ble_eq_true rfl) ?_
  refine gr_aload_n dX1_noteAt_0 rfl ?_
  refine gr_getR dX1_noteAt_1 fX1_24 (by first | assumption | rfl) (by omega) (by decide) rfl (by assumption) ?_
  refine gr_iload_n dX1_noteAt_4 rfl ?_
  refine gr_iconst dX1_noteAt_5 ?_
  refine gr_imul dX1_noteAt_6 rfl ?_
  refine gr_iload_n dX1_noteAt_7 rfl ?_
  refine gr_iadd dX1_noteAt_8 rfl ?_
  refine gr_iald (i := 3 * c + i) dX1_noteAt_9 (by first | assumption | rfl) (by omega) (by omega) (by omega) (by decide) ?_
  refine gr_iret dX1_noteAt_10 (by first | exact Or.inl rfl | exact Or.inr ⟨rfl, by omega⟩) (by decide) (by decide) (⟨rfl, rfl⟩)
theorem c_notesOf {c : Nat} (d : Nat) (hk : gp_K F k) (hc : c < 8) (hN : gp_N (I (k + 1))) : gw_Met jX1_notesOf (d + 1) [.inr (some k), .inl (c : Int)] (114, I, F) (gw_pu (gp_cnt (I (k + 1)) c : Nat) (114, I, F)) := by
  have hk' := hk
  obtain ⟨hk1, hk2, hk3, hk4⟩ := hk
  refine gw_enter okX1_notesOf rfl (Nat.le_of_ble_eq_true rfl) ?_
  refine gr_iconst dX1_notesOf_0 ?_
  refine gr_istore_n dX1_notesOf_1 (by decide) ?_
  have key : ∀ (n i : Nat), i + n = 3 → (∀ j, j < i → I (k + 1) (3 * c + j) ≠ -1) → gw_G (gw_Cm jX1_notesOf (d + 1) (gw_pu (gp_cnt (I (k + 1)) c : Nat) (114, I, F))) jX1_notesOf 2 [some (.inr (some k)), some (.inl (c : Int)), some (.inl (i : Int))] [] (114, I, F) 0 0 := by
    intro n
    induction n with
    | zero =>
      intro i hi hj
      refine gr_iload_n dX1_notesOf_2 rfl ?_
      refine gr_iconst dX1_notesOf_3 ?_
      refine gr_icmp_ge 23 dX1_notesOf_4 (by decide) (by unfold gw_in; omega) (by unfold gw_in; omega) (fun h => ?_) (fun h => ?_)
      · refine gr_iload_n dX1_notesOf_23 rfl ?_
        have e : gp_cnt (I (k + 1)) c = i := by
          unfold gp_cnt
          rw [if_neg (hj 0 (by omega)), if_neg (hj 1 (by omega)), if_neg (hj 2 (by omega))]
          omega
        refine gr_iret dX1_notesOf_24 (by first | exact Or.inl rfl | exact Or.inr ⟨rfl, by omega⟩) (by decide) (by decide) (⟨by rw [e], rfl⟩)
      · omega
    | succ n ih =>
      intro i hi hj
      refine gr_iload_n dX1_notesOf_2 rfl ?_
      refine gr_iconst dX1_notesOf_3 ?_
      refine gr_icmp_ge 23 dX1_notesOf_4 (by decide) (by unfold gw_in; omega) (by unfold gw_in; omega) (fun h => ?_) (fun h => ?_)
      · omega
      · refine gr_aload_n dX1_notesOf_7 rfl ?_
        refine gr_iload_n dX1_notesOf_8 rfl ?_
        refine gr_iload_n dX1_notesOf_9 rfl ?_
        refine gr_virt dX1_notesOf_10 kX1_28 (as := [_, _]) rfl rfl (by first | assumption | rfl) (by omega) (Nat.le_of_ble_eq_true rfl) (gw_Rm_m (by omega) (by decide) (by decide)) (c_noteAt d hk' hc (show i < 3 by omega)) ?_
        rintro _ _ ⟨rfl, rfl⟩
        refine gr_iconst dX1_notesOf_13 ?_
        have hin := hN (3 * c + i) (by omega)
        refine gr_icmp_eq 23 dX1_notesOf_14 (by decide) (by unfold gw_in; omega) (by unfold gw_in; omega) (fun h14 => ?_) (fun h14 => ?_)
        · refine gr_iload_n dX1_notesOf_23 rfl ?_
          have e : gp_cnt (I (k + 1)) c = i := by
            unfold gp_cnt
            rcases (show i = 0 ∨ i = 1 ∨ i = 2 by omega) with rfl | rfl | rfl
            · rw [if_pos h14]
            · rw [if_neg (hj 0 (by omega)), if_pos h14]
            · rw [if_neg (hj 0 (by omega)), if_neg (hj 1 (by omega)), if_pos h14]
          refine gr_iret dX1_notesOf_24 (by first | exact Or.inl rfl | exact Or.inr ⟨rfl, by omega⟩) (by decide) (by decide) (⟨by rw [e], rfl⟩)
        · refine gr_iinc (v := ((i + 1 : Nat) : Int)) dX1_notesOf_17 (by decide) rfl (by omega) ?_
          refine gr_goto 2 dX1_notesOf_20 (by decide) ?_
          exact ih (i + 1) (by omega) (fun j hj2 => by
            rcases Nat.lt_succ_iff_lt_or_eq.mp hj2 with h | h
            · exact hj j h
            · rw [h]; exact h14)
  exact key 3 0 rfl (fun j hj => absurd hj (by omega))
theorem c_isThat {c : Nat} {x y z : Int} (d : Nat) (hk : gp_K F k) (hc : c < 8) (hN : gp_N (I (k + 1))) (hx : gw_in x) (hy : gw_in y) (hz : gw_in z) : gw_Met jX1_isThat (d + 1) [.inr (some k), .inl (c : Int), .inl x, .inl y, .inl z] (114, I, F) (gw_pu (if I (k + 1) (3 * c + 0) = x ∧ I (k + 1) (3 * c + 1) = y ∧ I (k + 1) (3 * c + 2) = z then 1 else 0) (114, I, F)) := by
  have hk' := hk
  obtain ⟨hk1, hk2, hk3, hk4⟩ := hk
  unfold gw_in at hx hy hz
  have h0 := hN (3 * c + 0) (by omega)
  have h1 := hN (3 * c + 1) (by omega)
  have h2 := hN (3 * c + 2) (by omega)
  refine gw_enter okX1_isThat rfl (Nat.le_of_ble_eq_true rfl) ?_
  refine gr_aload_n dX1_isThat_0 rfl ?_
  refine gr_iload_n dX1_isThat_1 rfl ?_
  refine gr_iconst dX1_isThat_2 ?_
  refine gr_virt dX1_isThat_3 kX1_28 (as := [_, _]) rfl rfl (by first | assumption | rfl) (by omega) (Nat.le_of_ble_eq_true rfl) (gw_Rm_m (by omega) (by decide) (by decide)) (c_noteAt (i := 0) d hk' hc (by omega)) ?_
  rintro _ _ ⟨rfl, rfl⟩
  refine gr_iload_n dX1_isThat_6 rfl ?_
  refine gr_icmp_ne 35 dX1_isThat_7 (by decide) (by unfold gw_in; omega) (by unfold gw_in; omega) (fun a => ?_) (fun a => ?_)
  · refine gr_iconst dX1_isThat_35 ?_
    refine gr_iret dX1_isThat_36 (by first | exact Or.inl rfl | exact Or.inr ⟨rfl, by omega⟩) (by decide) (by decide) (⟨by rw [if_neg (fun h => a h.1)], rfl⟩)
  · refine gr_aload_n dX1_isThat_10 rfl ?_
    refine gr_iload_n dX1_isThat_11 rfl ?_
    refine gr_iconst dX1_isThat_12 ?_
    refine gr_virt dX1_isThat_13 kX1_28 (as := [_, _]) rfl rfl (by first | assumption | rfl) (by omega) (Nat.le_of_ble_eq_true rfl) (gw_Rm_m (by omega) (by decide) (by decide)) (c_noteAt (i := 1) d hk' hc (by omega)) ?_
    rintro _ _ ⟨rfl, rfl⟩
    refine gr_iload_n dX1_isThat_16 rfl ?_
    refine gr_icmp_ne 35 dX1_isThat_17 (by decide) (by unfold gw_in; omega) (by unfold gw_in; omega) (fun b => ?_) (fun b => ?_)
    · refine gr_iconst dX1_isThat_35 ?_
      refine gr_iret dX1_isThat_36 (by first | exact Or.inl rfl | exact Or.inr ⟨rfl, by omega⟩) (by decide) (by decide) (⟨by rw [if_neg (fun h => b h.2.1)], rfl⟩)
    · refine gr_aload_n dX1_isThat_20 rfl ?_
      refine gr_iload_n dX1_isThat_21 rfl ?_
      refine gr_iconst dX1_isThat_22 ?_
      refine gr_virt dX1_isThat_23 kX1_28 (as := [_, _]) rfl rfl (by first | assumption | rfl) (by omega) (Nat.le_of_ble_eq_true rfl) (gw_Rm_m (by omega) (by decide) (by decide)) (c_noteAt (i := 2) d hk' hc (by omega)) ?_
      rintro _ _ ⟨rfl, rfl⟩
      refine gr_iload dX1_isThat_26 rfl ?_
      refine gr_icmp_ne 35 dX1_isThat_28 (by decide) (by unfold gw_in; omega) (by unfold gw_in; omega) (fun c => ?_) (fun c => ?_)
      · refine gr_iconst dX1_isThat_35 ?_
        refine gr_iret dX1_isThat_36 (by first | exact Or.inl rfl | exact Or.inr ⟨rfl, by omega⟩) (by decide) (by decide) (⟨by rw [if_neg (fun h => c h.2.2)], rfl⟩)
      · refine gr_iconst dX1_isThat_31 ?_
        refine gr_goto 36 dX1_isThat_32 (by decide) ?_
        refine gr_iret dX1_isThat_36 (by first | exact Or.inl rfl | exact Or.inr ⟨rfl, by omega⟩) (by decide) (by decide) (⟨by rw [if_pos ⟨a, b, c⟩], rfl⟩)
theorem c_lowestOf {c h : Nat} (d : Nat) (hk : gp_K F k) (hc : c < 8) (hh : h < 8) : gw_Met jX1_lowestOf (d + 1) [.inr (some k), .inl (c : Int), .inl (h : Int)] (114, I, F) (gw_pu (gp_lo (I (k + 1)) c h) (114, I, F)) := by
  have hk' := hk
  obtain ⟨hk1, hk2, hk3, hk4⟩ := hk
  refine gw_enter okX1_lowestOf rfl (Nat.le_of_ble_eq_true rfl) ?_
  refine gr_iconst dX1_lowestOf_0 ?_
  refine gr_istore_n dX1_lowestOf_1 (by decide) ?_
  have key : ∀ (n i : Nat), i + n = 3 → (∀ j, j < i → h / 2 ^ j % 2 ≠ 1) → gw_G (gw_Cm jX1_lowestOf (d + 1) (gw_pu (gp_lo (I (k + 1)) c h) (114, I, F))) jX1_lowestOf 2 [some (.inr (some k)), some (.inl (c : Int)), some (.inl (h : Int)), some (.inl (i : Int))] [] (114, I, F) 0 0 := by
    intro n
    induction n with
    | zero =>
      intro i hi hj
      have h0 := hj 0 (by omega)
      have h1 := hj 1 (by omega)
      have h2 := hj 2 (by omega)
      refine gr_iload_n dX1_lowestOf_2 rfl ?_
      refine gr_iconst dX1_lowestOf_3 ?_
      refine gr_icmp_ge 29 dX1_lowestOf_4 (by decide) (by unfold gw_in; omega) (by unfold gw_in; omega) (fun h4 => ?_) (fun h4 => ?_)
      · refine gr_iconst dX1_lowestOf_29 ?_
        refine gr_iret dX1_lowestOf_30 (by first | exact Or.inl rfl | exact Or.inr ⟨rfl, by omega⟩) (by decide) (by decide) (⟨by unfold gp_lo; grind, rfl⟩)
      · omega
    | succ n ih =>
      intro i hi hj
      refine gr_iload_n dX1_lowestOf_2 rfl ?_
      refine gr_iconst dX1_lowestOf_3 ?_
      refine gr_icmp_ge 29 dX1_lowestOf_4 (by decide) (by unfold gw_in; omega) (by unfold gw_in; omega) (fun h4 => ?_) (fun h4 => ?_)
      · omega
      · refine gr_iload_n dX1_lowestOf_7 rfl ?_
        refine gr_iload_n dX1_lowestOf_8 rfl ?_
        refine gr_ishr (v := ((h / 2 ^ i : Nat) : Int)) dX1_lowestOf_9 (ga_bit (by omega) (by omega)) ?_
        refine gr_iconst dX1_lowestOf_10 ?_
        refine gr_iand (v := ((h / 2 ^ i % 2 : Nat) : Int)) dX1_lowestOf_11 (ga_bit1 _) ?_
        refine gr_iconst dX1_lowestOf_12 ?_
        refine gr_icmp_ne 23 dX1_lowestOf_13 (by decide) (by unfold gw_in; omega) (by unfold gw_in; omega) (fun h13 => ?_) (fun h13 => ?_)
        · refine gr_iinc (v := ((i + 1 : Nat) : Int)) dX1_lowestOf_23 (by decide) rfl (by omega) ?_
          refine gr_goto 2 dX1_lowestOf_26 (by decide) ?_
          exact ih (i + 1) (by omega) (fun j hj2 => by
            rcases Nat.lt_succ_iff_lt_or_eq.mp hj2 with h | h
            · exact hj j h
            · subst h; omega)
        · refine gr_aload_n dX1_lowestOf_16 rfl ?_
          refine gr_iload_n dX1_lowestOf_17 rfl ?_
          refine gr_iload_n dX1_lowestOf_18 rfl ?_
          refine gr_virt dX1_lowestOf_19 kX1_28 (as := [_, _]) rfl rfl (by first | assumption | rfl) (by omega) (Nat.le_of_ble_eq_true rfl) (gw_Rm_m (by omega) (by decide) (by decide)) (c_noteAt (i := i) d hk' hc (by omega)) ?_
          rintro _ _ ⟨rfl, rfl⟩
          have e : gp_lo (I (k + 1)) c h = I (k + 1) (3 * c + i) := by
            unfold gp_lo
            rcases (show i = 0 ∨ i = 1 ∨ i = 2 by omega) with rfl | rfl | rfl
            · grind
            · have h0 := hj 0 (by omega)
              grind
            · have h0 := hj 0 (by omega)
              have h1 := hj 1 (by omega)
              grind
          refine gr_iret dX1_lowestOf_22 (by first | exact Or.inl rfl | exact Or.inr ⟨rfl, by omega⟩) (by decide) (by decide) (⟨by rw [e], rfl⟩)
  exact key 3 0 rfl (fun j hj => absurd hj (by omega))
theorem c_highestOf {c h : Nat} (d : Nat) (hk : gp_K F k) (hc : c < 8) (hh : h < 8) : gw_Met jX1_highestOf (d + 1) [.inr (some k), .inl (c : Int), .inl (h : Int)] (114, I, F) (gw_pu (gp_hi (I (k + 1)) c h) (114, I, F)) := by
  have hk' := hk
  obtain ⟨hk1, hk2, hk3, hk4⟩ := hk
  refine gw_enter okX1_highestOf rfl (Nat.le_of_ble_eq_true rfl) ?_
  refine gr_iconst dX1_highestOf_0 ?_
  refine gr_istore_n dX1_highestOf_1 (by decide) ?_
  have key : ∀ (n : Nat), n ≤ 3 → (∀ j, n ≤ j → j < 3 → h / 2 ^ j % 2 ≠ 1) → gw_G (gw_Cm jX1_highestOf (d + 1) (gw_pu (gp_hi (I (k + 1)) c h) (114, I, F))) jX1_highestOf 2 [some (.inr (some k)), some (.inl (c : Int)), some (.inl (h : Int)), some (.inl ((n : Int) - 1))] [] (114, I, F) 0 0 := by
    intro n
    induction n with
    | zero =>
      intro hi hj
      have h0 := hj 0 (by omega) (by omega)
      have h1 := hj 1 (by omega) (by omega)
      have h2 := hj 2 (by omega) (by omega)
      refine gr_iload_n dX1_highestOf_2 rfl ?_
      refine gr_if_lt 28 dX1_highestOf_3 (by decide) (by unfold gw_in; omega) (fun h3 => ?_) (fun h3 => ?_)
      · refine gr_iconst dX1_highestOf_28 ?_
        refine gr_iret dX1_highestOf_29 (by first | exact Or.inl rfl | exact Or.inr ⟨rfl, by omega⟩) (by decide) (by decide) (⟨by unfold gp_hi; grind, rfl⟩)
      · omega
    | succ n ih =>
      intro hi hj
      have e1 : ((n + 1 : Nat) : Int) - 1 = (n : Int) := by omega
      rw [e1]
      refine gr_iload_n dX1_highestOf_2 rfl ?_
      refine gr_if_lt 28 dX1_highestOf_3 (by decide) (by unfold gw_in; omega) (fun h3 => ?_) (fun h3 => ?_)
      · omega
      · refine gr_iload_n dX1_highestOf_6 rfl ?_
        refine gr_iload_n dX1_highestOf_7 rfl ?_
        refine gr_ishr (v := ((h / 2 ^ n : Nat) : Int)) dX1_highestOf_8 (ga_bit (by omega) (by omega)) ?_
        refine gr_iconst dX1_highestOf_9 ?_
        refine gr_iand (v := ((h / 2 ^ n % 2 : Nat) : Int)) dX1_highestOf_10 (ga_bit1 _) ?_
        refine gr_iconst dX1_highestOf_11 ?_
        refine gr_icmp_ne 22 dX1_highestOf_12 (by decide) (by unfold gw_in; omega) (by unfold gw_in; omega) (fun h12 => ?_) (fun h12 => ?_)
        · refine gr_iinc (v := (n : Int) - 1) dX1_highestOf_22 (by decide) rfl (by omega) ?_
          refine gr_goto 2 dX1_highestOf_25 (by decide) ?_
          exact ih (by omega) (fun j hj1 hj2 => by
            by_cases h : j = n
            · subst h; omega
            · exact hj j (by omega) hj2)
        · refine gr_aload_n dX1_highestOf_15 rfl ?_
          refine gr_iload_n dX1_highestOf_16 rfl ?_
          refine gr_iload_n dX1_highestOf_17 rfl ?_
          refine gr_virt dX1_highestOf_18 kX1_28 (as := [_, _]) rfl rfl (by first | assumption | rfl) (by omega) (Nat.le_of_ble_eq_true rfl) (gw_Rm_m (by omega) (by decide) (by decide)) (c_noteAt (i := n) d hk' hc (by omega)) ?_
          rintro _ _ ⟨rfl, rfl⟩
          have e : gp_hi (I (k + 1)) c h = I (k + 1) (3 * c + n) := by
            unfold gp_hi
            rcases (show n = 0 ∨ n = 1 ∨ n = 2 by omega) with rfl | rfl | rfl
            · have h2 := hj 2 (by omega) (by omega)
              have h1 := hj 1 (by omega) (by omega)
              grind
            · have h2 := hj 2 (by omega) (by omega)
              grind
            · grind
          refine gr_iret dX1_highestOf_21 (by first | exact Or.inl rfl | exact Or.inr ⟨rfl, by omega⟩) (by decide) (by decide) (⟨by rw [e], rfl⟩)
  exact key 3 (by omega) (fun j hj hj2 => absurd hj (by omega))
theorem c_pempty (d : Nat) (hk : gp_K F k) : gw_Met jX1_empty d [.inr (some k)] (114, I, F) (gw_vo F (fun I' => I' = gw_U (gw_U (gw_U (gw_U I k 0 0) k 1 0) k 2 5) k 3 9)) := by
  obtain ⟨hk1, hk2, hk3, hk4⟩ := hk
  refine gw_enter okX1_empty rfl (Nat.le_of_ble_eq_true rfl) ?_
  refine gr_aload_n dX1_empty_0 rfl ?_
  refine gr_iconst dX1_empty_1 ?_
  refine gr_putI dX1_empty_2 fX1_9 (by first | assumption | rfl) (by omega) (Or.inl rfl) rfl ?_
  refine gr_aload_n dX1_empty_5 rfl ?_
  refine gr_iconst dX1_empty_6 ?_
  refine gr_putI dX1_empty_7 fX1_15 (by first | assumption | rfl) (by omega) (Or.inl rfl) rfl ?_
  refine gr_aload_n dX1_empty_10 rfl ?_
  refine gr_iconst dX1_empty_11 ?_
  refine gr_putI dX1_empty_12 fX1_18 (by first | assumption | rfl) (by omega) (Or.inl rfl) rfl ?_
  refine gr_aload_n dX1_empty_15 rfl ?_
  refine gr_bipush dX1_empty_16 (by decide) ?_
  refine gr_putI dX1_empty_18 fX1_21 (by first | assumption | rfl) (by omega) (Or.inl rfl) rfl ?_
  refine gr_vret dX1_empty_21 rfl (by decide) (by decide) (⟨rfl, _, rfl, rfl⟩)
theorem c_put {c : Nat} {x y z : Int} (d : Nat) (hk : gp_K F k) (hc : c < 8) (hs : (c : Int) ≤ I k 0) (hs8 : I k 0 ≤ 8) : gw_Met jX1_put d [.inr (some k), .inl (c : Int), .inl x, .inl y, .inl z] (114, I, F) (gw_vo F (fun I' => ∀ a b, I' a b = if a = k ∧ b = 0 then (if (c : Int) = I k 0 then I k 0 + 1 else I k 0) else if a = k + 1 ∧ b = 3 * c then x else if a = k + 1 ∧ b = 3 * c + 1 then y else if a = k + 1 ∧ b = 3 * c + 2 then z else I a b)) := by
  obtain ⟨hk1, hk2, hk3, hk4⟩ := hk
  refine gw_enter okX1_put rfl (Nat.le_of_ble_eq_true rfl) ?_
  refine gr_iload_n dX1_put_0 rfl ?_
  refine gr_if_lt 18 dX1_put_1 (by decide) (by unfold gw_in; omega) (fun h1 => ?_) (fun h1 => ?_)
  · omega
  · refine gr_iload_n dX1_put_4 rfl ?_
    refine gr_aload_n dX1_put_5 rfl ?_
    refine gr_getI dX1_put_6 fX1_9 (by first | assumption | rfl) (by omega) (by decide) rfl ?_
    refine gr_icmp_gt 18 dX1_put_9 (by decide) (by unfold gw_in; omega) (by unfold gw_in; omega) (fun h9 => ?_) (fun h9 => ?_)
    · omega
    · refine gr_iload_n dX1_put_12 rfl ?_
      refine gr_bipush dX1_put_13 (by decide) ?_
      refine gr_icmp_lt 19 dX1_put_15 (by decide) (by unfold gw_in; omega) (by unfold gw_in; omega) (fun h15 => ?_) (fun h15 => ?_)
      · refine gr_aload_n dX1_put_19 rfl ?_
        refine gr_getR dX1_put_20 fX1_24 (by first | assumption | rfl) (by omega) (by decide) rfl (by assumption) ?_
        refine gr_iload_n dX1_put_23 rfl ?_
        refine gr_iconst dX1_put_24 ?_
        refine gr_imul dX1_put_25 rfl ?_
        refine gr_iload_n dX1_put_26 rfl ?_
        refine gr_iast (i := 3 * c) dX1_put_27 (by first | assumption | rfl) (by omega) (by omega) (by omega) (by decide) ?_
        refine gr_aload_n dX1_put_28 rfl ?_
        refine gr_getR dX1_put_29 fX1_24 (by first | assumption | rfl) (by omega) (by decide) rfl (by assumption) ?_
        refine gr_iload_n dX1_put_32 rfl ?_
        refine gr_iconst dX1_put_33 ?_
        refine gr_imul dX1_put_34 rfl ?_
        refine gr_iconst dX1_put_35 ?_
        refine gr_iadd dX1_put_36 rfl ?_
        refine gr_iload_n dX1_put_37 rfl ?_
        refine gr_iast (i := 3 * c + 1) dX1_put_38 (by first | assumption | rfl) (by omega) (by omega) (by omega) (by decide) ?_
        refine gr_aload_n dX1_put_39 rfl ?_
        refine gr_getR dX1_put_40 fX1_24 (by first | assumption | rfl) (by omega) (by decide) rfl (by assumption) ?_
        refine gr_iload_n dX1_put_43 rfl ?_
        refine gr_iconst dX1_put_44 ?_
        refine gr_imul dX1_put_45 rfl ?_
        refine gr_iconst dX1_put_46 ?_
        refine gr_iadd dX1_put_47 rfl ?_
        refine gr_iload dX1_put_48 rfl ?_
        refine gr_iast (i := 3 * c + 2) dX1_put_50 (by first | assumption | rfl) (by omega) (by omega) (by omega) (by decide) ?_
        refine gr_iload_n dX1_put_51 rfl ?_
        refine gr_aload_n dX1_put_52 rfl ?_
        refine gr_getI dX1_put_53 fX1_9 (by first | assumption | rfl) (by omega) (by decide) rfl ?_
        have e0 : gw_U (gw_U (gw_U I (k + 1) (3 * c) x) (k + 1) (3 * c + 1) y) (k + 1) (3 * c + 2) z k 0 = I k 0 := by
          simp [gw_U]
        rw [e0]
        refine gr_icmp_ne 69 dX1_put_56 (by decide) (by unfold gw_in; omega) (by unfold gw_in; omega) (fun h56 => ?_) (fun h56 => ?_)
        · refine gr_vret dX1_put_69 rfl (by decide) (by decide) (⟨rfl, _, rfl, fun a b => by unfold gw_U; grind⟩)
        · refine gr_aload_n dX1_put_59 rfl ?_
          refine gr_dup dX1_put_60 ?_
          refine gr_getI dX1_put_61 fX1_9 (by first | assumption | rfl) (by omega) (by decide) rfl ?_
          refine gr_iconst dX1_put_64 ?_
          refine gr_iadd dX1_put_65 rfl ?_
          refine gr_putI dX1_put_66 fX1_9 (by first | assumption | rfl) (by omega) (Or.inl rfl) rfl ?_
          refine gr_vret dX1_put_69 rfl (by decide) (by decide) (⟨rfl, _, rfl, fun a b => by rw [e0]; unfold gw_U; grind⟩)
      · omega
theorem c_take {c : Nat} (d : Nat) (hk : gp_K F k) (hs : (c : Int) < I k 0) (hs8 : I k 0 ≤ 8) : gw_Met jX1_take d [.inr (some k), .inl (c : Int)] (114, I, F) (gw_vo F (fun I' => ∀ a b, I' a b = if a = k ∧ b = 0 then I k 0 - 1 else if a = k + 1 ∧ 3 * c ≤ b ∧ (b : Int) < 3 * (I k 0 - 1) then I (k + 1) (b + 3) else I a b)) := by
  obtain ⟨hk1, hk2, hk3, hk4⟩ := hk
  refine gw_enter okX1_take rfl (Nat.le_of_ble_eq_true rfl) ?_
  refine gr_iload_n dX1_take_0 rfl ?_
  refine gr_iconst dX1_take_1 ?_
  refine gr_imul (v := ((3 * c : Nat) : Int)) dX1_take_2 (by omega) ?_
  refine gr_istore_n dX1_take_3 (by decide) ?_
  have key : ∀ (n i : Nat) (I2 : Nat → Nat → Int), (i : Int) + n = 3 * (I k 0 - 1) → 3 * c ≤ i → (∀ a b, I2 a b = if a = k + 1 ∧ 3 * c ≤ b ∧ b < i then I (k + 1) (b + 3) else I a b) → gw_G (gw_Cm jX1_take d (gw_vo F (fun I' => ∀ a b, I' a b = if a = k ∧ b = 0 then I k 0 - 1 else if a = k + 1 ∧ 3 * c ≤ b ∧ (b : Int) < 3 * (I k 0 - 1) then I (k + 1) (b + 3) else I a b))) jX1_take 4 [some (.inr (some k)), some (.inl (c : Int)), some (.inl (i : Int))] [] (114, I2, F) 0 0 := by
    intro n
    induction n with
    | zero =>
      intro i I2 hi hci hI
      have e0 : I2 k 0 = I k 0 := by rw [hI]; grind
      refine gr_iload_n dX1_take_4 rfl ?_
      refine gr_aload_n dX1_take_5 rfl ?_
      refine gr_getI dX1_take_6 fX1_9 (by first | assumption | rfl) (by omega) (by decide) rfl ?_
      refine gr_iconst dX1_take_9 ?_
      refine gr_isub dX1_take_10 rfl ?_
      refine gr_iconst dX1_take_11 ?_
      refine gr_imul dX1_take_12 rfl ?_
      rw [e0]
      refine gr_icmp_ge 36 dX1_take_13 (by decide) (by unfold gw_in; omega) (by unfold gw_in; omega) (fun h13 => ?_) (fun h13 => ?_)
      · refine gr_aload_n dX1_take_36 rfl ?_
        refine gr_dup dX1_take_37 ?_
        refine gr_getI dX1_take_38 fX1_9 (by first | assumption | rfl) (by omega) (by decide) rfl ?_
        refine gr_iconst dX1_take_41 ?_
        refine gr_isub dX1_take_42 rfl ?_
        refine gr_putI dX1_take_43 fX1_9 (by first | assumption | rfl) (by omega) (Or.inl rfl) rfl ?_
        refine gr_vret dX1_take_46 rfl (by decide) (by decide) (⟨rfl, _, rfl, fun a b => by unfold gw_U; grind⟩)
      · omega
    | succ n ih =>
      intro i I2 hi hci hI
      have e0 : I2 k 0 = I k 0 := by rw [hI]; grind
      refine gr_iload_n dX1_take_4 rfl ?_
      refine gr_aload_n dX1_take_5 rfl ?_
      refine gr_getI dX1_take_6 fX1_9 (by first | assumption | rfl) (by omega) (by decide) rfl ?_
      refine gr_iconst dX1_take_9 ?_
      refine gr_isub dX1_take_10 rfl ?_
      refine gr_iconst dX1_take_11 ?_
      refine gr_imul dX1_take_12 rfl ?_
      rw [e0]
      refine gr_icmp_ge 36 dX1_take_13 (by decide) (by unfold gw_in; omega) (by unfold gw_in; omega) (fun h13 => ?_) (fun h13 => ?_)
      · omega
      · refine gr_aload_n dX1_take_16 rfl ?_
        refine gr_getR dX1_take_17 fX1_24 (by first | assumption | rfl) (by omega) (by decide) rfl (by assumption) ?_
        refine gr_iload_n dX1_take_20 rfl ?_
        refine gr_aload_n dX1_take_21 rfl ?_
        refine gr_getR dX1_take_22 fX1_24 (by first | assumption | rfl) (by omega) (by decide) rfl (by assumption) ?_
        refine gr_iload_n dX1_take_25 rfl ?_
        refine gr_iconst dX1_take_26 ?_
        refine gr_iadd dX1_take_27 rfl ?_
        refine gr_iald (i := i + 3) dX1_take_28 (by first | assumption | rfl) (by omega) (by omega) (by omega) (by decide) ?_
        refine gr_iast (i := i) dX1_take_29 (by first | assumption | rfl) (by omega) (by omega) (by omega) (by decide) ?_
        refine gr_iinc (v := ((i + 1 : Nat) : Int)) dX1_take_30 (by decide) rfl (by omega) ?_
        refine gr_goto 4 dX1_take_33 (by decide) ?_
        exact ih (i + 1) _ (by omega) (by omega) (fun a b => by unfold gw_U; grind)
  exact key (3 * (I k 0 - 1) - 3 * c).toNat (3 * c) I (by omega) (by omega) (fun a b => by grind)
theorem c_pbecome {o : Nat} (d : Nat) (hk : gp_K F k) (ho : gp_K F o) (hko : k ≠ o) (hko1 : k ≠ o + 1) (hko2 : k + 1 ≠ o) (hs : 0 ≤ I o 0) (hs8 : I o 0 ≤ 8) : gw_Met jX1_become d [.inr (some k), .inr (some o)] (114, I, F) (gw_vo F (fun I' => ∀ a b, I' a b = if a = k ∧ b < 4 then I o b else if a = k + 1 ∧ (b : Int) < 3 * I o 0 then I (o + 1) b else I a b)) := by
  obtain ⟨hk1, hk2, hk3, hk4⟩ := hk
  obtain ⟨ho1, ho2, ho3, ho4⟩ := ho
  refine gw_enter okX1_become rfl (Nat.le_of_ble_eq_true rfl) ?_
  refine gr_aload_n dX1_become_0 rfl ?_
  refine gr_aload_n dX1_become_1 rfl ?_
  refine gr_getI dX1_become_2 fX1_9 (by first | assumption | rfl) (by omega) (by decide) rfl ?_
  refine gr_putI dX1_become_5 fX1_9 (by first | assumption | rfl) (by omega) (Or.inl rfl) rfl ?_
  refine gr_aload_n dX1_become_8 rfl ?_
  refine gr_aload_n dX1_become_9 rfl ?_
  refine gr_getI dX1_become_10 fX1_15 (by first | assumption | rfl) (by omega) (by decide) rfl ?_
  refine gr_putI dX1_become_13 fX1_15 (by first | assumption | rfl) (by omega) (Or.inl rfl) rfl ?_
  refine gr_aload_n dX1_become_16 rfl ?_
  refine gr_aload_n dX1_become_17 rfl ?_
  refine gr_getI dX1_become_18 fX1_18 (by first | assumption | rfl) (by omega) (by decide) rfl ?_
  refine gr_putI dX1_become_21 fX1_18 (by first | assumption | rfl) (by omega) (Or.inl rfl) rfl ?_
  refine gr_aload_n dX1_become_24 rfl ?_
  refine gr_aload_n dX1_become_25 rfl ?_
  refine gr_getI dX1_become_26 fX1_21 (by first | assumption | rfl) (by omega) (by decide) rfl ?_
  refine gr_putI dX1_become_29 fX1_21 (by first | assumption | rfl) (by omega) (Or.inl rfl) rfl ?_
  refine gr_iconst dX1_become_32 ?_
  refine gr_istore_n dX1_become_33 (by decide) ?_
  have key : ∀ (n i : Nat) (I2 : Nat → Nat → Int), (i : Int) + n = 3 * I o 0 → (∀ a b, I2 a b = if a = k ∧ b < 4 then I o b else if a = k + 1 ∧ b < i then I (o + 1) b else I a b) → gw_G (gw_Cm jX1_become d (gw_vo F (fun I' => ∀ a b, I' a b = if a = k ∧ b < 4 then I o b else if a = k + 1 ∧ (b : Int) < 3 * I o 0 then I (o + 1) b else I a b))) jX1_become 34 [some (.inr (some k)), some (.inr (some o)), some (.inl (i : Int))] [] (114, I2, F) 0 0 := by
    intro n
    induction n with
    | zero =>
      intro i I2 hi hI
      have e0 : I2 k 0 = I o 0 := by rw [hI]; grind
      refine gr_iload_n dX1_become_34 rfl ?_
      refine gr_aload_n dX1_become_35 rfl ?_
      refine gr_getI dX1_become_36 fX1_9 (by first | assumption | rfl) (by omega) (by decide) rfl ?_
      refine gr_iconst dX1_become_39 ?_
      refine gr_imul dX1_become_40 rfl ?_
      rw [e0]
      refine gr_icmp_ge 62 dX1_become_41 (by decide) (by unfold gw_in; omega) (by unfold gw_in; omega) (fun h => ?_) (fun h => ?_)
      · refine gr_vret dX1_become_62 rfl (by decide) (by decide) (⟨rfl, _, rfl, fun a b => by grind⟩)
      · omega
    | succ n ih =>
      intro i I2 hi hI
      have e0 : I2 k 0 = I o 0 := by rw [hI]; grind
      refine gr_iload_n dX1_become_34 rfl ?_
      refine gr_aload_n dX1_become_35 rfl ?_
      refine gr_getI dX1_become_36 fX1_9 (by first | assumption | rfl) (by omega) (by decide) rfl ?_
      refine gr_iconst dX1_become_39 ?_
      refine gr_imul dX1_become_40 rfl ?_
      rw [e0]
      refine gr_icmp_ge 62 dX1_become_41 (by decide) (by unfold gw_in; omega) (by unfold gw_in; omega) (fun h => ?_) (fun h => ?_)
      · omega
      · refine gr_aload_n dX1_become_44 rfl ?_
        refine gr_getR dX1_become_45 fX1_24 (by first | assumption | rfl) (by omega) (by decide) rfl (by assumption) ?_
        refine gr_iload_n dX1_become_48 rfl ?_
        refine gr_aload_n dX1_become_49 rfl ?_
        refine gr_getR dX1_become_50 fX1_24 (by first | assumption | rfl) (by omega) (by decide) rfl (by assumption) ?_
        refine gr_iload_n dX1_become_53 rfl ?_
        refine gr_iald (i := i) dX1_become_54 (by first | assumption | rfl) (by omega) (by omega) (by omega) (by decide) ?_
        refine gr_iast (i := i) dX1_become_55 (by first | assumption | rfl) (by omega) (by omega) (by omega) (by decide) ?_
        refine gr_iinc (v := ((i + 1 : Nat) : Int)) dX1_become_56 (by decide) rfl (by omega) ?_
        refine gr_goto 34 dX1_become_59 (by decide) ?_
        exact ih (i + 1) _ (by omega) (fun a b => by unfold gw_U; grind)
  exact key (3 * I o 0).toNat 0 _ (by omega) (fun a b => by unfold gw_U; grind)
end GP
end
section
/-! Integer.bitCount of small numbers; Band: the players -/
def gb_pc (n : Nat) : Nat := n % 2 + n / 2 % 2 + n / 4 % 2 + n / 8 % 2
theorem ga_ushrN {a y : Nat} (ha : a < 4294967296) (hy : y < 32) : ((Int32.ofInt (a : Int)).toUInt32 >>> ((Int32.ofInt (y : Int)).toUInt32 &&& Int32.toUInt32 31)).toInt32 = Int32.ofInt ((a / 2 ^ y : Nat) : Int) := by
  rw [ga_n, ga_n (a / 2 ^ y)]
  refine pk_ushrN ha _ y ?_
  have : ∀ y : Nat, y < 32 → (((Int32.ofInt (y : Int)).toUInt32 &&& Int32.toUInt32 31).toBitVec % 32).toNat = y := by decide +kernel
  exact this y hy
def gb_b1 (n : Nat) : Nat := n - (n / 2 ^ 1 &&& 1431655765)
def gb_b2 (n : Nat) : Nat := (gb_b1 n &&& 858993459) + (gb_b1 n / 2 ^ 2 &&& 858993459)
def gb_b3 (n : Nat) : Nat := gb_b2 n + gb_b2 n / 2 ^ 4 &&& 252645135
def gb_b4 (n : Nat) : Nat := gb_b3 n + gb_b3 n / 2 ^ 8
def gb_b5 (n : Nat) : Nat := gb_b4 n + gb_b4 n / 2 ^ 16
theorem gb_bits : ∀ n, n < 16 → n / 2 ^ 1 &&& 1431655765 ≤ n ∧ gb_b1 n < 16 ∧ gb_b2 n < 256 ∧ gb_b3 n < 256 ∧ gb_b4 n < 256 ∧ gb_b5 n < 256 ∧ gb_b5 n &&& 63 = gb_pc n := by decide +kernel
theorem c_bitCount {n : Nat} {μ : gw_M} (d : Nat) (hn : n < 16) : gw_Met jJ6_bitCount_0f7a4 d [.inl (n : Int)] μ (gw_pu (gb_pc n : Nat) μ) := by
  obtain ⟨h1, h2, h3, h4, h5, h6, h7⟩ := gb_bits n hn
  refine gw_enter okJ6_bitCount_0f7a4 rfl (Nat.le_of_ble_eq_true rfl) ?_
  refine gr_iload_n dJ6_bitCount_0f7a4_0 rfl ?_
  refine gr_iload_n dJ6_bitCount_0f7a4_1 rfl ?_
  refine gr_iconst dJ6_bitCount_0f7a4_2 ?_
  refine gr_iushr (v := ((n / 2 ^ 1 : Nat) : Int)) dJ6_bitCount_0f7a4_3 (ga_ushrN (y := 1) (by omega) (by omega)) ?_
  refine gr_ldcw dJ6_bitCount_0f7a4_4 nJ6_265 ?_
  refine gr_iand (v := ((n / 2 ^ 1 &&& 1431655765 : Nat) : Int)) dJ6_bitCount_0f7a4_7 (ga_andN _ 1431655765) ?_
  refine gr_isub (v := ((gb_b1 n : Nat) : Int)) dJ6_bitCount_0f7a4_8 (by unfold gb_b1; omega) ?_
  refine gr_istore_n dJ6_bitCount_0f7a4_9 (by decide) ?_
  refine gr_iload_n dJ6_bitCount_0f7a4_10 rfl ?_
  refine gr_ldcw dJ6_bitCount_0f7a4_11 nJ6_266 ?_
  refine gr_iand (v := ((gb_b1 n &&& 858993459 : Nat) : Int)) dJ6_bitCount_0f7a4_14 (ga_andN _ 858993459) ?_
  refine gr_iload_n dJ6_bitCount_0f7a4_15 rfl ?_
  refine gr_iconst dJ6_bitCount_0f7a4_16 ?_
  refine gr_iushr (v := ((gb_b1 n / 2 ^ 2 : Nat) : Int)) dJ6_bitCount_0f7a4_17 (ga_ushrN (y := 2) (by omega) (by omega)) ?_
  refine gr_ldcw dJ6_bitCount_0f7a4_18 nJ6_266 ?_
  refine gr_iand (v := ((gb_b1 n / 2 ^ 2 &&& 858993459 : Nat) : Int)) dJ6_bitCount_0f7a4_21 (ga_andN _ 858993459) ?_
  refine gr_iadd (v := ((gb_b2 n : Nat) : Int)) dJ6_bitCount_0f7a4_22 (by unfold gb_b2; omega) ?_
  refine gr_istore_n dJ6_bitCount_0f7a4_23 (by decide) ?_
  refine gr_iload_n dJ6_bitCount_0f7a4_24 rfl ?_
  refine gr_iload_n dJ6_bitCount_0f7a4_25 rfl ?_
  refine gr_iconst dJ6_bitCount_0f7a4_26 ?_
  refine gr_iushr (v := ((gb_b2 n / 2 ^ 4 : Nat) : Int)) dJ6_bitCount_0f7a4_27 (ga_ushrN (y := 4) (by omega) (by omega)) ?_
  refine gr_iadd (v := ((gb_b2 n + gb_b2 n / 2 ^ 4 : Nat) : Int)) dJ6_bitCount_0f7a4_28 (by omega) ?_
  refine gr_ldcw dJ6_bitCount_0f7a4_29 nJ6_267 ?_
  refine gr_iand (v := ((gb_b3 n : Nat) : Int)) dJ6_bitCount_0f7a4_32 (ga_andN _ 252645135) ?_
  refine gr_istore_n dJ6_bitCount_0f7a4_33 (by decide) ?_
  refine gr_iload_n dJ6_bitCount_0f7a4_34 rfl ?_
  refine gr_iload_n dJ6_bitCount_0f7a4_35 rfl ?_
  refine gr_bipush dJ6_bitCount_0f7a4_36 (by decide) ?_
  refine gr_iushr (v := ((gb_b3 n / 2 ^ 8 : Nat) : Int)) dJ6_bitCount_0f7a4_38 (ga_ushrN (y := 8) (by omega) (by omega)) ?_
  refine gr_iadd (v := ((gb_b4 n : Nat) : Int)) dJ6_bitCount_0f7a4_39 (by unfold gb_b4; omega) ?_
  refine gr_istore_n dJ6_bitCount_0f7a4_40 (by decide) ?_
  refine gr_iload_n dJ6_bitCount_0f7a4_41 rfl ?_
  refine gr_iload_n dJ6_bitCount_0f7a4_42 rfl ?_
  refine gr_bipush dJ6_bitCount_0f7a4_43 (by decide) ?_
  refine gr_iushr (v := ((gb_b4 n / 2 ^ 16 : Nat) : Int)) dJ6_bitCount_0f7a4_45 (ga_ushrN (y := 16) (by omega) (by omega)) ?_
  refine gr_iadd (v := ((gb_b5 n : Nat) : Int)) dJ6_bitCount_0f7a4_46 (by unfold gb_b5; omega) ?_
  refine gr_istore_n dJ6_bitCount_0f7a4_47 (by decide) ?_
  refine gr_iload_n dJ6_bitCount_0f7a4_48 rfl ?_
  refine gr_bipush dJ6_bitCount_0f7a4_49 (by decide) ?_
  refine gr_iand (v := ((gb_b5 n &&& 63 : Nat) : Int)) dJ6_bitCount_0f7a4_51 (ga_andN _ 63) ?_
  refine gr_iret dJ6_bitCount_0f7a4_52 (by first | exact Or.inl rfl | exact Or.inr ⟨rfl, by omega⟩) (by decide) (by decide) (⟨by rw [h7], rfl⟩)
/-- b is the place of a Band, b + 1 .. b + 5 those of its rows -/
def gb_K (F : Nat → Nat → Option Nat) (b : Nat) : Prop := gw_sh b = (0, 7) ∧ gw_sh (b + 1) = (10, 4) ∧ gw_sh (b + 2) = (10, 4) ∧ gw_sh (b + 3) = (10, 4) ∧ gw_sh (b + 4) = (10, 4) ∧ gw_sh (b + 5) = (10, 4) ∧ b + 5 < 114 ∧ F b 2 = some (b + 1) ∧ F b 3 = some (b + 2) ∧ F b 4 = some (b + 3) ∧ F b 5 = some (b + 4) ∧ F b 6 = some (b + 5)
/-- what the rows hold -/
def gb_B (I : Nat → Nat → Int) (b : Nat) : Prop := ∀ p, p < 4 → 0 ≤ I (b + 1) p ∧ I (b + 1) p ≤ 2 ∧ 0 ≤ I (b + 2) p ∧ I (b + 2) p ≤ 60 ∧ 0 ≤ I (b + 3) p ∧ I (b + 3) p ≤ 60 ∧ 0 ≤ I (b + 4) p ∧ I (b + 4) p ≤ 9 ∧ 0 ≤ I (b + 5) p ∧ I (b + 5) p ≤ 12
/-- how many bows -/
def gb_bw (K : Nat → Int) : Nat → Int
  | 0 => 0
  | n + 1 => gb_bw K n + (if K n = 1 then 1 else 0)
/-- whether player p can have hand h in chord c of the piece's notes N -/
def gb_man (I : Nat → Nat → Int) (b : Nat) (N : Nat → Int) (p c h : Nat) : Bool := gb_pc h = 0 ∨ (gb_pc h ≤ (if I (b + 1) p = 1 then 2 else 1) ∧ I (b + 2) p ≤ gp_lo N c h ∧ gp_hi N c h ≤ I (b + 3) p ∧ (gb_pc h = 1 ∨ gp_hi N c h - gp_lo N c h ≤ I (b + 5) p))
/-- how loud a hand is -/
def gb_str (I : Nat → Nat → Int) (b p h : Nat) : Int := if gb_pc h = 2 then I (b + 4) p / 2 else I (b + 4) p
theorem gp_lo_in {N : Nat → Int} {c h : Nat} (hN : gp_N N) (hc : c < 8) : -1 ≤ gp_lo N c h ∧ gp_lo N c h ≤ 60 := by
  have h0 := hN (3 * c + 0) (by omega)
  have h1 := hN (3 * c + 1) (by omega)
  have h2 := hN (3 * c + 2) (by omega)
  unfold gp_lo
  grind
theorem gp_hi_in {N : Nat → Int} {c h : Nat} (hN : gp_N N) (hc : c < 8) : -1 ≤ gp_hi N c h ∧ gp_hi N c h ≤ 60 := by
  have h0 := hN (3 * c + 0) (by omega)
  have h1 := hN (3 * c + 1) (by omega)
  have h2 := hN (3 * c + 2) (by omega)
  unfold gp_hi
  grind
theorem gb_pc8 : ∀ h, h < 8 → gb_pc h ≤ 3 ∧ gb_pc h ≤ h := by decide +kernel
section GB
variable {I : Nat → Nat → Int} {F : Nat → Nat → Option Nat} {b : Nat}
theorem c_bempty (d : Nat) (hb : gb_K F b) : gw_Met jX0_empty d [.inr (some b)] (114, I, F) (gw_vo F (fun I' => I' = gw_U (gw_U I b 0 0) b 1 0)) := by
  obtain ⟨hb0, hb1, hb2, hb3, hb4, hb5, hbn, hf1, hf2, hf3, hf4, hf5⟩ := hb
  refine gw_enter okX0_empty rfl (Nat.le_of_ble_eq_true rfl) ?_
  refine gr_aload_n dX0_empty_0 rfl ?_
  refine gr_iconst dX0_empty_1 ?_
  refine gr_putI dX0_empty_2 fX0_9 (by first | assumption | rfl) (by omega) (Or.inl rfl) rfl ?_
  refine gr_aload_n dX0_empty_5 rfl ?_
  refine gr_iconst dX0_empty_6 ?_
  refine gr_putI dX0_empty_7 fX0_15 (by first | assumption | rfl) (by omega) (Or.inl rfl) rfl ?_
  refine gr_vret dX0_empty_10 rfl (by decide) (by decide) (⟨rfl, _, rfl, rfl⟩)
theorem c_hasRoomFor {x : Int} (d : Nat) (hb : gb_K F b) (hx : gw_in x) (h1 : gw_in (I b 0)) (h2 : gw_in (I b 1)) : gw_Met jX0_hasRoomFor d [.inr (some b), .inl x] (114, I, F) (gw_pu (if I b 0 < 4 ∧ (x ≠ 1 ∨ I b 1 < 2) then 1 else 0) (114, I, F)) := by
  obtain ⟨hb0, hb1, hb2, hb3, hb4, hb5, hbn, hf1, hf2, hf3, hf4, hf5⟩ := hb
  unfold gw_in at hx h1 h2
  refine gw_enter okX0_hasRoomFor rfl (Nat.le_of_ble_eq_true rfl) ?_
  refine gr_aload_n dX0_hasRoomFor_0 rfl ?_
  refine gr_getI dX0_hasRoomFor_1 fX0_9 (by first | assumption | rfl) (by omega) (by decide) rfl ?_
  refine gr_iconst dX0_hasRoomFor_4 ?_
  refine gr_icmp_ge 25 dX0_hasRoomFor_5 (by decide) (by unfold gw_in; omega) (by unfold gw_in; omega) (fun h5 => ?_) (fun h5 => ?_)
  · refine gr_iconst dX0_hasRoomFor_25 ?_
    refine gr_iret dX0_hasRoomFor_26 (by first | exact Or.inl rfl | exact Or.inr ⟨rfl, by omega⟩) (by decide) (by decide) (⟨by rw [if_neg (by omega)], rfl⟩)
  · refine gr_iload_n dX0_hasRoomFor_8 rfl ?_
    refine gr_iconst dX0_hasRoomFor_9 ?_
    refine gr_icmp_ne 21 dX0_hasRoomFor_10 (by decide) (by unfold gw_in; omega) (by unfold gw_in; omega) (fun h10 => ?_) (fun h10 => ?_)
    · refine gr_iconst dX0_hasRoomFor_21 ?_
      refine gr_goto 26 dX0_hasRoomFor_22 (by decide) ?_
      refine gr_iret dX0_hasRoomFor_26 (by first | exact Or.inl rfl | exact Or.inr ⟨rfl, by omega⟩) (by decide) (by decide) (⟨by rw [if_pos (by omega)], rfl⟩)
    · refine gr_aload_n dX0_hasRoomFor_13 rfl ?_
      refine gr_getI dX0_hasRoomFor_14 fX0_15 (by first | assumption | rfl) (by omega) (by decide) rfl ?_
      refine gr_iconst dX0_hasRoomFor_17 ?_
      refine gr_icmp_ge 25 dX0_hasRoomFor_18 (by decide) (by unfold gw_in; omega) (by unfold gw_in; omega) (fun h18 => ?_) (fun h18 => ?_)
      · refine gr_iconst dX0_hasRoomFor_25 ?_
        refine gr_iret dX0_hasRoomFor_26 (by first | exact Or.inl rfl | exact Or.inr ⟨rfl, by omega⟩) (by decide) (by decide) (⟨by rw [if_neg (by omega)], rfl⟩)
      · refine gr_iconst dX0_hasRoomFor_21 ?_
        refine gr_goto 26 dX0_hasRoomFor_22 (by decide) ?_
        refine gr_iret dX0_hasRoomFor_26 (by first | exact Or.inl rfl | exact Or.inr ⟨rfl, by omega⟩) (by decide) (by decide) (⟨by rw [if_pos (by omega)], rfl⟩)
theorem c_badd {p : Nat} {x0 x1 x2 x3 x4 : Int} (d : Nat) (hb : gb_K F b) (hp : I b 0 = (p : Int)) (hp4 : p < 4) (hx : gw_in x0) (h2 : gw_in (I b 1)) (hbw : x0 ≠ 1 ∨ I b 1 < 2) : gw_Met jX0_add (d + 1) [.inr (some b), .inl x0, .inl x1, .inl x2, .inl x3, .inl x4] (114, I, F) (gw_vo F (fun I' => ∀ a i, I' a i = if a = b ∧ i = 0 then (p : Int) + 1 else if a = b ∧ i = 1 then (if x0 = 1 then I b 1 + 1 else I b 1) else if a = b + 1 ∧ i = p then x0 else if a = b + 2 ∧ i = p then x1 else if a = b + 3 ∧ i = p then x2 else if a = b + 4 ∧ i = p then x3 else if a = b + 5 ∧ i = p then x4 else I a i)) := by
  have hb' := hb
  obtain ⟨hb0, hb1, hb2, hb3, hb4, hb5, hbn, hf1, hf2, hf3, hf4, hf5⟩ := hb
  refine gw_enter okX0_add rfl (Nat.le_of_ble_eq_true rfl) ?_
  refine gr_aload_n dX0_add_0 rfl ?_
  refine gr_iload_n dX0_add_1 rfl ?_
  refine gr_virt dX0_add_2 kX0_34 (as := [_]) rfl rfl (by first | assumption | rfl) (by omega) (Nat.le_of_ble_eq_true rfl) (gw_Rm_m (by omega) (by decide) (by decide)) (c_hasRoomFor d hb' hx (by unfold gw_in; omega) h2) ?_
  rintro _ _ ⟨rfl, rfl⟩
  rw [if_pos (show I b 0 < 4 ∧ (x0 ≠ 1 ∨ I b 1 < 2) from ⟨by omega, hbw⟩)]
  unfold gw_in at hx h2
  refine gr_if_ne 9 dX0_add_5 (by decide) (by unfold gw_in; omega) (fun h5 => ?_) (fun h5 => ?_)
  · refine gr_aload_n dX0_add_9 rfl ?_
    refine gr_getR dX0_add_10 fX0_18 (by first | assumption | rfl) (by omega) (by decide) rfl (by assumption) ?_
    refine gr_aload_n dX0_add_13 rfl ?_
    refine gr_getI dX0_add_14 fX0_9 (by first | assumption | rfl) (by omega) (by decide) rfl ?_
    refine gr_iload_n dX0_add_17 rfl ?_
    rw [hp]
    refine gr_iast (i := p) dX0_add_18 (by first | assumption | rfl) (by omega) (by omega) (by omega) (by decide) ?_
    refine gr_aload_n dX0_add_19 rfl ?_
    refine gr_getR dX0_add_20 fX0_22 (by first | assumption | rfl) (by omega) (by decide) rfl (by assumption) ?_
    refine gr_aload_n dX0_add_23 rfl ?_
    refine gr_getI dX0_add_24 fX0_9 (by first | assumption | rfl) (by omega) (by decide) rfl ?_
    refine gr_iload_n dX0_add_27 rfl ?_
    rw [show gw_U I (b + 1) p x0 b 0 = (p : Int) by unfold gw_U; rw [if_neg (by omega)]; exact hp]
    refine gr_iast (i := p) dX0_add_28 (by first | assumption | rfl) (by omega) (by omega) (by omega) (by decide) ?_
    refine gr_aload_n dX0_add_29 rfl ?_
    refine gr_getR dX0_add_30 fX0_25 (by first | assumption | rfl) (by omega) (by decide) rfl (by assumption) ?_
    refine gr_aload_n dX0_add_33 rfl ?_
    refine gr_getI dX0_add_34 fX0_9 (by first | assumption | rfl) (by omega) (by decide) rfl ?_
    refine gr_iload_n dX0_add_37 rfl ?_
    rw [show gw_U (gw_U I (b + 1) p x0) (b + 2) p x1 b 0 = (p : Int) by unfold gw_U; grind]
    refine gr_iast (i := p) dX0_add_38 (by first | assumption | rfl) (by omega) (by omega) (by omega) (by decide) ?_
    refine gr_aload_n dX0_add_39 rfl ?_
    refine gr_getR dX0_add_40 fX0_28 (by first | assumption | rfl) (by omega) (by decide) rfl (by assumption) ?_
    refine gr_aload_n dX0_add_43 rfl ?_
    refine gr_getI dX0_add_44 fX0_9 (by first | assumption | rfl) (by omega) (by decide) rfl ?_
    refine gr_iload dX0_add_47 rfl ?_
    rw [show gw_U (gw_U (gw_U I (b + 1) p x0) (b + 2) p x1) (b + 3) p x2 b 0 = (p : Int) by unfold gw_U; grind]
    refine gr_iast (i := p) dX0_add_49 (by first | assumption | rfl) (by omega) (by omega) (by omega) (by decide) ?_
    refine gr_aload_n dX0_add_50 rfl ?_
    refine gr_getR dX0_add_51 fX0_31 (by first | assumption | rfl) (by omega) (by decide) rfl (by assumption) ?_
    refine gr_aload_n dX0_add_54 rfl ?_
    refine gr_getI dX0_add_55 fX0_9 (by first | assumption | rfl) (by omega) (by decide) rfl ?_
    refine gr_iload dX0_add_58 rfl ?_
    rw [show gw_U (gw_U (gw_U (gw_U I (b + 1) p x0) (b + 2) p x1) (b + 3) p x2) (b + 4) p x3 b 0 = (p : Int) by unfold gw_U; grind]
    refine gr_iast (i := p) dX0_add_60 (by first | assumption | rfl) (by omega) (by omega) (by omega) (by decide) ?_
    refine gr_aload_n dX0_add_61 rfl ?_
    refine gr_dup dX0_add_62 ?_
    refine gr_getI dX0_add_63 fX0_9 (by first | assumption | rfl) (by omega) (by decide) rfl ?_
    refine gr_iconst dX0_add_66 ?_
    refine gr_iadd dX0_add_67 rfl ?_
    refine gr_putI dX0_add_68 fX0_9 (by first | assumption | rfl) (by omega) (Or.inl rfl) rfl ?_
    refine gr_iload_n dX0_add_71 rfl ?_
    refine gr_iconst dX0_add_72 ?_
    refine gr_icmp_ne 86 dX0_add_73 (by decide) (by unfold gw_in; omega) (by unfold gw_in; omega) (fun h73 => ?_) (fun h73 => ?_)
    · refine gr_vret dX0_add_86 rfl (by decide) (by decide) (⟨rfl, _, rfl, fun a i => by clear hb' hb0 hb1 hb2 hb3 hb4 hb5 hf1 hf2 hf3 hf4 hf5; unfold gw_U; grind (splits := 24)⟩)
    · refine gr_aload_n dX0_add_76 rfl ?_
      refine gr_dup dX0_add_77 ?_
      refine gr_getI dX0_add_78 fX0_15 (by first | assumption | rfl) (by omega) (by decide) rfl ?_
      refine gr_iconst dX0_add_81 ?_
      refine gr_iadd dX0_add_82 rfl ?_
      refine gr_putI dX0_add_83 fX0_15 (by first | assumption | rfl) (by omega) (Or.inl rfl) rfl ?_
      refine gr_vret dX0_add_86 rfl (by decide) (by decide) (⟨rfl, _, rfl, fun a i => by clear hb' hb0 hb1 hb2 hb3 hb4 hb5 hf1 hf2 hf3 hf4 hf5; unfold gw_U; grind (splits := 24)⟩)
  · omega
theorem gb_bw_le {K : Nat → Int} {m n : Nat} (h : m ≤ n) : gb_bw K m ≤ gb_bw K n := by
  induction n with
  | zero => rw [show m = 0 by omega]; exact Int.le_refl _
  | succ n ih =>
    by_cases hm : m = n + 1
    · rw [hm]; exact Int.le_refl _
    · have := ih (by omega)
      simp only [gb_bw]
      split <;> omega
theorem gb_bw_nn {K : Nat → Int} {n : Nat} : 0 ≤ gb_bw K n := by
  have := gb_bw_le (K := K) (Nat.zero_le n)
  simpa [gb_bw] using this
theorem gb_bw_congr {K L : Nat → Int} {n : Nat} (h : ∀ i, i < n → K i = L i) : gb_bw K n = gb_bw L n := by
  induction n with
  | zero => rfl
  | succ n ih => simp only [gb_bw]; rw [ih (fun i hi => h i (by omega)), h n (by omega)]
theorem c_bbecome {o P : Nat} (d : Nat) (hb : gb_K F b) (ho : gb_K F o) (hbo : b + 5 < o ∨ o + 5 < b) (hB : gb_B I o) (hP : I o 0 = (P : Int)) (hP4 : P ≤ 4) (hbw : gb_bw (I (o + 1)) P ≤ 2) : gw_Met jX0_become (d + 2) [.inr (some b), .inr (some o)] (114, I, F) (gw_vo F (fun I' => ∀ a i, I' a i = if a = b ∧ i = 0 then (P : Int) else if a = b ∧ i = 1 then gb_bw (I (o + 1)) P else if b + 1 ≤ a ∧ a ≤ b + 5 ∧ i < P then I (a - b + o) i else I a i)) := by
  have hb' := hb
  obtain ⟨hb0, hb1, hb2, hb3, hb4, hb5, hbn, hf1, hf2, hf3, hf4, hf5⟩ := hb
  obtain ⟨ho0, ho1, ho2, ho3, ho4, ho5, hon, hg1, hg2, hg3, hg4, hg5⟩ := ho
  refine gw_enter okX0_become rfl (Nat.le_of_ble_eq_true rfl) ?_
  refine gr_aload_n dX0_become_0 rfl ?_
  refine gr_virt dX0_become_1 kX0_38 (as := []) rfl rfl (by first | assumption | rfl) (by omega) (Nat.le_of_ble_eq_true rfl) (gw_Rm_m (by omega) (by decide) (by decide)) (c_bempty (d + 1) hb') ?_
  rintro _ _ ⟨rfl, I1, rfl, hI1⟩
  refine gr_iconst dX0_become_4 ?_
  refine gr_istore_n dX0_become_5 (by decide) ?_
  have key : ∀ (n p : Nat) (I2 : Nat → Nat → Int), p + n = P → (∀ a i, I2 a i = if a = b ∧ i = 0 then (p : Int) else if a = b ∧ i = 1 then gb_bw (I (o + 1)) p else if b + 1 ≤ a ∧ a ≤ b + 5 ∧ i < p then I (a - b + o) i else I a i) → gw_G (gw_Cm jX0_become (d + 2) (gw_vo F (fun I' => ∀ a i, I' a i = if a = b ∧ i = 0 then (P : Int) else if a = b ∧ i = 1 then gb_bw (I (o + 1)) P else if b + 1 ≤ a ∧ a ≤ b + 5 ∧ i < P then I (a - b + o) i else I a i))) jX0_become 6 [some (.inr (some b)), some (.inr (some o)), some (.inl (p : Int))] [] (114, I2, F) 0 0 := by
    intro n
    induction n with
    | zero =>
      intro p I2 hp hI
      have e0 : I2 o 0 = (P : Int) := by rw [hI]; grind
      refine gr_iload_n dX0_become_6 rfl ?_
      refine gr_aload_n dX0_become_7 rfl ?_
      refine gr_getI dX0_become_8 fX0_9 (by first | assumption | rfl) (by omega) (by decide) rfl ?_
      rw [e0]
      refine gr_icmp_ge 54 dX0_become_11 (by decide) (by unfold gw_in; omega) (by unfold gw_in; omega) (fun h11 => ?_) (fun h11 => ?_)
      · have : p = P := by omega
        subst this
        refine gr_vret dX0_become_54 rfl (by decide) (by decide) (⟨rfl, _, rfl, hI⟩)
      · omega
    | succ n ih =>
      intro p I2 hp hI
      have e0 : I2 o 0 = (P : Int) := by rw [hI]; grind
      have hBp := hB p (by omega)
      have hle := gb_bw_le (K := I (o + 1)) (show p + 1 ≤ P by omega)
      have hnn := gb_bw_nn (K := I (o + 1)) (n := p)
      simp only [gb_bw] at hle
      have r1 : I2 (o + 1) p = I (o + 1) p := by rw [hI]; grind
      have r2 : I2 (o + 2) p = I (o + 2) p := by rw [hI]; grind
      have r3 : I2 (o + 3) p = I (o + 3) p := by rw [hI]; grind
      have r4 : I2 (o + 4) p = I (o + 4) p := by rw [hI]; grind
      have r5 : I2 (o + 5) p = I (o + 5) p := by rw [hI]; grind
      have r6 : I2 b 0 = (p : Int) := by rw [hI]; grind
      have r7 : I2 b 1 = gb_bw (I (o + 1)) p := by rw [hI]; grind
      refine gr_iload_n dX0_become_6 rfl ?_
      refine gr_aload_n dX0_become_7 rfl ?_
      refine gr_getI dX0_become_8 fX0_9 (by first | assumption | rfl) (by omega) (by decide) rfl ?_
      rw [e0]
      refine gr_icmp_ge 54 dX0_become_11 (by decide) (by unfold gw_in; omega) (by unfold gw_in; omega) (fun h11 => ?_) (fun h11 => ?_)
      · omega
      · refine gr_aload_n dX0_become_14 rfl ?_
        refine gr_aload_n dX0_become_15 rfl ?_
        refine gr_getR dX0_become_16 fX0_18 (by first | assumption | rfl) (by omega) (by decide) rfl (by assumption) ?_
        refine gr_iload_n dX0_become_19 rfl ?_
        refine gr_iald (i := p) dX0_become_20 (by first | assumption | rfl) (by omega) (by omega) (by omega) (by decide) ?_
        refine gr_aload_n dX0_become_21 rfl ?_
        refine gr_getR dX0_become_22 fX0_22 (by first | assumption | rfl) (by omega) (by decide) rfl (by assumption) ?_
        refine gr_iload_n dX0_become_25 rfl ?_
        refine gr_iald (i := p) dX0_become_26 (by first | assumption | rfl) (by omega) (by omega) (by omega) (by decide) ?_
        refine gr_aload_n dX0_become_27 rfl ?_
        refine gr_getR dX0_become_28 fX0_25 (by first | assumption | rfl) (by omega) (by decide) rfl (by assumption) ?_
        refine gr_iload_n dX0_become_31 rfl ?_
        refine gr_iald (i := p) dX0_become_32 (by first | assumption | rfl) (by omega) (by omega) (by omega) (by decide) ?_
        refine gr_aload_n dX0_become_33 rfl ?_
        refine gr_getR dX0_become_34 fX0_28 (by first | assumption | rfl) (by omega) (by decide) rfl (by assumption) ?_
        refine gr_iload_n dX0_become_37 rfl ?_
        refine gr_iald (i := p) dX0_become_38 (by first | assumption | rfl) (by omega) (by omega) (by omega) (by decide) ?_
        refine gr_aload_n dX0_become_39 rfl ?_
        refine gr_getR dX0_become_40 fX0_31 (by first | assumption | rfl) (by omega) (by decide) rfl (by assumption) ?_
        refine gr_iload_n dX0_become_43 rfl ?_
        refine gr_iald (i := p) dX0_become_44 (by first | assumption | rfl) (by omega) (by omega) (by omega) (by decide) ?_
        rw [r1, r2, r3, r4, r5]
        refine gr_virt dX0_become_45 kX0_41 (as := [_, _, _, _, _]) rfl rfl (by first | assumption | rfl) (by omega) (Nat.le_of_ble_eq_true rfl) (gw_Rm_m (by omega) (by decide) (by decide)) (c_badd (p := p) d hb' r6 (by omega) (by unfold gw_in; omega) (by rw [r7]; unfold gw_in; split at hle <;> omega) (by rw [r7]; split at hle <;> omega)) ?_
        rintro _ _ ⟨rfl, I3, rfl, hI3⟩
        refine gr_iinc (v := ((p + 1 : Nat) : Int)) dX0_become_48 (by decide) rfl (by omega) ?_
        refine gr_goto 6 dX0_become_51 (by decide) ?_
        refine ih (p + 1) I3 (by omega) (fun a i => ?_)
        have c1 : o + 1 = b + 1 - b + o := by omega
        have c2 : o + 2 = b + 2 - b + o := by omega
        have c3 : o + 3 = b + 3 - b + o := by omega
        have c4 : o + 4 = b + 4 - b + o := by omega
        have c5 : o + 5 = b + 5 - b + o := by omega
        rw [hI3, r7, hI]
        simp only [gb_bw]
        clear hI hI3 ih e0 r1 r2 r3 r4 r5 r6 r7 hb' hb0 hb1 hb2 hb3 hb4 hb5 hf1 hf2 hf3 hf4 hf5 ho0 ho1 ho2 ho3 ho4 ho5 hg1 hg2 hg3 hg4 hg5 hB hBp hI1 hle hnn hP hbw
        grind (splits := 24)
    
  refine key P 0 I1 (by omega) (fun a i => ?_)
  rw [hI1]
  unfold gw_U
  simp only [gb_bw]
  grind
theorem c_manages {p c h k : Nat} (d : Nat) (hb : gb_K F b) (hk : gp_K F k) (hp : p < 4) (hc : c < 8) (hh : h < 8) (hB : gb_B I b) (hN : gp_N (I (k + 1))) : gw_Met jX0_manages (d + 2) [.inr (some b), .inl (p : Int), .inr (some k), .inl (c : Int), .inl (h : Int)] (114, I, F) (gw_pu (if gb_man I b (I (k + 1)) p c h = true then 1 else 0) (114, I, F)) := by
  obtain ⟨hb0, hb1, hb2, hb3, hb4, hb5, hbn, hf1, hf2, hf3, hf4, hf5⟩ := hb
  have hk' := hk
  obtain ⟨hk1, hk2, hk3, hk4⟩ := hk
  obtain ⟨pc3, pch⟩ := gb_pc8 h hh
  have hBp := hB p hp
  have hlo := gp_lo_in (h := h) hN hc
  have hhi := gp_hi_in (h := h) hN hc
  refine gw_enter okX0_manages rfl (Nat.le_of_ble_eq_true rfl) ?_
  refine gr_iload dX0_manages_0 rfl ?_
  refine gr_stat dX0_manages_2 kX0_45 (as := [_]) rfl rfl (Nat.le_of_ble_eq_true rfl) (gw_Rm_m (by omega) (by decide) (by decide)) (c_bitCount (n := h) (d + 1) (by omega)) ?_
  rintro _ _ ⟨rfl, rfl⟩
  refine gr_istore dX0_manages_5 (by decide) ?_
  refine gr_iload dX0_manages_7 rfl ?_
  refine gr_if_ne 14 dX0_manages_9 (by decide) (by unfold gw_in; omega) (fun h9 => ?_) (fun h9 => ?_)
  · refine gr_iload dX0_manages_14 rfl ?_
    refine gr_aload_n dX0_manages_16 rfl ?_
    refine gr_getR dX0_manages_17 fX0_18 (by first | assumption | rfl) (by omega) (by decide) rfl (by assumption) ?_
    refine gr_iload_n dX0_manages_20 rfl ?_
    refine gr_iald (i := p) dX0_manages_21 (by first | assumption | rfl) (by omega) (by omega) (by omega) (by decide) ?_
    refine gr_iconst dX0_manages_22 ?_
    have fin : ∀ x : Int, (x = if I (b + 1) p = 1 then 2 else 1) → gw_G (gw_Cm jX0_manages (d + 2) (gw_pu (if gb_man I b (I (k + 1)) p c h = true then 1 else 0) (114, I, F))) jX0_manages 31 [some (.inr (some b)), some (.inl (p : Int)), some (.inr (some k)), some (.inl (c : Int)), some (.inl (h : Int)), some (.inl ((gb_pc h : Nat) : Int)), none, none] [.inl x, .inl ((gb_pc h : Nat) : Int)] (114, I, F) 0 0 := by
      intro x hx
      have hx2 : x = 1 ∨ x = 2 := by split at hx <;> omega
      refine gr_icmp_le 36 dX0_manages_31 (by decide) (by unfold gw_in; omega) (by unfold gw_in; omega) (fun h31 => ?_) (fun h31 => ?_)
      · refine gr_aload_n dX0_manages_36 rfl ?_
        refine gr_iload_n dX0_manages_37 rfl ?_
        refine gr_iload dX0_manages_38 rfl ?_
        refine gr_virt dX0_manages_40 kX0_51 (as := [_, _]) rfl rfl (by first | assumption | rfl) (by omega) (Nat.le_of_ble_eq_true rfl) (gw_Rm_m (by omega) (by decide) (by decide)) (c_lowestOf (h := h) d hk' hc hh) ?_
        rintro _ _ ⟨rfl, rfl⟩
        refine gr_istore dX0_manages_43 (by decide) ?_
        refine gr_aload_n dX0_manages_45 rfl ?_
        refine gr_iload_n dX0_manages_46 rfl ?_
        refine gr_iload dX0_manages_47 rfl ?_
        refine gr_virt dX0_manages_49 kX0_57 (as := [_, _]) rfl rfl (by first | assumption | rfl) (by omega) (Nat.le_of_ble_eq_true rfl) (gw_Rm_m (by omega) (by decide) (by decide)) (c_highestOf (h := h) d hk' hc hh) ?_
        rintro _ _ ⟨rfl, rfl⟩
        refine gr_istore dX0_manages_52 (by decide) ?_
        refine gr_iload dX0_manages_54 rfl ?_
        refine gr_aload_n dX0_manages_56 rfl ?_
        refine gr_getR dX0_manages_57 fX0_22 (by first | assumption | rfl) (by omega) (by decide) rfl (by assumption) ?_
        refine gr_iload_n dX0_manages_60 rfl ?_
        refine gr_iald (i := p) dX0_manages_61 (by first | assumption | rfl) (by omega) (by omega) (by omega) (by decide) ?_
        refine gr_icmp_lt 100 dX0_manages_62 (by decide) (by unfold gw_in; omega) (by unfold gw_in; omega) (fun h62 => ?_) (fun h62 => ?_)
        · refine gr_iconst dX0_manages_100 ?_
          refine gr_iret dX0_manages_101 (by first | exact Or.inl rfl | exact Or.inr ⟨rfl, by omega⟩) (by decide) (by decide) (⟨by unfold gb_man; grind, rfl⟩)
        · refine gr_iload dX0_manages_65 rfl ?_
          refine gr_aload_n dX0_manages_67 rfl ?_
          refine gr_getR dX0_manages_68 fX0_25 (by first | assumption | rfl) (by omega) (by decide) rfl (by assumption) ?_
          refine gr_iload_n dX0_manages_71 rfl ?_
          refine gr_iald (i := p) dX0_manages_72 (by first | assumption | rfl) (by omega) (by omega) (by omega) (by decide) ?_
          refine gr_icmp_gt 100 dX0_manages_73 (by decide) (by unfold gw_in; omega) (by unfold gw_in; omega) (fun h73 => ?_) (fun h73 => ?_)
          · refine gr_iconst dX0_manages_100 ?_
            refine gr_iret dX0_manages_101 (by first | exact Or.inl rfl | exact Or.inr ⟨rfl, by omega⟩) (by decide) (by decide) (⟨by unfold gb_man; grind, rfl⟩)
          · refine gr_iload dX0_manages_76 rfl ?_
            refine gr_iconst dX0_manages_78 ?_
            refine gr_icmp_eq 96 dX0_manages_79 (by decide) (by unfold gw_in; omega) (by unfold gw_in; omega) (fun h79 => ?_) (fun h79 => ?_)
            · refine gr_iconst dX0_manages_96 ?_
              refine gr_goto 101 dX0_manages_97 (by decide) ?_
              refine gr_iret dX0_manages_101 (by first | exact Or.inl rfl | exact Or.inr ⟨rfl, by omega⟩) (by decide) (by decide) (⟨by unfold gb_man; grind, rfl⟩)
            · refine gr_iload dX0_manages_82 rfl ?_
              refine gr_iload dX0_manages_84 rfl ?_
              refine gr_isub dX0_manages_86 rfl ?_
              refine gr_aload_n dX0_manages_87 rfl ?_
              refine gr_getR dX0_manages_88 fX0_31 (by first | assumption | rfl) (by omega) (by decide) rfl (by assumption) ?_
              refine gr_iload_n dX0_manages_91 rfl ?_
              refine gr_iald (i := p) dX0_manages_92 (by first | assumption | rfl) (by omega) (by omega) (by omega) (by decide) ?_
              refine gr_icmp_gt 100 dX0_manages_93 (by decide) (by unfold gw_in; omega) (by unfold gw_in; omega) (fun h93 => ?_) (fun h93 => ?_)
              · refine gr_iconst dX0_manages_100 ?_
                refine gr_iret dX0_manages_101 (by first | exact Or.inl rfl | exact Or.inr ⟨rfl, by omega⟩) (by decide) (by decide) (⟨by unfold gb_man; grind, rfl⟩)
              · refine gr_iconst dX0_manages_96 ?_
                refine gr_goto 101 dX0_manages_97 (by decide) ?_
                refine gr_iret dX0_manages_101 (by first | exact Or.inl rfl | exact Or.inr ⟨rfl, by omega⟩) (by decide) (by decide) (⟨by unfold gb_man; grind, rfl⟩)
      · refine gr_iconst dX0_manages_34 ?_
        refine gr_iret dX0_manages_35 (by first | exact Or.inl rfl | exact Or.inr ⟨rfl, by omega⟩) (by decide) (by decide) (⟨by unfold gb_man; grind, rfl⟩)
    refine gr_icmp_ne 30 dX0_manages_23 (by decide) (by unfold gw_in; omega) (by unfold gw_in; omega) (fun h23 => ?_) (fun h23 => ?_)
    · refine gr_iconst dX0_manages_30 ?_
      exact fin 1 (by rw [if_neg h23])
    · refine gr_iconst dX0_manages_26 ?_
      refine gr_goto 31 dX0_manages_27 (by decide) ?_
      exact fin 2 (by rw [if_pos h23])
  · refine gr_iconst dX0_manages_12 ?_
    refine gr_iret dX0_manages_13 (by first | exact Or.inl rfl | exact Or.inr ⟨rfl, by omega⟩) (by decide) (by decide) (⟨by unfold gb_man; grind, rfl⟩)
theorem c_strength {p h : Nat} (d : Nat) (hb : gb_K F b) (hp : p < 4) (hh : h < 8) (hB : gb_B I b) : gw_Met jX0_strength (d + 1) [.inr (some b), .inl (p : Int), .inl (h : Int)] (114, I, F) (gw_pu (gb_str I b p h) (114, I, F)) := by
  obtain ⟨hb0, hb1, hb2, hb3, hb4, hb5, hbn, hf1, hf2, hf3, hf4, hf5⟩ := hb
  obtain ⟨pc3, pch⟩ := gb_pc8 h hh
  have hBp := hB p hp
  refine gw_enter okX0_strength rfl (Nat.le_of_ble_eq_true rfl) ?_
  refine gr_iload_n dX0_strength_0 rfl ?_
  refine gr_stat dX0_strength_1 kX0_45 (as := [_]) rfl rfl (Nat.le_of_ble_eq_true rfl) (gw_Rm_m (by omega) (by decide) (by decide)) (c_bitCount (n := h) d (by omega)) ?_
  rintro _ _ ⟨rfl, rfl⟩
  refine gr_iconst dX0_strength_4 ?_
  refine gr_icmp_ne 19 dX0_strength_5 (by decide) (by unfold gw_in; omega) (by unfold gw_in; omega) (fun h5 => ?_) (fun h5 => ?_)
  · refine gr_aload_n dX0_strength_19 rfl ?_
    refine gr_getR dX0_strength_20 fX0_28 (by first | assumption | rfl) (by omega) (by decide) rfl (by assumption) ?_
    refine gr_iload_n dX0_strength_23 rfl ?_
    refine gr_iald (i := p) dX0_strength_24 (by first | assumption | rfl) (by omega) (by omega) (by omega) (by decide) ?_
    refine gr_iret dX0_strength_25 (by first | exact Or.inl rfl | exact Or.inr ⟨rfl, by omega⟩) (by decide) (by decide) (⟨by unfold gb_str; rw [if_neg (by omega)], rfl⟩)
  · refine gr_aload_n dX0_strength_8 rfl ?_
    refine gr_getR dX0_strength_9 fX0_28 (by first | assumption | rfl) (by omega) (by decide) rfl (by assumption) ?_
    refine gr_iload_n dX0_strength_12 rfl ?_
    refine gr_iald (i := p) dX0_strength_13 (by first | assumption | rfl) (by omega) (by omega) (by omega) (by decide) ?_
    refine gr_iconst dX0_strength_14 ?_
    refine gr_ishr (v := I (b + 4) p / 2) dX0_strength_15 (ga_shr (y := 1) (by omega) (by omega) (by omega) (by omega)) ?_
    refine gr_goto 25 dX0_strength_16 (by decide) ?_
    refine gr_iret dX0_strength_25 (by first | exact Or.inl rfl | exact Or.inr ⟨rfl, by omega⟩) (by decide) (by decide) (⟨by unfold gb_str; rw [if_pos (by omega)], rfl⟩)
end GB
end
section
/-! WHAT IS ASKED, without a machine: hands, spreads, gaps -/
/-- codes of spreads: eight to the number of players; player p's choices are f p -/
def gs_sp (f : Nat → List Nat) : Nat → List Nat
  | 0 => [0]
  | p + 1 => (gs_sp f p).flatMap (fun k => (f p).map (fun h => 8 * k + h))
theorem gs_flat {α β : Type} (g : α → List β) (n : Nat) (hg : ∀ a, (g a).length = n) : ∀ (l : List α) (s j : Nat), j < n → (l.flatMap g)[n * s + j]? = (l[s]?).bind (fun a => (g a)[j]?)
  | [], s, j, _ => by simp
  | a :: l, 0, j, hj => by
    rw [List.flatMap_cons, Nat.mul_zero, Nat.zero_add, List.getElem?_append_left (by rw [hg]; exact hj)]
    rfl
  | a :: l, s + 1, j, hj => by
    rw [List.flatMap_cons, List.getElem?_append_right (by rw [hg, Nat.mul_add]; omega), hg, show n * (s + 1) + j - n = n * s + j by rw [Nat.mul_add]; omega, gs_flat g n hg l s j hj]
    rfl
theorem gs_flat_len {α β : Type} (g : α → List β) (n : Nat) (hg : ∀ a, (g a).length = n) : ∀ l : List α, (l.flatMap g).length = l.length * n
  | [] => by simp
  | a :: l => by rw [List.flatMap_cons, List.length_append, hg, gs_flat_len g n hg l, List.length_cons, Nat.add_mul]; omega
theorem gs_len (f : Nat → List Nat) (p : Nat) : (gs_sp f (p + 1)).length = (gs_sp f p).length * (f p).length := gs_flat_len _ _ (fun a => by rw [List.length_map]) _
theorem gs_get (f : Nat → List Nat) (p t : Nat) (h : t < (gs_sp f (p + 1)).length) : (gs_sp f (p + 1)).getD t 0 = 8 * (gs_sp f p).getD (t / (f p).length) 0 + (f p).getD (t % (f p).length) 0 := by
  rw [gs_len] at h
  have hn : 0 < (f p).length := by
    rcases Nat.eq_zero_or_pos (f p).length with h0 | h0
    · rw [h0, Nat.mul_zero] at h; omega
    · exact h0
  have h1 : t % (f p).length < (f p).length := Nat.mod_lt _ hn
  have h2 : t / (f p).length < (gs_sp f p).length := (Nat.div_lt_iff_lt_mul hn).mpr h
  have e := gs_flat (fun k => (f p).map (fun h => 8 * k + h)) (f p).length (fun a => by rw [List.length_map]) (gs_sp f p) (t / (f p).length) (t % (f p).length) h1
  rw [Nat.div_add_mod] at e
  rw [List.getD_eq_getElem?_getD, List.getD_eq_getElem?_getD, List.getD_eq_getElem?_getD]
  show ((gs_sp f p).flatMap (fun k => (f p).map (fun h => 8 * k + h)))[t]?.getD 0 = _
  rw [e, List.getElem?_eq_getElem h2, Option.bind_some, List.getElem?_map, List.getElem?_eq_getElem h1]
  rfl
/-- loudness of a hand packed; of a code -/
def gs_pl (B : Nat → Nat → Int) (p h : Nat) : Int := (if h % 2 = 1 then gb_str B 0 p h else 0) + (if h / 2 % 2 = 1 then gb_str B 0 p h * 256 else 0) + (if h / 4 % 2 = 1 then gb_str B 0 p h * 65536 else 0)
def gs_pk (B : Nat → Nat → Int) : Nat → Nat → Int
  | 0, _ => 0
  | p + 1, k => gs_pk B p (k / 8) + gs_pl B p (k % 8)
/-- loudness of note i of a code of p players -/
def gs_ld (B : Nat → Nat → Int) (i : Nat) : Nat → Nat → Int
  | 0, _ => 0
  | p + 1, k => gs_ld B i p (k / 8) + (if k % 8 / 2 ^ i % 2 = 1 then gb_str B 0 p (k % 8) else 0)
theorem gs_pk_ld (B : Nat → Nat → Int) : ∀ p k : Nat, gs_pk B p k = gs_ld B 0 p k + 256 * gs_ld B 1 p k + 65536 * gs_ld B 2 p k
  | 0, _ => by simp [gs_pk, gs_ld]
  | p + 1, k => by
    simp only [gs_pk, gs_ld, gs_pk_ld B p (k / 8), gs_pl, Nat.pow_zero, Nat.div_one, Nat.pow_one, show 2 ^ 2 = 4 from rfl]
    grind
/-- the players' rows hold what they may -/
def gs_B (B : Nat → Nat → Int) : Prop := ∀ p, p < 4 → 0 ≤ B 1 p ∧ B 1 p ≤ 2 ∧ 0 ≤ B 2 p ∧ B 2 p ≤ 60 ∧ 0 ≤ B 3 p ∧ B 3 p ≤ 60 ∧ 0 ≤ B 4 p ∧ B 4 p ≤ 9 ∧ 0 ≤ B 5 p ∧ B 5 p ≤ 12
theorem gs_str_in {B : Nat → Nat → Int} {p h : Nat} (hB : gs_B B) (hp : p < 4) : 0 ≤ gb_str B 0 p h ∧ gb_str B 0 p h ≤ 9 := by
  have := hB p hp
  unfold gb_str
  simp only [Nat.zero_add]
  split <;> omega
theorem gs_ld_in {B : Nat → Nat → Int} (hB : gs_B B) (i : Nat) : ∀ p k : Nat, p ≤ 4 → 0 ≤ gs_ld B i p k ∧ gs_ld B i p k ≤ 9 * p
  | 0, _, _ => by simp [gs_ld]
  | p + 1, k, hp => by
    have h1 := gs_ld_in hB i p (k / 8) (by omega)
    have h2 := gs_str_in (h := k % 8) hB (show p < 4 by omega)
    simp only [gs_ld]
    split <;> omega
/-- the loudest, the least loud of the first n; the gap -/
abbrev gs_NEVER : Int := 67108864
def gs_mx (l : Nat → Int) : Nat → Int
  | 0 => 0
  | n + 1 => if gs_mx l n < l n then l n else gs_mx l n
def gs_mi (l : Nat → Int) : Nat → Int
  | 0 => gs_NEVER
  | n + 1 => if l n < gs_mi l n then l n else gs_mi l n
def gs_gp (l : Nat → Int) (n : Nat) : Int := if gs_mi l n = 0 then gs_NEVER else gs_mx l n - gs_mi l n
theorem gs_mx_in {l : Nat → Int} {n m : Nat} (h : ∀ i, i < n → 0 ≤ l i ∧ l i ≤ (m : Int)) : 0 ≤ gs_mx l n ∧ gs_mx l n ≤ (m : Int) := by
  induction n with
  | zero => simp [gs_mx]
  | succ n ih =>
    have h1 := ih (fun i hi => h i (by omega))
    have h2 := h n (by omega)
    simp only [gs_mx]
    split <;> omega
theorem gs_mi_in {l : Nat → Int} {n m : Nat} (h : ∀ i, i < n → 0 ≤ l i ∧ l i ≤ (m : Int)) : 0 ≤ gs_mi l n ∧ gs_mi l n ≤ gs_NEVER := by
  induction n with
  | zero => simp [gs_mi, gs_NEVER]
  | succ n ih =>
    have h1 := ih (fun i hi => h i (by omega))
    have h2 := h n (by omega)
    simp only [gs_mi]
    split <;> omega
/-- the gap of code k in a chord of n notes -/
def gs_gap (B : Nat → Nat → Int) (n k : Nat) : Int := gs_gp (fun i => gs_ld B i 4 k) n
/-- whether player p of P may have hand h in chord c, in a set of players -/
def gs_ok (P : Nat) (B : Nat → Nat → Int) (N : Nat → Int) (set p c h : Nat) : Bool := h = 0 ∨ (p < P ∧ set / 2 ^ p % 2 = 1 ∧ h < 2 ^ gp_cnt N c ∧ gb_man B 0 N p c h = true)
def gs_ch (P : Nat) (B : Nat → Nat → Int) (N : Nat → Int) (set c p : Nat) : List Nat := (List.range 7).filter (gs_ok P B N set p c)
/-- the spreads' codes of chord c, rising -/
abbrev gs_SP (P : Nat) (B : Nat → Nat → Int) (N : Nat → Int) (set c : Nat) : List Nat := gs_sp (gs_ch P B N set c) 4
theorem gs_ch_lt {P : Nat} {B : Nat → Nat → Int} {N : Nat → Int} {set c p h : Nat} (hh : h ∈ gs_ch P B N set c p) : h < 7 := List.mem_range.mp (List.mem_filter.mp hh).1
theorem gs_ch_len7 {P : Nat} {B : Nat → Nat → Int} {N : Nat → Int} {set c p : Nat} : (gs_ch P B N set c p).length ≤ 7 := by
  have := List.length_filter_le (gs_ok P B N set p c) (List.range 7)
  rw [List.length_range] at this
  exact this
theorem gs_ch_pos {P : Nat} {B : Nat → Nat → Int} {N : Nat → Int} {set c p : Nat} : 0 < (gs_ch P B N set c p).length := by
  have : 0 ∈ gs_ch P B N set c p := List.mem_filter.mpr ⟨List.mem_range.mpr (by omega), by simp [gs_ok]⟩
  exact List.length_pos_of_mem this
/-- of one that is no bow at most 4 -/
theorem gs_ch_len4 {P : Nat} {B : Nat → Nat → Int} {N : Nat → Int} {set c p : Nat} (hk : B 1 p ≠ 1) : (gs_ch P B N set c p).length ≤ 4 := by
  have e : ∀ h, h < 7 → gs_ok P B N set p c h = true → h ∈ [0, 1, 2, 4] := by
    intro h hh hok
    have h3 : h ≠ 3 := by
      rintro rfl
      simp [gs_ok, gb_man, gb_pc, hk] at hok
    have h5 : h ≠ 5 := by
      rintro rfl
      simp [gs_ok, gb_man, gb_pc, hk] at hok
    have h6 : h ≠ 6 := by
      rintro rfl
      simp [gs_ok, gb_man, gb_pc, hk] at hok
    simp only [List.mem_cons, List.not_mem_nil, or_false]
    omega
  have h1 : (gs_ch P B N set c p) = ((List.range 7).filter (fun h => decide (h ∈ [0, 1, 2, 4]))).filter (gs_ok P B N set p c) := by
    unfold gs_ch
    rw [List.filter_filter]
    apply List.filter_congr
    intro h hh
    cases hz : gs_ok P B N set p c h with
    | false => rfl
    | true => simp [e h (List.mem_range.mp hh) hz]
  rw [h1]
  refine Nat.le_trans (List.length_filter_le _ _) ?_
  decide
/-- at most 784 spreads, if there are at most two bows among the players -/
theorem gs_SP_len {P : Nat} {B : Nat → Nat → Int} {N : Nat → Int} {set c : Nat} (hP : P ≤ 4) (hbw : gb_bw (B 1) P ≤ 2) : (gs_SP P B N set c).length ≤ 784 := by
  have l1 : ∀ p, P ≤ p → (gs_ch P B N set c p).length = 1 := by
    intro p hp
    have : gs_ch P B N set c p = (List.range 7).filter (fun h => decide (h = 0)) := by
      unfold gs_ch
      apply List.filter_congr
      intro h _
      simp [gs_ok, show ¬ p < P by omega]
    rw [this]
    decide
  have hl : ∀ p, (gs_ch P B N set c p).length ≤ (if p < P ∧ B 1 p = 1 then 7 else 4) := by
    intro p
    by_cases hp : p < P
    · by_cases hk : B 1 p = 1
      · rw [if_pos ⟨hp, hk⟩]; exact gs_ch_len7
      · rw [if_neg (fun h => hk h.2)]; exact gs_ch_len4 hk
    · rw [if_neg (fun h => hp h.1), l1 p (by omega)]; omega
  rw [show gs_SP P B N set c = gs_sp (gs_ch P B N set c) 4 from rfl, gs_len, gs_len, gs_len, gs_len]
  show 1 * _ * _ * _ * _ ≤ 784
  rw [Nat.one_mul]
  have h0 := hl 0
  have h1 := hl 1
  have h2 := hl 2
  have h3 := hl 3
  refine Nat.le_trans (Nat.mul_le_mul (Nat.mul_le_mul (Nat.mul_le_mul h0 h1) h2) h3) ?_
  have hsum : (if 0 < P ∧ B 1 0 = 1 then (1 : Int) else 0) + (if 1 < P ∧ B 1 1 = 1 then 1 else 0) + (if 2 < P ∧ B 1 2 = 1 then 1 else 0) + (if 3 < P ∧ B 1 3 = 1 then 1 else 0) ≤ 2 := by
    refine Int.le_trans (Int.le_of_eq ?_) hbw
    rcases (show P = 0 ∨ P = 1 ∨ P = 2 ∨ P = 3 ∨ P = 4 by omega) with rfl | rfl | rfl | rfl | rfl <;> simp [gb_bw]
  revert hsum
  by_cases a0 : 0 < P ∧ B 1 0 = 1 <;> by_cases a1 : 1 < P ∧ B 1 1 = 1 <;> by_cases a2 : 2 < P ∧ B 1 2 = 1 <;> by_cases a3 : 3 < P ∧ B 1 3 = 1 <;> simp only [a0, a1, a2, a3, if_true, if_false, and_self] <;> intro h <;> revert h <;> decide
end
section
/-! Search: the spreads of one chord -/
/-- where the search's things lie -/
def gq_K (F : Nat → Nat → Option Nat) : Prop := F 12 0 = some 13 ∧ F 12 1 = some 19 ∧ F 12 3 = some 21 ∧ F 12 4 = some 54 ∧ F 12 5 = some 55 ∧ F 12 6 = some 64 ∧ F 12 7 = some 65 ∧ F 12 8 = some 66 ∧ F 12 9 = some 67 ∧ F 12 10 = some 68 ∧ F 12 11 = some 69 ∧ (∀ i, i < 32 → F 21 i = some (22 + i)) ∧ (∀ i, i < 8 → F 55 i = some (56 + i)) ∧ gb_K F 13 ∧ gp_K F 19
abbrev gq_B (I : Nat → Nat → Int) : Nat → Nat → Int := fun r p => I (13 + r) p
/-- players, chords and rules are as they may be -/
def gq_M (I : Nat → Nat → Int) : Prop := gb_B I 13 ∧ gp_N (I 20) ∧ (0 ≤ I 13 0 ∧ I 13 0 ≤ 4) ∧ (0 ≤ I 19 0 ∧ I 19 0 ≤ 8) ∧ (0 ≤ I 19 2 ∧ I 19 2 ≤ 20) ∧ (0 ≤ I 19 3 ∧ I 19 3 ≤ 30) ∧ gb_bw (I 14) (I 13 0).toNat ≤ 2
theorem gq_sh22 : ∀ i, i < 32 → gw_sh (22 + i) = (10, 7) := by decide +kernel
theorem gq_sh56 : ∀ i, i < 8 → gw_sh (56 + i) = (10, 784) := by decide +kernel
/-- the choices of chord c are f -/
def gq_off (I : Nat → Nat → Int) (f : Nat → List Nat) (c : Nat) : Prop := ∀ p, p < 4 → I 54 (4 * c + p) = ((f p).length : Int) ∧ ∀ i, i < (f p).length → I (22 + (4 * c + p)) i = ((f p).getD i 0 : Nat)
theorem gs_plN : ∀ st, st < 10 → ∀ h, h < 8 → ((if h % 2 = 1 then st else 0) ||| (if h / 2 % 2 = 1 then st * 256 else 0) = (if h % 2 = 1 then st else 0) + (if h / 2 % 2 = 1 then st * 256 else 0)) ∧ (((if h % 2 = 1 then st else 0) + (if h / 2 % 2 = 1 then st * 256 else 0)) ||| (if h / 4 % 2 = 1 then st * 65536 else 0) = (if h % 2 = 1 then st else 0) + (if h / 2 % 2 = 1 then st * 256 else 0) + (if h / 4 % 2 = 1 then st * 65536 else 0)) := by decide +kernel
theorem ga_and255N (x : Nat) : Int32.ofInt (x : Int) &&& Int32.ofInt 255 = Int32.ofInt ((x % 256 : Nat) : Int) := by
  have h := ga_andN x 255
  rw [show (255 : Nat) = 2 ^ 8 - 1 from rfl, Nat.and_two_pow_sub_one_eq_mod] at h
  exact h
def gs_pli (st h : Nat) : Nat → Nat
  | 0 => 0
  | i + 1 => gs_pli st h i + (if h / 2 ^ i % 2 = 1 then st * 2 ^ (8 * i) else 0)
theorem gs_pliN : ∀ st, st < 10 → ∀ h, h < 8 → ∀ i, i < 3 → (gs_pli st h i ||| st * 2 ^ (8 * i)) = gs_pli st h i + st * 2 ^ (8 * i) ∧ st * 2 ^ (8 * i) < 2147483648 := by decide +kernel
section GQ
variable {I : Nat → Nat → Int} {F : Nat → Nat → Option Nat}
theorem c_packedLoud {p h : Nat} (d : Nat) (hF : gq_K F) (hp : p < 4) (hh : h < 8) (hB : gb_B I 13) : gw_Met jX3_packedLoud (d + 2) [.inr (some 12), .inl (p : Int), .inl (h : Int)] (114, I, F) (gw_pu (gs_pl (gq_B I) p h) (114, I, F)) := by
  obtain ⟨f0, f1, f3, f4, f5, f6, f7, f8, f9, f10, f11, f21, f55, fb, fp⟩ := hF
  have hst := gs_str_in (B := gq_B I) (h := h) hB hp
  obtain ⟨st, hst2⟩ : ∃ st : Nat, gb_str (gq_B I) 0 p h = (st : Int) := ⟨(gb_str (gq_B I) 0 p h).toNat, by omega⟩
  refine gw_enter okX3_packedLoud rfl (Nat.le_of_ble_eq_true rfl) ?_
  refine gr_aload_n dX3_packedLoud_0 rfl ?_
  refine gr_getR dX3_packedLoud_1 fX3_12 (by first | assumption | rfl) (by omega) (by decide) rfl (by assumption) ?_
  refine gr_iload_n dX3_packedLoud_4 rfl ?_
  refine gr_iload_n dX3_packedLoud_5 rfl ?_
  refine gr_virt dX3_packedLoud_6 kX3_96 (as := [_, _]) rfl rfl (by first | assumption | rfl) (by omega) (Nat.le_of_ble_eq_true rfl) (gw_Rm_m (by omega) (by decide) (by decide)) (c_strength (h := h) (p := p) d fb hp hh hB) ?_
  rintro _ _ ⟨rfl, rfl⟩
  rw [show gb_str I 13 p h = (st : Int) from hst2]
  refine gr_istore_n dX3_packedLoud_9 (by decide) ?_
  refine gr_iconst dX3_packedLoud_10 ?_
  refine gr_istore dX3_packedLoud_11 (by decide) ?_
  refine gr_iconst dX3_packedLoud_13 ?_
  refine gr_istore dX3_packedLoud_14 (by decide) ?_
  have key : ∀ (n i : Nat), i + n = 3 → gw_G (gw_Cm jX3_packedLoud (d + 2) (gw_pu (gs_pl (gq_B I) p h) (114, I, F))) jX3_packedLoud 16 [some (.inr (some 12)), some (.inl (p : Int)), some (.inl (h : Int)), some (.inl (st : Int)), some (.inl (gs_pli st h i : Nat)), some (.inl (i : Int))] [] (114, I, F) 0 0 := by
    intro n
    induction n with
    | zero =>
      intro i hi
      refine gr_iload dX3_packedLoud_16 rfl ?_
      refine gr_iconst dX3_packedLoud_18 ?_
      refine gr_icmp_ge 50 dX3_packedLoud_19 (by decide) (by unfold gw_in; omega) (by unfold gw_in; omega) (fun h19 => ?_) (fun h19 => ?_)
      · refine gr_iload dX3_packedLoud_50 rfl ?_
        have e : gs_pl (gq_B I) p h = ((gs_pli st h i : Nat) : Int) := by
          rw [show i = 3 by omega]
          unfold gs_pl
          rw [hst2]
          simp only [gs_pli]
          simp only [Nat.pow_zero, Nat.div_one, Nat.pow_one, Nat.mul_zero, Nat.mul_one, show 2 ^ 2 = 4 from rfl, show 2 ^ 8 = 256 from rfl, show 8 * 2 = 16 from rfl, show 2 ^ 16 = 65536 from rfl]
          grind
        refine gr_iret dX3_packedLoud_52 (by first | exact Or.inl rfl | exact Or.inr ⟨rfl, by omega⟩) (by decide) (by decide) (⟨by rw [e], rfl⟩)
      · omega
    | succ n ih =>
      intro i hi
      obtain ⟨o1, o2⟩ := gs_pliN st (by omega) h hh i (by omega)
      refine gr_iload dX3_packedLoud_16 rfl ?_
      refine gr_iconst dX3_packedLoud_18 ?_
      refine gr_icmp_ge 50 dX3_packedLoud_19 (by decide) (by unfold gw_in; omega) (by unfold gw_in; omega) (fun h19 => ?_) (fun h19 => ?_)
      · omega
      · refine gr_iload_n dX3_packedLoud_22 rfl ?_
        refine gr_iload dX3_packedLoud_23 rfl ?_
        refine gr_ishr (v := ((h / 2 ^ i : Nat) : Int)) dX3_packedLoud_25 (ga_bit (by omega) (by omega)) ?_
        refine gr_iconst dX3_packedLoud_26 ?_
        refine gr_iand (v := ((h / 2 ^ i % 2 : Nat) : Int)) dX3_packedLoud_27 (ga_bit1 _) ?_
        refine gr_iconst dX3_packedLoud_28 ?_
        refine gr_icmp_ne 44 dX3_packedLoud_29 (by decide) (by unfold gw_in; omega) (by unfold gw_in; omega) (fun h29 => ?_) (fun h29 => ?_)
        · refine gr_iinc (v := ((i + 1 : Nat) : Int)) dX3_packedLoud_44 (by decide) rfl (by omega) ?_
          refine gr_goto 16 dX3_packedLoud_47 (by decide) ?_
          have e : gs_pli st h (i + 1) = gs_pli st h i := by simp only [gs_pli]; rw [if_neg (by omega)]; rfl
          have ih := ih (i + 1) (by omega)
          rw [e] at ih
          exact ih
        · refine gr_iload dX3_packedLoud_32 rfl ?_
          refine gr_iload_n dX3_packedLoud_34 rfl ?_
          refine gr_iload dX3_packedLoud_35 rfl ?_
          refine gr_bipush dX3_packedLoud_37 (by decide) ?_
          refine gr_imul (v := ((8 * i : Nat) : Int)) dX3_packedLoud_39 (by omega) ?_
          refine gr_ishl (v := ((st * 2 ^ (8 * i) : Nat) : Int)) dX3_packedLoud_40 (ga_shlN (by omega) (by omega)) ?_
          refine gr_ior (v := ((gs_pli st h i ||| st * 2 ^ (8 * i) : Nat) : Int)) dX3_packedLoud_41 (ga_orN _ _) ?_
          refine gr_istore dX3_packedLoud_42 (by decide) ?_
          refine gr_iinc (v := ((i + 1 : Nat) : Int)) dX3_packedLoud_44 (by decide) rfl (by omega) ?_
          refine gr_goto 16 dX3_packedLoud_47 (by decide) ?_
          have e : gs_pli st h (i + 1) = (gs_pli st h i ||| st * 2 ^ (8 * i)) := by simp only [gs_pli]; rw [if_pos (by omega), o1]
          have ih := ih (i + 1) (by omega)
          rw [e] at ih
          exact ih
  exact key 3 0 rfl
theorem c_gapOf {n : Nat} {l : Nat → Nat} {μ : gw_M} (d : Nat) (hn : n ≤ 3) (hl : ∀ i, i < 3 → l i ≤ 100) : gw_Met jX3_gapOf (d + 1) [.inl ((l 0 + 256 * l 1 + 65536 * l 2 : Nat) : Int), .inl (n : Int)] μ (gw_pu (gs_gp (fun i => (l i : Int)) n) μ) := by
  have l0 := hl 0 (by omega)
  have l1 := hl 1 (by omega)
  have l2 := hl 2 (by omega)
  refine gw_enter okX3_gapOf rfl (Nat.le_of_ble_eq_true rfl) ?_
  refine gr_iconst dX3_gapOf_0 ?_
  refine gr_istore_n dX3_gapOf_1 (by decide) ?_
  refine gr_ldc dX3_gapOf_2 nX3_99 ?_
  refine gr_istore_n dX3_gapOf_4 (by decide) ?_
  refine gr_iconst dX3_gapOf_5 ?_
  refine gr_istore dX3_gapOf_6 (by decide) ?_
  have key : ∀ (m i : Nat) (x : Option gw_V), i + m = n → gw_G (gw_Cm jX3_gapOf (d + 1) (gw_pu (gs_gp (fun i => (l i : Int)) n) μ)) jX3_gapOf 8 [some (.inl ((l 0 + 256 * l 1 + 65536 * l 2 : Nat) : Int)), some (.inl (n : Int)), some (.inl (gs_mx (fun i => (l i : Int)) i)), some (.inl (gs_mi (fun i => (l i : Int)) i)), some (.inl (i : Int)), x] [] μ 0 0 := by
    intro m
    induction m with
    | zero =>
      intro i x hi
      have hi : i = n := by omega
      subst hi
      have b1 := gs_mx_in (l := fun i => (l i : Int)) (n := i) (m := 100) (fun k hk => by have := hl k (by omega); omega)
      have b2 := gs_mi_in (l := fun i => (l i : Int)) (n := i) (m := 100) (fun k hk => by have := hl k (by omega); omega)
      unfold gs_NEVER at b2
      refine gr_iload dX3_gapOf_8 rfl ?_
      refine gr_iload_n dX3_gapOf_10 rfl ?_
      refine gr_icmp_ge 47 dX3_gapOf_11 (by decide) (by unfold gw_in; omega) (by unfold gw_in; omega) (fun h11 => ?_) (fun h11 => ?_)
      · refine gr_iload_n dX3_gapOf_47 rfl ?_
        refine gr_if_ne 56 dX3_gapOf_48 (by decide) (by unfold gw_in; omega) (fun h48 => ?_) (fun h48 => ?_)
        · refine gr_iload_n dX3_gapOf_56 rfl ?_
          refine gr_iload_n dX3_gapOf_57 rfl ?_
          refine gr_isub dX3_gapOf_58 rfl ?_
          refine gr_iret dX3_gapOf_59 (by first | exact Or.inl rfl | exact Or.inr ⟨rfl, by omega⟩) (by decide) (by decide) (⟨by unfold gs_gp; rw [if_neg h48], rfl⟩)
        · refine gr_ldc dX3_gapOf_51 nX3_99 ?_
          refine gr_goto 59 dX3_gapOf_53 (by decide) ?_
          refine gr_iret dX3_gapOf_59 (by first | exact Or.inl rfl | exact Or.inr ⟨rfl, by omega⟩) (by decide) (by decide) (⟨by unfold gs_gp; rw [if_pos h48], rfl⟩)
      · omega
    | succ m ih =>
      intro i x hi
      have b1 := gs_mx_in (l := fun i => (l i : Int)) (n := i) (m := 100) (fun k hk => by have := hl k (by omega); omega)
      have b2 := gs_mi_in (l := fun i => (l i : Int)) (n := i) (m := 100) (fun k hk => by have := hl k (by omega); omega)
      unfold gs_NEVER at b2
      have hli := hl i (by omega)
      have e : (l 0 + 256 * l 1 + 65536 * l 2) / 2 ^ (8 * i) % 256 = l i := by
        rcases (show i = 0 ∨ i = 1 ∨ i = 2 by omega) with rfl | rfl | rfl
        · simp only [Nat.mul_zero, Nat.pow_zero, Nat.div_one]; omega
        · simp only [Nat.mul_one, show 2 ^ 8 = 256 from rfl]; omega
        · simp only [show 8 * 2 = 16 from rfl, show 2 ^ 16 = 65536 from rfl]; omega
      refine gr_iload dX3_gapOf_8 rfl ?_
      refine gr_iload_n dX3_gapOf_10 rfl ?_
      refine gr_icmp_ge 47 dX3_gapOf_11 (by decide) (by unfold gw_in; omega) (by unfold gw_in; omega) (fun h11 => ?_) (fun h11 => ?_)
      · omega
      · refine gr_iload_n dX3_gapOf_14 rfl ?_
        refine gr_iload dX3_gapOf_15 rfl ?_
        refine gr_bipush dX3_gapOf_17 (by decide) ?_
        refine gr_imul (v := ((8 * i : Nat) : Int)) dX3_gapOf_19 (by omega) ?_
        refine gr_ishr (v := (((l 0 + 256 * l 1 + 65536 * l 2) / 2 ^ (8 * i) : Nat) : Int)) dX3_gapOf_20 (ga_shrN (by omega) (by omega)) ?_
        refine gr_sipush dX3_gapOf_21 (by decide) ?_
        refine gr_iand (v := ((l i : Nat) : Int)) dX3_gapOf_24 (by rw [ga_and255N, e]) ?_
        refine gr_istore dX3_gapOf_25 (by decide) ?_
        refine gr_iload_n dX3_gapOf_27 rfl ?_
        refine gr_iload dX3_gapOf_28 rfl ?_
        refine gr_mmax dX3_gapOf_30 mX3_100 mm_max1 mm_ini mm_max2 (gw_Rm_1 (by omega) (by decide) (by decide)) (by unfold gw_in; omega) (by unfold gw_in; omega) (Nat.le_of_ble_eq_true rfl) ?_
        refine gr_istore_n dX3_gapOf_33 (by decide) ?_
        refine gr_iload_n dX3_gapOf_34 rfl ?_
        refine gr_iload dX3_gapOf_35 rfl ?_
        refine gr_mmin dX3_gapOf_37 mX3_73 mm_min1 mm_ini mm_min2 (gw_Rm_1 (by omega) (by decide) (by decide)) (by unfold gw_in; omega) (by unfold gw_in; omega) (Nat.le_of_ble_eq_true rfl) ?_
        refine gr_istore_n dX3_gapOf_40 (by decide) ?_
        refine gr_iinc (v := ((i + 1 : Nat) : Int)) dX3_gapOf_41 (by decide) rfl (by omega) ?_
        refine gr_goto 8 dX3_gapOf_44 (by decide) ?_
        exact ih (i + 1) (some (.inl (l i : Int))) (by omega)
  exact key n 0 none (by omega)
theorem c_widen {q m y : Nat} (d : Nat) (hF : gq_K F) (hq : gw_sh q = (10, 784)) (hqn : q < 114) (hy : 0 < y) (hy7 : y ≤ 7) (hmy : m * y ≤ 784) : gw_Met jX3_widen d [.inr (some 12), .inr (some q), .inl (m : Int), .inl (y : Int)] (114, I, F) (gw_io F (fun r I' => r = ((m * y : Nat) : Int) ∧ ∀ a t, I' a t = if a = q ∧ t < m * y then I q (t / y) + I 65 (t % y) else I a t)) := by
  obtain ⟨f0, f1, f3, f4, f5, f6, f7, f8, f9, f10, f11, f21, f55, fb, fp⟩ := hF
  have h65 : q ≠ 65 := by
    intro h
    rw [h] at hq
    cases hq
  refine gw_enter okX3_widen rfl (Nat.le_of_ble_eq_true rfl) ?_
  refine gr_iload_n dX3_widen_0 rfl ?_
  refine gr_iconst dX3_widen_1 ?_
  refine gr_isub dX3_widen_2 rfl ?_
  refine gr_istore dX3_widen_3 (by decide) ?_
  have key : ∀ (s : Nat) (I2 : Nat → Nat → Int) (x5 x6 : Option gw_V), s ≤ m → (∀ a t, I2 a t = if a = q ∧ s * y ≤ t ∧ t < m * y then I q (t / y) + I 65 (t % y) else I a t) → gw_G (gw_Cm jX3_widen d (gw_io F (fun r I' => r = ((m * y : Nat) : Int) ∧ ∀ a t, I' a t = if a = q ∧ t < m * y then I q (t / y) + I 65 (t % y) else I a t))) jX3_widen 5 [some (.inr (some 12)), some (.inr (some q)), some (.inl (m : Int)), some (.inl (y : Int)), some (.inl ((s : Int) - 1)), x5, x6] [] (114, I2, F) 0 0 := by
    intro s
    induction s with
    | zero =>
      intro I2 x5 x6 hs hI
      refine gr_iload dX3_widen_5 rfl ?_
      refine gr_if_lt 57 dX3_widen_7 (by decide) (by unfold gw_in; omega) (fun h7 => ?_) (fun h7 => ?_)
      · refine gr_iload_n dX3_widen_57 rfl ?_
        refine gr_iload_n dX3_widen_58 rfl ?_
        refine gr_imul (v := ((m * y : Nat) : Int)) dX3_widen_59 (by rw [Int.natCast_mul]) ?_
        refine gr_iret dX3_widen_60 (by first | exact Or.inl rfl | exact Or.inr ⟨rfl, by omega⟩) (by decide) (by decide) (⟨_, _, rfl, rfl, rfl, fun a t => by rw [hI]; simp only [Nat.zero_mul, Nat.zero_le, true_and]⟩)
      · omega
    | succ s ih =>
      intro I2 x5 x6 hs hI
      have hsy : (s + 1) * y = s * y + y := by rw [Nat.add_mul, Nat.one_mul]
      have hsm : (s + 1) * y ≤ m * y := Nat.mul_le_mul_right y hs
      have hss : s ≤ s * y := Nat.le_mul_of_pos_right s hy
      have hs7 : s < 784 := by omega
      have e1 : ((s + 1 : Nat) : Int) - 1 = (s : Int) := by omega
      rw [e1]
      refine gr_iload dX3_widen_5 rfl ?_
      refine gr_if_lt 57 dX3_widen_7 (by decide) (by unfold gw_in; omega) (fun h7 => ?_) (fun h7 => ?_)
      · omega
      · refine gr_aload_n dX3_widen_10 rfl ?_
        refine gr_iload dX3_widen_11 rfl ?_
        refine gr_iald (i := s) dX3_widen_13 (by first | assumption | rfl) (by omega) (by omega) (by omega) (by decide) ?_
        refine gr_istore dX3_widen_14 (by decide) ?_
        refine gr_iload_n dX3_widen_16 rfl ?_
        refine gr_iconst dX3_widen_17 ?_
        refine gr_isub dX3_widen_18 rfl ?_
        refine gr_istore dX3_widen_19 (by decide) ?_
        have hsum : I2 q s = I q s := by
          rw [hI, if_neg (by omega)]
        rw [hsum]
        have inner : ∀ (n : Nat) (I3 : Nat → Nat → Int), n ≤ y → (∀ a t, I3 a t = if a = q ∧ s * y + n ≤ t ∧ t < m * y then I q (t / y) + I 65 (t % y) else I a t) → gw_G (gw_Cm jX3_widen d (gw_io F (fun r I' => r = ((m * y : Nat) : Int) ∧ ∀ a t, I' a t = if a = q ∧ t < m * y then I q (t / y) + I 65 (t % y) else I a t))) jX3_widen 21 [some (.inr (some 12)), some (.inr (some q)), some (.inl (m : Int)), some (.inl (y : Int)), some (.inl (s : Int)), some (.inl (I q s)), some (.inl ((n : Int) - 1))] [] (114, I3, F) 0 0 := by
          intro n
          induction n with
          | zero =>
            intro I3 hn hI3
            refine gr_iload dX3_widen_21 rfl ?_
            refine gr_if_lt 51 dX3_widen_23 (by decide) (by unfold gw_in; omega) (fun h23 => ?_) (fun h23 => ?_)
            · refine gr_iinc (v := ((s : Int) - 1)) dX3_widen_51 (by decide) rfl (by omega) ?_
              refine gr_goto 5 dX3_widen_54 (by decide) ?_
              exact ih I3 _ _ (by omega) hI3
            · omega
          | succ n ihn =>
            intro I3 hn hI3
            have e2 : ((n + 1 : Nat) : Int) - 1 = (n : Int) := by omega
            rw [e2]
            refine gr_iload dX3_widen_21 rfl ?_
            refine gr_if_lt 51 dX3_widen_23 (by decide) (by unfold gw_in; omega) (fun h23 => ?_) (fun h23 => ?_)
            · omega
            · have hadd : I3 65 n = I 65 n := by rw [hI3, if_neg (by omega)]
              refine gr_aload_n dX3_widen_26 rfl ?_
              refine gr_iload dX3_widen_27 rfl ?_
              refine gr_iload_n dX3_widen_29 rfl ?_
              refine gr_imul (v := ((s * y : Nat) : Int)) dX3_widen_30 (by rw [Int.natCast_mul]) ?_
              refine gr_iload dX3_widen_31 rfl ?_
              refine gr_iadd dX3_widen_33 rfl ?_
              refine gr_iload dX3_widen_34 rfl ?_
              refine gr_aload_n dX3_widen_36 rfl ?_
              refine gr_getR dX3_widen_37 fX3_44 (by first | assumption | rfl) (by omega) (by decide) rfl (by assumption) ?_
              refine gr_iload dX3_widen_40 rfl ?_
              refine gr_iald (i := n) dX3_widen_42 (by first | assumption | rfl) (by omega) (by omega) (by omega) (by decide) ?_
              rw [hadd]
              refine gr_iadd dX3_widen_43 rfl ?_
              refine gr_iast (i := s * y + n) dX3_widen_44 (by first | assumption | rfl) (by omega) (by omega) (by omega) (by decide) ?_
              refine gr_iinc (v := ((n : Int) - 1)) dX3_widen_45 (by decide) rfl (by omega) ?_
              refine gr_goto 21 dX3_widen_48 (by decide) ?_
              refine ihn _ (by omega) (fun a t => ?_)
              have d1 : (s * y + n) / y = s := by
                rw [Nat.mul_comm, Nat.mul_add_div hy, Nat.div_eq_of_lt (by omega), Nat.add_zero]
              have d2 : (s * y + n) % y = n := by
                rw [Nat.mul_comm, Nat.mul_add_mod, Nat.mod_eq_of_lt (by omega)]
              unfold gw_U
              rw [hI3]
              by_cases ht : a = q ∧ t = s * y + n
              · rw [if_pos ht, if_pos ⟨ht.1, by omega, by omega⟩, ht.2, d1, d2]
              · rw [if_neg ht]
                grind
        refine inner y I2 (Nat.le_refl _) (fun a t => ?_)
        rw [hI, hsy]
  exact key m I _ _ (Nat.le_refl _) (fun a t => by rw [if_neg (by omega)])
end GQ
end
section
/-! Search: offer, findGaps, evenSpreads -/
theorem gq_man_congr {I I' : Nat → Nat → Int} {p c h : Nat} (e : ∀ a, a < 21 → I' a = I a) : gb_man I' 13 (I' 20) p c h = gb_man (gq_B I) 0 (I 20) p c h := by
  unfold gb_man gq_B
  simp only [e (13 + 1) (by omega), e (13 + 2) (by omega), e (13 + 3) (by omega), e (13 + 5) (by omega), e 20 (by omega), Nat.zero_add]
theorem gq_M_congr {I I' : Nat → Nat → Int} (e : ∀ a, a < 21 → I' a = I a) (h : gq_M I) : gq_M I' := by
  unfold gq_M gb_B at h ⊢
  simp only [e (13 + 1) (by omega), e (13 + 2) (by omega), e (13 + 3) (by omega), e (13 + 4) (by omega), e (13 + 5) (by omega), e 20 (by omega), e 19 (by omega), e 14 (by omega), e 13 (by omega)]
  exact h
def gs_chn (P : Nat) (B : Nat → Nat → Int) (N : Nat → Int) (set c p n : Nat) : List Nat := (List.range n).filter (gs_ok P B N set p c)
theorem gs_chn_s {P : Nat} {B : Nat → Nat → Int} {N : Nat → Int} {set c p n : Nat} : gs_chn P B N set c p (n + 1) = gs_chn P B N set c p n ++ (if gs_ok P B N set p c n = true then [n] else []) := by
  unfold gs_chn
  rw [List.range_succ, List.filter_append]
  congr 1
  simp [List.filter_cons]
theorem gs_chn_1 {P : Nat} {B : Nat → Nat → Int} {N : Nat → Int} {set c p : Nat} : gs_chn P B N set c p 1 = [0] := by
  rw [gs_chn_s]
  simp [gs_chn, gs_ok]
theorem gs_chn_stop {P : Nat} {B : Nat → Nat → Int} {N : Nat → Int} {set c p n : Nat} (hn : n ≤ 7) (h : ∀ k, n ≤ k → k < 7 → gs_ok P B N set p c k = false) : gs_chn P B N set c p n = gs_ch P B N set c p := by
  have : ∀ m, n + m ≤ 7 → gs_chn P B N set c p (n + m) = gs_chn P B N set c p n := by
    intro m
    induction m with
    | zero => intro _; rfl
    | succ m ih =>
      intro hm
      rw [show n + (m + 1) = n + m + 1 by omega, gs_chn_s, h (n + m) (by omega) (by omega), ih (by omega)]
      simp
  have h7 := this (7 - n) (by omega)
  rw [show n + (7 - n) = 7 by omega] at h7
  exact h7.symm
theorem gs_chn_le {P : Nat} {B : Nat → Nat → Int} {N : Nat → Int} {set c p n : Nat} : (gs_chn P B N set c p n).length ≤ n := by
  have := List.length_filter_le (gs_ok P B N set p c) (List.range n)
  rw [List.length_range] at this
  exact this
theorem gp_cnt_le (N : Nat → Int) (c : Nat) : gp_cnt N c ≤ 3 := by
  unfold gp_cnt
  split
  · omega
  · split
    · omega
    · split <;> omega
section GQ
variable {I : Nat → Nat → Int} {F : Nat → Nat → Option Nat}
/-- what offer leaves: only the choices of chord c change -/
def gq_offd (I I' : Nat → Nat → Int) (f : Nat → List Nat) (c n : Nat) : Prop := (∀ p, p < n → I' 54 (4 * c + p) = ((f p).length : Int) ∧ ∀ i, i < (f p).length → I' (22 + (4 * c + p)) i = ((f p).getD i 0 : Nat)) ∧ (∀ a i, ¬ (a = 54 ∧ 4 * c ≤ i ∧ i < 4 * c + 4) → ¬ (22 + 4 * c ≤ a ∧ a < 22 + 4 * c + 4) → I' a i = I a i)
theorem c_offer {c set P : Nat} (d : Nat) (hF : gq_K F) (hM : gq_M I) (hc : c < 8) (hset : set < 16) (hP : I 13 0 = (P : Int)) : gw_Met jX3_offer (d + 3) [.inr (some 12), .inl (c : Int), .inl (set : Int)] (114, I, F) (gw_vo F (fun I' => gq_offd I I' (gs_ch P (gq_B I) (I 20) set c) c 4)) := by
  obtain ⟨f0, f1, f3, f4, f5, f6, f7, f8, f9, f10, f11, f21, f55, fb, fp⟩ := hF
  obtain ⟨hB, hN, ⟨hP0, hP4⟩, ⟨hS0, hS8⟩, hrest, hbal, hbw⟩ := id hM
  have hcnt := gp_cnt_le (I 20) c
  have hsets : gw_sh 54 = (10, 32) := rfl
  refine gw_enter okX3_offer rfl (Nat.le_of_ble_eq_true rfl) ?_
  refine gr_iconst dX3_offer_0 ?_
  refine gr_aload_n dX3_offer_1 rfl ?_
  refine gr_getR dX3_offer_2 fX3_21 (by first | assumption | rfl) (by omega) (by decide) rfl (by assumption) ?_
  refine gr_iload_n dX3_offer_5 rfl ?_
  refine gr_virt dX3_offer_6 kX3_70 (as := [_]) rfl rfl (by first | assumption | rfl) (by omega) (Nat.le_of_ble_eq_true rfl) (gw_Rm_m (by omega) (by decide) (by decide)) (c_notesOf (c := c) (d + 1) fp hc hN) ?_
  rintro _ _ ⟨rfl, rfl⟩
  have hpw : 2 ^ gp_cnt (I 20) c ≤ 8 := by
    have := Nat.pow_le_pow_right (n := 2) (by omega) hcnt
    omega
  have hpw1 : 1 ≤ 2 ^ gp_cnt (I 20) c := Nat.one_le_two_pow
  refine gr_ishl (v := ((1 * 2 ^ gp_cnt (I 20) c : Nat) : Int)) dX3_offer_9 (ga_shlN (a := 1) (y := gp_cnt (I 20) c) (by omega) (by omega)) ?_
  refine gr_bipush dX3_offer_10 (by decide) ?_
  rw [Nat.one_mul]
  refine gr_mmin dX3_offer_12 mX3_73 mm_min1 mm_ini mm_min2 (gw_Rm_1 (by omega) (by decide) (by decide)) (by unfold gw_in; omega) (by unfold gw_in; omega) (Nat.le_of_ble_eq_true rfl) ?_
  obtain ⟨hands, hh⟩ : ∃ hands : Nat, (if (7 : Int) < ((2 ^ gp_cnt (I 20) c : Nat) : Int) then 7 else ((2 ^ gp_cnt (I 20) c : Nat) : Int)) = (hands : Int) := ⟨if 7 < 2 ^ gp_cnt (I 20) c then 7 else 2 ^ gp_cnt (I 20) c, by split <;> split <;> omega⟩
  have hh1 : 1 ≤ hands ∧ hands ≤ 7 ∧ (hands < 7 → hands = 2 ^ gp_cnt (I 20) c) ∧ hands ≤ 2 ^ gp_cnt (I 20) c := by split at hh <;> omega
  rw [hh]
  refine gr_istore_n dX3_offer_15 (by decide) ?_
  refine gr_iconst dX3_offer_16 ?_
  refine gr_istore dX3_offer_17 (by decide) ?_
  have key : ∀ (n p : Nat) (I2 : Nat → Nat → Int) (x5 x6 x7 : Option gw_V), p + n = 4 → gq_offd I I2 (gs_ch P (gq_B I) (I 20) set c) c p → gw_G (gw_Cm jX3_offer (d + 3) (gw_vo F (fun I' => gq_offd I I' (gs_ch P (gq_B I) (I 20) set c) c 4))) jX3_offer 19 [some (.inr (some 12)), some (.inl (c : Int)), some (.inl (set : Int)), some (.inl (hands : Int)), some (.inl (p : Int)), x5, x6, x7] [] (114, I2, F) 0 0 := by
    intro n
    induction n with
    | zero =>
      intro p I2 x5 x6 x7 hp hI
      have hp : p = 4 := by omega
      subst hp
      refine gr_iload dX3_offer_19 rfl ?_
      refine gr_iconst dX3_offer_21 ?_
      refine gr_icmp_ge 132 dX3_offer_22 (by decide) (by unfold gw_in; omega) (by unfold gw_in; omega) (fun h22 => ?_) (fun h22 => ?_)
      · refine gr_vret dX3_offer_132 rfl (by decide) (by decide) (⟨rfl, _, rfl, hI⟩)
      · omega
    | succ n ih =>
      intro p I2 x5 x6 x7 hp hI
      have hR := gq_sh22 (4 * c + p) (by omega)
      have hRF := f21 (4 * c + p) (by omega)
      obtain ⟨hI1, hI2⟩ := hI
      refine gr_iload dX3_offer_19 rfl ?_
      refine gr_iconst dX3_offer_21 ?_
      refine gr_icmp_ge 132 dX3_offer_22 (by decide) (by unfold gw_in; omega) (by unfold gw_in; omega) (fun h22 => ?_) (fun h22 => ?_)
      · omega
      · refine gr_iload_n dX3_offer_25 rfl ?_
        refine gr_iconst dX3_offer_26 ?_
        refine gr_imul dX3_offer_27 rfl ?_
        refine gr_iload dX3_offer_28 rfl ?_
        refine gr_iadd (v := ((4 * c + p : Nat) : Int)) dX3_offer_30 (by omega) ?_
        refine gr_istore dX3_offer_31 (by decide) ?_
        refine gr_iconst dX3_offer_33 ?_
        refine gr_istore dX3_offer_34 (by decide) ?_
        refine gr_aload_n dX3_offer_36 rfl ?_
        refine gr_getR dX3_offer_37 fX3_31 (by first | assumption | rfl) (by omega) (by decide) rfl (by assumption) ?_
        refine gr_iload dX3_offer_40 rfl ?_
        refine gr_rald (i := 4 * c + p) dX3_offer_42 (by first | assumption | rfl) (by omega) (by omega) (by omega) (by decide) (by assumption) ?_
        refine gr_iconst dX3_offer_43 ?_
        refine gr_iconst dX3_offer_44 ?_
        refine gr_iast (i := 0) dX3_offer_45 (by first | assumption | rfl) (by omega) (by omega) (by omega) (by decide) ?_
        refine gr_iload dX3_offer_46 rfl ?_
        refine gr_aload_n dX3_offer_48 rfl ?_
        refine gr_getR dX3_offer_49 fX3_12 (by first | assumption | rfl) (by omega) (by decide) rfl (by assumption) ?_
        refine gr_getI dX3_offer_52 fX3_79 (by first | assumption | rfl) (by omega) (by decide) rfl ?_
        have e13 : gw_U I2 (22 + (4 * c + p)) 0 0 13 0 = (P : Int) := by
          rw [gw_U_n (by omega), hI2 13 0 (by omega) (by omega)]; exact hP
        rw [e13]
        -- the end of a player's turn
        have fin : ∀ (I3 : Nat → Nat → Int) (y6 : Int) (y7 : Option gw_V), y6 = ((gs_ch P (gq_B I) (I 20) set c p).length : Int) → (∀ i, i < (gs_ch P (gq_B I) (I 20) set c p).length → I3 (22 + (4 * c + p)) i = ((gs_ch P (gq_B I) (I 20) set c p).getD i 0 : Nat)) → (∀ a i, a ≠ 22 + (4 * c + p) → I3 a i = I2 a i) → gw_G (gw_Cm jX3_offer (d + 3) (gw_vo F (fun I' => gq_offd I I' (gs_ch P (gq_B I) (I 20) set c) c 4))) jX3_offer 117 [some (.inr (some 12)), some (.inl (c : Int)), some (.inl (set : Int)), some (.inl (hands : Int)), some (.inl (p : Int)), some (.inl ((4 * c + p : Nat) : Int)), some (.inl y6), y7] [] (114, I3, F) 0 0 := by
          intro I3 y6 y7 h6 h7 h8
          refine gr_aload_n dX3_offer_117 rfl ?_
          refine gr_getR dX3_offer_118 fX3_34 (by first | assumption | rfl) (by omega) (by decide) rfl (by assumption) ?_
          refine gr_iload dX3_offer_121 rfl ?_
          refine gr_iload dX3_offer_123 rfl ?_
          refine gr_iast (i := 4 * c + p) dX3_offer_125 (by first | assumption | rfl) (by omega) (by omega) (by omega) (by decide) ?_
          refine gr_iinc (v := ((p + 1 : Nat) : Int)) dX3_offer_126 (by decide) rfl (by omega) ?_
          refine gr_goto 19 dX3_offer_129 (by decide) ?_
          refine ih (p + 1) _ _ _ _ (by omega) ⟨fun q hq => ?_, fun a i h1 h2 => ?_⟩
          · by_cases hqp : q = p
            · subst hqp
              refine ⟨by rw [gw_U_s, h6], fun i hi => ?_⟩
              rw [gw_U_n (by omega)]
              exact h7 i hi
            · obtain ⟨g1, g2⟩ := hI1 q (by omega)
              refine ⟨by rw [gw_U_n (by omega), h8 _ _ (by omega)]; exact g1, fun i hi => ?_⟩
              rw [gw_U_n (by omega), h8 _ _ (by omega)]
              exact g2 i hi
          · rw [gw_U_n (by omega), h8 _ _ (by omega)]
            exact hI2 a i h1 h2
        have one : (∀ k, 1 ≤ k → k < 7 → gs_ok P (gq_B I) (I 20) set p c k = false) → gw_G (gw_Cm jX3_offer (d + 3) (gw_vo F (fun I' => gq_offd I I' (gs_ch P (gq_B I) (I 20) set c) c 4))) jX3_offer 117 [some (.inr (some 12)), some (.inl (c : Int)), some (.inl (set : Int)), some (.inl (hands : Int)), some (.inl (p : Int)), some (.inl ((4 * c + p : Nat) : Int)), some (.inl 1), x7] [] (114, gw_U I2 (22 + (4 * c + p)) 0 0, F) 0 0 := by
          intro hno
          have e1 := gs_chn_stop (n := 1) (by omega) hno
          rw [gs_chn_1] at e1
          refine fin _ 1 x7 (by rw [← e1]; rfl) (fun i hi => ?_) (fun a i ha => gw_U_n (by omega))
          rw [← e1] at hi ⊢
          have hi : i = 0 := by simpa using hi
          subst hi
          rw [gw_U_s]
          rfl
        refine gr_icmp_ge 117 dX3_offer_55 (by decide) (by unfold gw_in; omega) (by unfold gw_in; omega) (fun h55 => ?_) (fun h55 => ?_)
        · exact one (fun k h1 h2 => by simp [gs_ok, show ¬ p < P by omega]; omega)
        · refine gr_iload_n dX3_offer_58 rfl ?_
          refine gr_iload dX3_offer_59 rfl ?_
          refine gr_ishr (v := ((set / 2 ^ p : Nat) : Int)) dX3_offer_61 (ga_bit (by omega) (by omega)) ?_
          refine gr_iconst dX3_offer_62 ?_
          refine gr_iand (v := ((set / 2 ^ p % 2 : Nat) : Int)) dX3_offer_63 (ga_bit1 _) ?_
          refine gr_iconst dX3_offer_64 ?_
          refine gr_icmp_ne 117 dX3_offer_65 (by decide) (by unfold gw_in; omega) (by unfold gw_in; omega) (fun h65 => ?_) (fun h65 => ?_)
          · exact one (fun k h1 h2 => by simp [gs_ok, show ¬ set / 2 ^ p % 2 = 1 by omega]; omega)
          · refine gr_iconst dX3_offer_68 ?_
            refine gr_istore dX3_offer_69 (by decide) ?_
            have inner : ∀ (m h : Nat) (I3 : Nat → Nat → Int), h + m = hands → 1 ≤ h → (∀ i, i < (gs_chn P (gq_B I) (I 20) set c p h).length → I3 (22 + (4 * c + p)) i = ((gs_chn P (gq_B I) (I 20) set c p h).getD i 0 : Nat)) → (∀ a i, a ≠ 22 + (4 * c + p) → I3 a i = I2 a i) → gw_G (gw_Cm jX3_offer (d + 3) (gw_vo F (fun I' => gq_offd I I' (gs_ch P (gq_B I) (I 20) set c) c 4))) jX3_offer 71 [some (.inr (some 12)), some (.inl (c : Int)), some (.inl (set : Int)), some (.inl (hands : Int)), some (.inl (p : Int)), some (.inl ((4 * c + p : Nat) : Int)), some (.inl ((gs_chn P (gq_B I) (I 20) set c p h).length : Int)), some (.inl (h : Int))] [] (114, I3, F) 0 0 := by
              intro m
              induction m with
              | zero =>
                intro h I3 hhm hh0 h7 h8
                have hhe : h = hands := by omega
                subst hhe
                refine gr_iload dX3_offer_71 rfl ?_
                refine gr_iload_n dX3_offer_73 rfl ?_
                refine gr_icmp_ge 117 dX3_offer_74 (by decide) (by unfold gw_in; omega) (by unfold gw_in; omega) (fun h74 => ?_) (fun h74 => ?_)
                · have e7 := gs_chn_stop (P := P) (B := gq_B I) (N := I 20) (set := set) (c := c) (p := p) (n := h) (by omega) (fun k h1 h2 => by
                    simp [gs_ok]
                    exact ⟨by omega, fun _ _ h => by omega⟩)
                  rw [e7] at h7 ⊢
                  exact fin I3 _ _ rfl h7 h8
                · omega
              | succ m ihm =>
                intro h I3 hhm hh0 h7 h8
                have eq21 : ∀ a, a < 21 → I3 a = I a := fun a ha => by
                  funext i
                  rw [h8 a i (by omega), hI2 a i (by omega) (by omega)]
                have hM3 := gq_M_congr eq21 hM
                obtain ⟨hB3, hN3, -⟩ := id hM3
                have hlen := gs_chn_le (P := P) (B := gq_B I) (N := I 20) (set := set) (c := c) (p := p) (n := h)
                refine gr_iload dX3_offer_71 rfl ?_
                refine gr_iload_n dX3_offer_73 rfl ?_
                refine gr_icmp_ge 117 dX3_offer_74 (by decide) (by unfold gw_in; omega) (by unfold gw_in; omega) (fun h74 => ?_) (fun h74 => ?_)
                · omega
                · refine gr_aload_n dX3_offer_77 rfl ?_
                  refine gr_getR dX3_offer_78 fX3_12 (by first | assumption | rfl) (by omega) (by decide) rfl (by assumption) ?_
                  refine gr_iload dX3_offer_81 rfl ?_
                  refine gr_aload_n dX3_offer_83 rfl ?_
                  refine gr_getR dX3_offer_84 fX3_21 (by first | assumption | rfl) (by omega) (by decide) rfl (by assumption) ?_
                  refine gr_iload_n dX3_offer_87 rfl ?_
                  refine gr_iload dX3_offer_88 rfl ?_
                  refine gr_virt dX3_offer_90 kX3_82 (as := [_, _, _, _]) rfl rfl (by first | assumption | rfl) (by omega) (Nat.le_of_ble_eq_true rfl) (gw_Rm_m (by omega) (by decide) (by decide)) (c_manages (p := p) (c := c) (h := h) (k := 19) d fb fp (by omega) hc (by omega) hB3 hN3) ?_
                  rintro _ _ ⟨rfl, rfl⟩
                  rw [gq_man_congr eq21]
                  have hokh : gs_ok P (gq_B I) (I 20) set p c h = gb_man (gq_B I) 0 (I 20) p c h := by
                    unfold gs_ok
                    have a1 : p < P := by omega
                    have a2 : set / 2 ^ p % 2 = 1 := by omega
                    have a3 : h < 2 ^ gp_cnt (I 20) c := by omega
                    have a4 : ¬ h = 0 := by omega
                    simp [a1, a2, a3, a4]
                  rw [← hokh]
                  by_cases hk : gs_ok P (gq_B I) (I 20) set p c h = true
                  · rw [if_pos hk]
                    refine gr_if_eq 111 dX3_offer_93 (by decide) (by unfold gw_in; omega) (fun h93 => ?_) (fun h93 => ?_)
                    · omega
                    · have es := gs_chn_s (P := P) (B := gq_B I) (N := I 20) (set := set) (c := c) (p := p) (n := h)
                      rw [if_pos hk] at es
                      refine gr_aload_n dX3_offer_96 rfl ?_
                      refine gr_getR dX3_offer_97 fX3_31 (by first | assumption | rfl) (by omega) (by decide) rfl (by assumption) ?_
                      refine gr_iload dX3_offer_100 rfl ?_
                      refine gr_rald (i := 4 * c + p) dX3_offer_102 (by first | assumption | rfl) (by omega) (by omega) (by omega) (by decide) (by assumption) ?_
                      refine gr_iload dX3_offer_103 rfl ?_
                      refine gr_iload dX3_offer_105 rfl ?_
                      refine gr_iast (i := (gs_chn P (gq_B I) (I 20) set c p h).length) dX3_offer_107 (by first | assumption | rfl) (by omega) (by omega) (by omega) (by decide) ?_
                      refine gr_iinc (v := ((gs_chn P (gq_B I) (I 20) set c p (h + 1)).length : Int)) dX3_offer_108 (by decide) rfl (by rw [es, List.length_append]; rfl) ?_
                      refine gr_iinc (v := ((h + 1 : Nat) : Int)) dX3_offer_111 (by decide) rfl (by omega) ?_
                      refine gr_goto 71 dX3_offer_114 (by decide) ?_
                      refine ihm (h + 1) _ (by omega) (by omega) (fun i hi => ?_) (fun a i ha => by rw [gw_U_n (by omega)]; exact h8 a i ha)
                      rw [es] at hi ⊢
                      rw [List.length_append] at hi
                      by_cases hil : i = (gs_chn P (gq_B I) (I 20) set c p h).length
                      · subst hil
                        rw [gw_U_s, List.getD_eq_getElem?_getD, List.getElem?_append_right (Nat.le_refl _), Nat.sub_self]
                        rfl
                      · have hi2 : i < (gs_chn P (gq_B I) (I 20) set c p h).length := by
                          have : [h].length = 1 := rfl
                          omega
                        rw [gw_U_n (by omega), h7 i hi2, List.getD_eq_getElem?_getD, List.getD_eq_getElem?_getD, List.getElem?_append_left hi2]
                  · rw [if_neg hk]
                    refine gr_if_eq 111 dX3_offer_93 (by decide) (by unfold gw_in; omega) (fun h93 => ?_) (fun h93 => ?_)
                    · have es := gs_chn_s (P := P) (B := gq_B I) (N := I 20) (set := set) (c := c) (p := p) (n := h)
                      rw [if_neg hk, List.append_nil] at es
                      refine gr_iinc (v := ((h + 1 : Nat) : Int)) dX3_offer_111 (by decide) rfl (by omega) ?_
                      refine gr_goto 71 dX3_offer_114 (by decide) ?_
                      have r := ihm (h + 1) I3 (by omega) (by omega) (by rw [es]; exact h7) h8
                      rw [es] at r
                      exact r
                    · omega
            have r := inner (hands - 1) 1 (gw_U I2 (22 + (4 * c + p)) 0 0) (by omega) (by omega) (fun i hi => by
              rw [gs_chn_1] at hi ⊢
              have hi : i = 0 := by simpa using hi
              subst hi
              rw [gw_U_s]
              rfl) (fun a i ha => gw_U_n (by omega))
            rw [gs_chn_1] at r
            exact r
  exact key 4 0 I _ _ _ (by omega) ⟨fun p hp => absurd hp (by omega), fun a i _ _ => rfl⟩
end GQ
end
section
/-! Search: findGaps, evenSpreads -/
theorem gq_pl_congr {I I' : Nat → Nat → Int} {p h : Nat} (e : ∀ a, a < 21 → I' a = I a) : gs_pl (gq_B I') p h = gs_pl (gq_B I) p h := by
  unfold gs_pl gb_str gq_B
  simp only [e (13 + (0 + 4)) (by omega)]
theorem gs_len_mono {f : Nat → List Nat} (hf : ∀ p, p < 4 → 0 < (f p).length) : ∀ p, p < 4 → (gs_sp f (p + 1)).length ≤ (gs_sp f 4).length := by
  have st : ∀ p, p < 4 → (gs_sp f p).length ≤ (gs_sp f (p + 1)).length := fun p hp => by
    rw [gs_len]
    exact Nat.le_mul_of_pos_right _ (hf p hp)
  intro p hp
  rcases (show p = 0 ∨ p = 1 ∨ p = 2 ∨ p = 3 by omega) with rfl | rfl | rfl | rfl
  · exact Nat.le_trans (Nat.le_trans (st 1 (by omega)) (st 2 (by omega))) (st 3 (by omega))
  · exact Nat.le_trans (st 2 (by omega)) (st 3 (by omega))
  · exact st 3 (by omega)
  · exact Nat.le_refl _
theorem gs_pk_s {B : Nat → Nat → Int} {p k h : Nat} (hh : h < 8) : gs_pk B (p + 1) (8 * k + h) = gs_pk B p k + gs_pl B p h := by
  simp only [gs_pk]
  rw [show (8 * k + h) / 8 = k by omega, show (8 * k + h) % 8 = h by omega]
section GQ
variable {I : Nat → Nat → Int} {F : Nat → Nat → Option Nat}
theorem c_findGaps {c : Nat} {f : Nat → List Nat} (d : Nat) (hF : gq_K F) (hM : gq_M I) (hc : c < 8) (hf : gq_off I f c) (hf1 : ∀ p, p < 4 → 0 < (f p).length) (hf7 : ∀ p, p < 4 → (f p).length ≤ 7) (hf8 : ∀ p, p < 4 → ∀ i, i < (f p).length → (f p).getD i 0 < 8) (hlen : (gs_sp f 4).length ≤ 784) : gw_Met jX3_findGaps (d + 3) [.inr (some 12), .inl (c : Int)] (114, I, F) (gw_io F (fun r I' => r = ((gs_sp f 4).length : Int) ∧ (∀ a i, a ≠ 64 → a ≠ 65 → I' a i = I a i) ∧ ∀ t, t < (gs_sp f 4).length → I' 64 t = gs_gap (gq_B I) (gp_cnt (I 20) c) ((gs_sp f 4).getD t 0))) := by
  have hF' := hF
  obtain ⟨f0, f1, f3, f4, f5, f6, f7, f8, f9, f10, f11, f21, f55, fb, fp⟩ := hF
  obtain ⟨hB, hN, -⟩ := id hM
  have hcnt := gp_cnt_le (I 20) c
  have hmono := gs_len_mono hf1
  generalize hQ : (gw_io F (fun r I' => r = ((gs_sp f 4).length : Int) ∧ (∀ a i, a ≠ 64 → a ≠ 65 → I' a i = I a i) ∧ ∀ t, t < (gs_sp f 4).length → I' 64 t = gs_gap (gq_B I) (gp_cnt (I 20) c) ((gs_sp f 4).getD t 0))) = Q
  refine gw_enter okX3_findGaps rfl (Nat.le_of_ble_eq_true rfl) ?_
  refine gr_iconst dX3_findGaps_0 ?_
  refine gr_istore_n dX3_findGaps_1 (by decide) ?_
  refine gr_aload_n dX3_findGaps_2 rfl ?_
  refine gr_getR dX3_findGaps_3 fX3_41 (by first | assumption | rfl) (by omega) (by decide) rfl (by assumption) ?_
  refine gr_iconst dX3_findGaps_6 ?_
  refine gr_iconst dX3_findGaps_7 ?_
  refine gr_iast (i := 0) dX3_findGaps_8 (by first | assumption | rfl) (by omega) (by omega) (by omega) (by decide) ?_
  refine gr_iconst dX3_findGaps_9 ?_
  refine gr_istore_n dX3_findGaps_10 (by decide) ?_
  have key : ∀ (n p : Nat) (I2 : Nat → Nat → Int) (x4 x5 : Option gw_V), p + n = 4 → (∀ a i, a ≠ 64 → a ≠ 65 → I2 a i = I a i) → (∀ t, t < (gs_sp f p).length → I2 64 t = gs_pk (gq_B I) p ((gs_sp f p).getD t 0)) → gw_G (gw_Cm jX3_findGaps (d + 3) Q) jX3_findGaps 11 [some (.inr (some 12)), some (.inl (c : Int)), some (.inl ((gs_sp f p).length : Int)), some (.inl (p : Int)), x4, x5] [] (114, I2, F) 0 0 := by
    intro n
    induction n with
    | zero =>
      intro p I2 x4 x5 hp h1 h2
      have hp : p = 4 := by omega
      subst hp
      have eq21 : ∀ a, a < 21 → I2 a = I a := fun a ha => funext fun i => h1 a i (by omega) (by omega)
      refine gr_iload_n dX3_findGaps_11 rfl ?_
      refine gr_iconst dX3_findGaps_12 ?_
      refine gr_icmp_ge 89 dX3_findGaps_13 (by decide) (by unfold gw_in; omega) (by unfold gw_in; omega) (fun h13 => ?_) (fun h13 => ?_)
      · refine gr_aload_n dX3_findGaps_89 rfl ?_
        refine gr_getR dX3_findGaps_90 fX3_21 (by first | assumption | rfl) (by omega) (by decide) rfl (by assumption) ?_
        refine gr_iload_n dX3_findGaps_93 rfl ?_
        refine gr_virt dX3_findGaps_94 kX3_70 (as := [_]) rfl rfl (by first | assumption | rfl) (by omega) (Nat.le_of_ble_eq_true rfl) (gw_Rm_m (by omega) (by decide) (by decide)) (c_notesOf (c := c) (d + 1) fp hc (by rw [eq21 20 (by omega)]; exact hN)) ?_
        rintro _ _ ⟨rfl, rfl⟩
        rw [show I2 (19 + 1) = I 20 from eq21 20 (by omega)]
        refine gr_istore_n dX3_findGaps_97 (by decide) ?_
        refine gr_iconst dX3_findGaps_98 ?_
        refine gr_istore dX3_findGaps_99 (by decide) ?_
        have loop : ∀ (m t : Nat) (I3 : Nat → Nat → Int), t + m = (gs_sp f 4).length → (∀ a i, a ≠ 64 → a ≠ 65 → I3 a i = I a i) → (∀ s, s < t → I3 64 s = gs_gap (gq_B I) (gp_cnt (I 20) c) ((gs_sp f 4).getD s 0)) → (∀ s, t ≤ s → s < (gs_sp f 4).length → I3 64 s = gs_pk (gq_B I) 4 ((gs_sp f 4).getD s 0)) → gw_G (gw_Cm jX3_findGaps (d + 3) Q) jX3_findGaps 101 [some (.inr (some 12)), some (.inl (c : Int)), some (.inl ((gs_sp f 4).length : Int)), some (.inl (gp_cnt (I 20) c : Nat)), some (.inl (t : Int)), x5] [] (114, I3, F) 0 0 := by
          intro m
          induction m with
          | zero =>
            intro t I3 ht g1 g2 g3
            refine gr_iload dX3_findGaps_101 rfl ?_
            refine gr_iload_n dX3_findGaps_103 rfl ?_
            refine gr_icmp_ge 131 dX3_findGaps_104 (by decide) (by unfold gw_in; omega) (by unfold gw_in; omega) (fun h104 => ?_) (fun h104 => ?_)
            · refine gr_iload_n dX3_findGaps_131 rfl ?_
              refine gr_iret dX3_findGaps_132 (by first | exact Or.inl rfl | exact Or.inr ⟨rfl, by omega⟩) (by decide) (by decide) ((by rw [← hQ]; exact ⟨_, _, rfl, rfl, rfl, g1, fun s hs => g2 s (by omega)⟩))
            · omega
          | succ m ihm =>
            intro t I3 ht g1 g2 g3
            refine gr_iload dX3_findGaps_101 rfl ?_
            refine gr_iload_n dX3_findGaps_103 rfl ?_
            refine gr_icmp_ge 131 dX3_findGaps_104 (by decide) (by unfold gw_in; omega) (by unfold gw_in; omega) (fun h104 => ?_) (fun h104 => ?_)
            · omega
            · have hb4 := fun i => gs_ld_in (B := gq_B I) hB i 4 ((gs_sp f 4).getD t 0) (by omega)
              have e4 : I3 64 t = (((gs_ld (gq_B I) 0 4 ((gs_sp f 4).getD t 0)).toNat + 256 * (gs_ld (gq_B I) 1 4 ((gs_sp f 4).getD t 0)).toNat + 65536 * (gs_ld (gq_B I) 2 4 ((gs_sp f 4).getD t 0)).toNat : Nat) : Int) := by
                rw [g3 t (by omega) (by omega), gs_pk_ld]
                have b0 := hb4 0
                have b1 := hb4 1
                have b2 := hb4 2
                omega
              refine gr_aload_n dX3_findGaps_107 rfl ?_
              refine gr_getR dX3_findGaps_108 fX3_41 (by first | assumption | rfl) (by omega) (by decide) rfl (by assumption) ?_
              refine gr_iload dX3_findGaps_111 rfl ?_
              refine gr_aload_n dX3_findGaps_113 rfl ?_
              refine gr_getR dX3_findGaps_114 fX3_41 (by first | assumption | rfl) (by omega) (by decide) rfl (by assumption) ?_
              refine gr_iload dX3_findGaps_117 rfl ?_
              refine gr_iald (i := t) dX3_findGaps_119 (by first | assumption | rfl) (by omega) (by omega) (by omega) (by decide) ?_
              refine gr_iload_n dX3_findGaps_120 rfl ?_
              rw [e4]
              refine gr_stat dX3_findGaps_121 kX3_93 (as := [_, _]) rfl rfl (Nat.le_of_ble_eq_true rfl) (gw_Rm_m (by omega) (by decide) (by decide)) (c_gapOf (l := fun i => (gs_ld (gq_B I) i 4 ((gs_sp f 4).getD t 0)).toNat) (d + 1) hcnt (fun i _ => by have := hb4 i; omega)) ?_
              rintro _ _ ⟨rfl, rfl⟩
              rw [show (fun i => (((gs_ld (gq_B I) i 4 ((gs_sp f 4).getD t 0)).toNat : Nat) : Int)) = fun i => gs_ld (gq_B I) i 4 ((gs_sp f 4).getD t 0) from funext fun i => by have := hb4 i; omega]
              refine gr_iast (i := t) dX3_findGaps_124 (by first | assumption | rfl) (by omega) (by omega) (by omega) (by decide) ?_
              refine gr_iinc (v := ((t + 1 : Nat) : Int)) dX3_findGaps_125 (by decide) rfl (by omega) ?_
              refine gr_goto 101 dX3_findGaps_128 (by decide) ?_
              refine ihm (t + 1) _ (by omega) (fun a i ha hb => by rw [gw_U_n (by omega)]; exact g1 a i ha hb) (fun s hs => ?_) (fun s hs1 hs2 => by rw [gw_U_n (by omega)]; exact g3 s (by omega) hs2)
              by_cases hst : s = t
              · subst hst
                rw [gw_U_s]
                rfl
              · rw [gw_U_n (by omega)]
                exact g2 s (by omega)
        exact loop (gs_sp f 4).length 0 I2 (by omega) h1 (fun s hs => absurd hs (by omega)) (fun s _ hs => h2 s hs)
      · omega
    | succ n ih =>
      intro p I2 x4 x5 hp h1 h2
      obtain ⟨hfp1, hfp2⟩ := hf p (by omega)
      have hl1 := hf1 p (by omega)
      have hl7 := hf7 p (by omega)
      have hR := gq_sh22 (4 * c + p) (by omega)
      have hRF := f21 (4 * c + p) (by omega)
      have hm := hmono p (by omega)
      rw [gs_len] at hm
      refine gr_iload_n dX3_findGaps_11 rfl ?_
      refine gr_iconst dX3_findGaps_12 ?_
      refine gr_icmp_ge 89 dX3_findGaps_13 (by decide) (by unfold gw_in; omega) (by unfold gw_in; omega) (fun h13 => ?_) (fun h13 => ?_)
      · omega
      · refine gr_iload_n dX3_findGaps_16 rfl ?_
        refine gr_iconst dX3_findGaps_17 ?_
        refine gr_imul dX3_findGaps_18 rfl ?_
        refine gr_iload_n dX3_findGaps_19 rfl ?_
        refine gr_iadd (v := ((4 * c + p : Nat) : Int)) dX3_findGaps_20 (by omega) ?_
        refine gr_istore dX3_findGaps_21 (by decide) ?_
        refine gr_iconst dX3_findGaps_23 ?_
        refine gr_istore dX3_findGaps_24 (by decide) ?_
        have inner : ∀ (m j : Nat) (I3 : Nat → Nat → Int), j + m = (f p).length → (∀ a i, a ≠ 65 → I3 a i = I2 a i) → (∀ i, i < j → I3 65 i = gs_pl (gq_B I) p ((f p).getD i 0)) → gw_G (gw_Cm jX3_findGaps (d + 3) Q) jX3_findGaps 26 [some (.inr (some 12)), some (.inl (c : Int)), some (.inl ((gs_sp f p).length : Int)), some (.inl (p : Int)), some (.inl ((4 * c + p : Nat) : Int)), some (.inl (j : Int))] [] (114, I3, F) 0 0 := by
          intro m
          induction m with
          | zero =>
            intro j I3 hj g1 g2
            have hj : j = (f p).length := by omega
            subst hj
            have e1 : I3 54 (4 * c + p) = ((f p).length : Int) := by
              rw [g1 _ _ (by omega), h1 _ _ (by omega) (by omega)]; exact hfp1
            refine gr_iload dX3_findGaps_26 rfl ?_
            refine gr_aload_n dX3_findGaps_28 rfl ?_
            refine gr_getR dX3_findGaps_29 fX3_34 (by first | assumption | rfl) (by omega) (by decide) rfl (by assumption) ?_
            refine gr_iload dX3_findGaps_32 rfl ?_
            refine gr_iald (i := 4 * c + p) dX3_findGaps_34 (by first | assumption | rfl) (by omega) (by omega) (by omega) (by decide) ?_
            rw [e1]
            refine gr_icmp_ge 66 dX3_findGaps_35 (by decide) (by unfold gw_in; omega) (by unfold gw_in; omega) (fun h35 => ?_) (fun h35 => ?_)
            · refine gr_aload_n dX3_findGaps_66 rfl ?_
              refine gr_aload_n dX3_findGaps_67 rfl ?_
              refine gr_getR dX3_findGaps_68 fX3_41 (by first | assumption | rfl) (by omega) (by decide) rfl (by assumption) ?_
              refine gr_iload_n dX3_findGaps_71 rfl ?_
              refine gr_aload_n dX3_findGaps_72 rfl ?_
              refine gr_getR dX3_findGaps_73 fX3_34 (by first | assumption | rfl) (by omega) (by decide) rfl (by assumption) ?_
              refine gr_iload dX3_findGaps_76 rfl ?_
              refine gr_iald (i := 4 * c + p) dX3_findGaps_78 (by first | assumption | rfl) (by omega) (by omega) (by omega) (by decide) ?_
              rw [e1]
              refine gr_virt dX3_findGaps_79 kX3_89 (as := [_, _, _]) rfl rfl (by first | assumption | rfl) (by omega) (Nat.le_of_ble_eq_true rfl) (gw_Rm_m (by omega) (by decide) (by decide)) (c_widen (q := 64) (m := (gs_sp f p).length) (y := (f p).length) (d + 2) hF' rfl (by omega) hl1 hl7 (by omega)) ?_
              rintro _ _ ⟨r, I4, rfl, rfl, rfl, hI4⟩
              refine gr_istore_n dX3_findGaps_82 (by decide) ?_
              refine gr_iinc (v := ((p + 1 : Nat) : Int)) dX3_findGaps_83 (by decide) rfl (by omega) ?_
              refine gr_goto 11 dX3_findGaps_86 (by decide) ?_
              have hg := gs_len f p
              rw [← hg]
              refine ih (p + 1) I4 _ _ (by omega) (fun a i ha hb => ?_) (fun t ht => ?_)
              · rw [hI4, if_neg (by omega), g1 a i hb]
                exact h1 a i ha hb
              · rw [hI4, if_pos ⟨rfl, by omega⟩, g1 64 _ (by omega)]
                have ht' := ht
                rw [hg] at ht'
                rw [h2 _ ((Nat.div_lt_iff_lt_mul hl1).mpr ht'), g2 _ (Nat.mod_lt _ hl1), gs_get f p t ht, gs_pk_s (hf8 p (by omega) _ (Nat.mod_lt _ hl1))]
            · omega
          | succ m ihm =>
            intro j I3 hj g1 g2
            have e1 : I3 54 (4 * c + p) = ((f p).length : Int) := by
              rw [g1 _ _ (by omega), h1 _ _ (by omega) (by omega)]; exact hfp1
            have e2 : I3 (22 + (4 * c + p)) j = ((f p).getD j 0 : Nat) := by
              rw [g1 _ _ (by omega), h1 _ _ (by omega) (by omega)]; exact hfp2 j (by omega)
            have eq21 : ∀ a, a < 21 → I3 a = I a := fun a ha => funext fun i => by rw [g1 a i (by omega)]; exact h1 a i (by omega) (by omega)
            obtain ⟨hB3, -⟩ := gq_M_congr eq21 hM
            refine gr_iload dX3_findGaps_26 rfl ?_
            refine gr_aload_n dX3_findGaps_28 rfl ?_
            refine gr_getR dX3_findGaps_29 fX3_34 (by first | assumption | rfl) (by omega) (by decide) rfl (by assumption) ?_
            refine gr_iload dX3_findGaps_32 rfl ?_
            refine gr_iald (i := 4 * c + p) dX3_findGaps_34 (by first | assumption | rfl) (by omega) (by omega) (by omega) (by decide) ?_
            rw [e1]
            refine gr_icmp_ge 66 dX3_findGaps_35 (by decide) (by unfold gw_in; omega) (by unfold gw_in; omega) (fun h35 => ?_) (fun h35 => ?_)
            · omega
            · refine gr_aload_n dX3_findGaps_38 rfl ?_
              refine gr_getR dX3_findGaps_39 fX3_44 (by first | assumption | rfl) (by omega) (by decide) rfl (by assumption) ?_
              refine gr_iload dX3_findGaps_42 rfl ?_
              refine gr_aload_n dX3_findGaps_44 rfl ?_
              refine gr_iload_n dX3_findGaps_45 rfl ?_
              refine gr_aload_n dX3_findGaps_46 rfl ?_
              refine gr_getR dX3_findGaps_47 fX3_31 (by first | assumption | rfl) (by omega) (by decide) rfl (by assumption) ?_
              refine gr_iload dX3_findGaps_50 rfl ?_
              refine gr_rald (i := 4 * c + p) dX3_findGaps_52 (by first | assumption | rfl) (by omega) (by omega) (by omega) (by decide) (by assumption) ?_
              refine gr_iload dX3_findGaps_53 rfl ?_
              refine gr_iald (i := j) dX3_findGaps_55 (by first | assumption | rfl) (by omega) (by omega) (by omega) (by decide) ?_
              rw [e2]
              refine gr_virt dX3_findGaps_56 kX3_86 (as := [_, _]) rfl rfl (by first | assumption | rfl) (by omega) (Nat.le_of_ble_eq_true rfl) (gw_Rm_m (by omega) (by decide) (by decide)) (c_packedLoud (p := p) (h := (f p).getD j 0) d hF' (by omega) (hf8 p (by omega) j (by omega)) hB3) ?_
              rintro _ _ ⟨rfl, rfl⟩
              rw [gq_pl_congr eq21]
              refine gr_iast (i := j) dX3_findGaps_59 (by first | assumption | rfl) (by omega) (by omega) (by omega) (by decide) ?_
              refine gr_iinc (v := ((j + 1 : Nat) : Int)) dX3_findGaps_60 (by decide) rfl (by omega) ?_
              refine gr_goto 26 dX3_findGaps_63 (by decide) ?_
              refine ihm (j + 1) _ (by omega) (fun a i ha => by rw [gw_U_n (by omega)]; exact g1 a i ha) (fun i hi => ?_)
              by_cases hij : i = j
              · subst hij
                rw [gw_U_s]
              · rw [gw_U_n (by omega)]
                exact g2 i (by omega)
        exact inner (f p).length 0 I2 (by omega) (fun _ _ _ => rfl) (fun i hi => absurd hi (by omega))
  refine key 4 0 _ none none (by omega) (fun a i ha hb => gw_U_n (by omega)) (fun t ht => ?_)
  have ht : t = 0 := by
    have : (gs_sp f 0).length = 1 := rfl
    omega
  subst ht
  rw [gw_U_s]
  rfl
/-- how many of a list's codes are even by b -/
def gs_ev (B : Nat → Nat → Int) (n : Nat) (b : Int) (k : Nat) : Bool := gs_gap B n k ≤ b
theorem gs_gap_in {B : Nat → Nat → Int} {n k : Nat} (hB : gs_B B) (hn : n ≤ 3) : -gs_NEVER ≤ gs_gap B n k ∧ gs_gap B n k ≤ gs_NEVER := by
  have h := fun i => gs_ld_in hB i 4 k (by omega)
  have b1 := gs_mx_in (l := fun i => gs_ld B i 4 k) (n := n) (m := 36) (fun i _ => by have := h i; omega)
  have b2 := gs_mi_in (l := fun i => gs_ld B i 4 k) (n := n) (m := 36) (fun i _ => by have := h i; omega)
  unfold gs_gap gs_gp gs_NEVER
  unfold gs_NEVER at b2
  split <;> omega
theorem c_evenSpreads {c set P : Nat} (d : Nat) (hF : gq_K F) (hM : gq_M I) (hc : c < 8) (hset : set < 16) (hP : I 13 0 = (P : Int)) : gw_Met jX3_evenSpreads (d + 4) [.inr (some 12), .inl (c : Int), .inl (set : Int)] (114, I, F) (gw_io F (fun r I' => r = (((gs_SP P (gq_B I) (I 20) set c).filter (gs_ev (gq_B I) (gp_cnt (I 20) c) (I 19 3))).length : Int) ∧ ∀ a, a < 21 ∨ 66 ≤ a → I' a = I a)) := by
  have hF' := hF
  obtain ⟨f0, f1, f3, f4, f5, f6, f7, f8, f9, f10, f11, f21, f55, fb, fp⟩ := hF
  obtain ⟨hB, hN, ⟨hP0, hP4⟩, ⟨hS0, hS8⟩, hrest, hbal, hbw⟩ := id hM
  obtain ⟨fp1, fp2, fp3, fp4⟩ := id fp
  have hbw' : gb_bw (gq_B I 1) P ≤ 2 := by
    rw [hP] at hbw
    exact hbw
  generalize hf : gs_ch P (gq_B I) (I 20) set c = f
  have hlen : (gs_sp f 4).length ≤ 784 := by rw [← hf]; exact gs_SP_len (by omega) hbw'
  refine gw_enter okX3_evenSpreads rfl (Nat.le_of_ble_eq_true rfl) ?_
  refine gr_aload_n dX3_evenSpreads_0 rfl ?_
  refine gr_iload_n dX3_evenSpreads_1 rfl ?_
  refine gr_iload_n dX3_evenSpreads_2 rfl ?_
  refine gr_virt dX3_evenSpreads_3 kX3_59 (as := [_, _]) rfl rfl (by first | assumption | rfl) (by omega) (Nat.le_of_ble_eq_true rfl) (gw_Rm_m (by omega) (by decide) (by decide)) (c_offer (c := c) (set := set) (P := P) d hF' hM hc hset hP) ?_
  rintro _ _ ⟨rfl, I1, rfl, hI1⟩
  rw [hf] at hI1
  have q21 : ∀ a, a < 21 ∨ 66 ≤ a → I1 a = I a := fun a ha => funext fun i => hI1.2 a i (by omega) (by omega)
  have q21' : ∀ a, a < 21 → I1 a = I a := fun a ha => q21 a (Or.inl ha)
  refine gr_aload_n dX3_evenSpreads_6 rfl ?_
  refine gr_iload_n dX3_evenSpreads_7 rfl ?_
  refine gr_virt dX3_evenSpreads_8 kX3_63 (as := [_]) rfl rfl (by first | assumption | rfl) (by omega) (Nat.le_of_ble_eq_true rfl) (gw_Rm_m (by omega) (by decide) (by decide)) (c_findGaps (c := c) (f := f) d hF' (gq_M_congr q21' hM) hc hI1.1 (fun p _ => by rw [← hf]; exact gs_ch_pos) (fun p _ => by rw [← hf]; exact gs_ch_len7) (fun p _ i hi => by rw [← hf] at hi ⊢; have hm := gs_ch_lt (List.getElem_mem hi); rw [List.getD_eq_getElem?_getD, List.getElem?_eq_getElem hi]; exact Nat.lt_of_lt_of_le hm (by omega)) hlen) ?_
  rintro _ _ ⟨r, I2, rfl, rfl, rfl, hI2, hg⟩
  rw [q21' 20 (by omega)] at hg
  have hBe : ∀ n k, gs_gap (gq_B I1) n k = gs_gap (gq_B I) n k := by
    intro n k
    have e : ∀ i p k, gs_ld (gq_B I1) i p k = gs_ld (gq_B I) i p k := by
      intro i p
      induction p with
      | zero => intro k; rfl
      | succ p ih =>
        intro k
        simp only [gs_ld, ih, gb_str, gq_B, q21' (13 + (0 + 4)) (by omega)]
    unfold gs_gap
    simp only [e]
  simp only [hBe] at hg
  have q2 : ∀ a, a < 21 ∨ 66 ≤ a → I2 a = I a := fun a ha => funext fun i => by rw [hI2 a i (by omega) (by omega), q21 a ha]
  refine gr_istore_n dX3_evenSpreads_11 (by decide) ?_
  refine gr_iconst dX3_evenSpreads_12 ?_
  refine gr_istore dX3_evenSpreads_13 (by decide) ?_
  refine gr_iconst dX3_evenSpreads_15 ?_
  refine gr_istore dX3_evenSpreads_16 (by decide) ?_
  have loop : ∀ (m t : Nat), t + m = (gs_sp f 4).length → gw_G (gw_Cm jX3_evenSpreads (d + 4) (gw_io F (fun r I' => r = (((gs_sp f 4).filter (gs_ev (gq_B I) (gp_cnt (I 20) c) (I 19 3))).length : Int) ∧ ∀ a, a < 21 ∨ 66 ≤ a → I' a = I a))) jX3_evenSpreads 18 [some (.inr (some 12)), some (.inl (c : Int)), some (.inl (set : Int)), some (.inl ((gs_sp f 4).length : Int)), some (.inl ((((gs_sp f 4).take t).filter (gs_ev (gq_B I) (gp_cnt (I 20) c) (I 19 3))).length : Int)), some (.inl (t : Int))] [] (114, I2, F) 0 0 := by
    intro m
    induction m with
    | zero =>
      intro t ht
      refine gr_iload dX3_evenSpreads_18 rfl ?_
      refine gr_iload_n dX3_evenSpreads_20 rfl ?_
      refine gr_icmp_ge 50 dX3_evenSpreads_21 (by decide) (by unfold gw_in; omega) (by unfold gw_in; omega) (fun h21 => ?_) (fun h21 => ?_)
      · refine gr_iload dX3_evenSpreads_50 rfl ?_
        refine gr_iret dX3_evenSpreads_52 (by first | exact Or.inl rfl | exact Or.inr ⟨rfl, by omega⟩) (by decide) (by decide) (⟨_, _, rfl, rfl, by rw [List.take_of_length_le (by omega)], q2⟩)
      · omega
    | succ m ih =>
      intro t ht
      have hgt := hg t (by omega)
      have hin := gs_gap_in (B := gq_B I) (n := gp_cnt (I 20) c) (k := (gs_sp f 4).getD t 0) hB (gp_cnt_le _ _)
      unfold gs_NEVER at hin
      have htk : (gs_sp f 4).take (t + 1) = (gs_sp f 4).take t ++ [(gs_sp f 4).getD t 0] := by
        rw [List.take_succ, List.getD_eq_getElem?_getD, List.getElem?_eq_getElem (by omega)]
        rfl
      have hbal2 : I2 19 3 = I 19 3 := by rw [q2 19 (by omega)]
      refine gr_iload dX3_evenSpreads_18 rfl ?_
      refine gr_iload_n dX3_evenSpreads_20 rfl ?_
      refine gr_icmp_ge 50 dX3_evenSpreads_21 (by decide) (by unfold gw_in; omega) (by unfold gw_in; omega) (fun h21 => ?_) (fun h21 => ?_)
      · omega
      · refine gr_aload_n dX3_evenSpreads_24 rfl ?_
        refine gr_getR dX3_evenSpreads_25 fX3_41 (by first | assumption | rfl) (by omega) (by decide) rfl (by assumption) ?_
        refine gr_iload dX3_evenSpreads_28 rfl ?_
        refine gr_iald (i := t) dX3_evenSpreads_30 (by first | assumption | rfl) (by omega) (by omega) (by omega) (by decide) ?_
        refine gr_aload_n dX3_evenSpreads_31 rfl ?_
        refine gr_getR dX3_evenSpreads_32 fX3_21 (by first | assumption | rfl) (by omega) (by decide) rfl (by assumption) ?_
        refine gr_getI dX3_evenSpreads_35 fX3_67 (by first | assumption | rfl) (by omega) (by decide) rfl ?_
        rw [hgt, hbal2]
        refine gr_icmp_gt 44 dX3_evenSpreads_38 (by decide) (by unfold gw_in; omega) (by unfold gw_in; omega) (fun h38 => ?_) (fun h38 => ?_)
        · refine gr_iinc (v := ((t + 1 : Nat) : Int)) dX3_evenSpreads_44 (by decide) rfl (by omega) ?_
          refine gr_goto 18 dX3_evenSpreads_47 (by decide) ?_
          have r := ih (t + 1) (by omega)
          rw [htk, List.filter_append] at r
          have e : gs_ev (gq_B I) (gp_cnt (I 20) c) (I 19 3) ((gs_sp f 4).getD t 0) = false := by
            unfold gs_ev
            simp only [decide_eq_false_iff_not]
            omega
          rw [List.filter_cons_of_neg (by rw [e]; decide), List.filter_nil, List.append_nil] at r
          exact r
        · have e : gs_ev (gq_B I) (gp_cnt (I 20) c) (I 19 3) ((gs_sp f 4).getD t 0) = true := by
            unfold gs_ev
            simp only [decide_eq_true_eq]
            omega
          refine gr_iinc (v := ((((gs_sp f 4).take (t + 1)).filter (gs_ev (gq_B I) (gp_cnt (I 20) c) (I 19 3))).length : Int)) dX3_evenSpreads_41 (by decide) rfl (by rw [htk, List.filter_append, List.filter_cons_of_pos e, List.filter_nil, List.length_append]; rfl) ?_
          refine gr_iinc (v := ((t + 1 : Nat) : Int)) dX3_evenSpreads_44 (by decide) rfl (by omega) ?_
          refine gr_goto 18 dX3_evenSpreads_47 (by decide) ?_
          exact ih (t + 1) (by omega)
  have hfin := loop (gs_sp f 4).length 0 (by omega)
  rw [show gs_SP P (gq_B I) (I 20) set c = gs_sp f 4 by rw [← hf]]
  exact hfin
end GQ
end
section
/-! Search: moves from chord to chord; fill, lower, carryPlayer -/
/-- the MOVE of player p between hand h in chord c and hand h' in chord c'; NEVER: a bell can't -/
def gs_way (B : Nat → Nat → Int) (N : Nat → Int) (rest : Int) (p c h c' h' : Nat) : Int := if h = 0 ∨ h' = 0 then (if h = h' then 0 else rest) else if gp_lo N c h = gp_lo N c' h' ∧ B 1 p = 2 then gs_NEVER else (if 0 ≤ gp_lo N c h - gp_lo N c' h' then gp_lo N c h - gp_lo N c' h' else 0 - (gp_lo N c h - gp_lo N c' h')) + (if gb_pc h = gb_pc h' then 0 else 2)
theorem gs_way_in {B : Nat → Nat → Int} {N : Nat → Int} {rest : Int} {p c h c' h' : Nat} (hN : gp_N N) (hc : c < 8) (hc' : c' < 8) (hr : 0 ≤ rest ∧ rest ≤ 20) : 0 ≤ gs_way B N rest p c h c' h' ∧ (gs_way B N rest p c h c' h' ≤ 63 ∨ gs_way B N rest p c h c' h' = gs_NEVER) := by
  have h1 := gp_lo_in (h := h) hN hc
  have h2 := gp_lo_in (h := h') hN hc'
  unfold gs_way gs_NEVER
  grind
theorem gs_way_comm {B : Nat → Nat → Int} {N : Nat → Int} {rest : Int} {p c h c' h' : Nat} : gs_way B N rest p c h c' h' = gs_way B N rest p c' h' c h := by
  unfold gs_way
  grind
/-- the least of g x over those x < n by which w x is no NEVER; NEVER: none -/
def gs_low (w g : Nat → Int) : Nat → Int
  | 0 => gs_NEVER
  | n + 1 => if w n < gs_NEVER ∧ g n < gs_low w g n then g n else gs_low w g n
theorem gs_low_le {w g : Nat → Int} {b : Int} : ∀ n, gs_low w g n ≤ b ↔ (gs_NEVER ≤ b ∨ ∃ x, x < n ∧ w x < gs_NEVER ∧ g x ≤ b)
  | 0 => by simp [gs_low]
  | n + 1 => by
    have ih := gs_low_le (w := w) (g := g) (b := b) n
    simp only [gs_low]
    constructor
    · intro h
      split at h
      · rename_i h2
        exact Or.inr ⟨n, by omega, h2.1, h⟩
      · rcases ih.mp h with h3 | ⟨x, h3, h4, h5⟩
        · exact Or.inl h3
        · exact Or.inr ⟨x, by omega, h4, h5⟩
    · intro h
      split
      · rename_i h2
        rcases h with h3 | ⟨x, h3, h4, h5⟩
        · have := ih.mpr (Or.inl h3); omega
        · by_cases hx : x = n
          · rw [← hx]; exact h5
          · have := ih.mpr (Or.inr ⟨x, by omega, h4, h5⟩); omega
      · rename_i h2
        rcases h with h3 | ⟨x, h3, h4, h5⟩
        · exact ih.mpr (Or.inl h3)
        · by_cases hx : x = n
          · subst hx
            have : ¬ g x < gs_low w g x := fun q => h2 ⟨h4, q⟩
            omega
          · exact ih.mpr (Or.inr ⟨x, by omega, h4, h5⟩)
theorem gs_low_in {w g : Nat → Int} : ∀ n, (∀ x, x < n → w x < gs_NEVER → 0 ≤ g x) → 0 ≤ gs_low w g n ∧ gs_low w g n ≤ gs_NEVER
  | 0, _ => by simp [gs_low, gs_NEVER]
  | n + 1, h => by
    have ih := gs_low_in n (fun x hx hw => h x (by omega) hw)
    simp only [gs_low]
    split
    · rename_i h2
      have := h n (by omega) h2.1
      omega
    · exact ih
/-- where the search's things lie, row at r and spare at s -/
def gq_Kr (F : Nat → Nat → Option Nat) (r s : Nat) : Prop := F 12 0 = some 13 ∧ F 12 1 = some 19 ∧ F 12 3 = some 21 ∧ F 12 4 = some 54 ∧ F 12 8 = some r ∧ F 12 9 = some s ∧ (∀ i, i < 32 → F 21 i = some (22 + i)) ∧ gb_K F 13 ∧ gp_K F 19 ∧ (r = 66 ∧ s = 67 ∨ r = 67 ∧ s = 66)
section GQ
variable {I : Nat → Nat → Int} {F : Nat → Nat → Option Nat} {r s : Nat}
theorem c_way {p c h c' h' : Nat} (d : Nat) (hF : gq_Kr F r s) (hM : gq_M I) (hp : p < 4) (hc : c < 8) (hc' : c' < 8) (hh : h < 8) (hh' : h' < 8) : gw_Met jX3_way (d + 2) [.inr (some 12), .inl (p : Int), .inl (c : Int), .inl (h : Int), .inl (c' : Int), .inl (h' : Int)] (114, I, F) (gw_pu (gs_way (gq_B I) (I 20) (I 19 2) p c h c' h') (114, I, F)) := by
  obtain ⟨f0, f1, f3, f4, f8, f9, f21, fb, fp, hrs⟩ := hF
  obtain ⟨hB, hN, ⟨hP0, hP4⟩, ⟨hS0, hS8⟩, hrest, hbal, hbw⟩ := id hM
  obtain ⟨fb0, fb1, fb2, fb3, fb4, fb5, fbn, fg1, fg2, fg3, fg4, fg5⟩ := id fb
  have hBp := hB p hp
  have h1 := gp_lo_in (h := h) hN hc
  have h2 := gp_lo_in (h := h') hN hc'
  obtain ⟨p3, ph⟩ := gb_pc8 h hh
  obtain ⟨p3', ph'⟩ := gb_pc8 h' hh'
  refine gw_enter okX3_way rfl (Nat.le_of_ble_eq_true rfl) ?_
  have zero : (h = 0 ∨ h' = 0) → gw_G (gw_Cm jX3_way (d + 2) (gw_pu (gs_way (gq_B I) (I 20) (I 19 2) p c h c' h') (114, I, F))) jX3_way 9 [some (.inr (some 12)), some (.inl (p : Int)), some (.inl (c : Int)), some (.inl (h : Int)), some (.inl (c' : Int)), some (.inl (h' : Int)), none] [] (114, I, F) 0 0 := by
    intro hz
    refine gr_iload_n dX3_way_9 rfl ?_
    refine gr_iload dX3_way_10 rfl ?_
    refine gr_icmp_ne 19 dX3_way_12 (by decide) (by unfold gw_in; omega) (by unfold gw_in; omega) (fun h12 => ?_) (fun h12 => ?_)
    · refine gr_aload_n dX3_way_19 rfl ?_
      refine gr_getR dX3_way_20 fX3_21 (by first | assumption | rfl) (by omega) (by decide) rfl (by assumption) ?_
      refine gr_getI dX3_way_23 fX3_103 (by first | assumption | rfl) (by omega) (by decide) rfl ?_
      refine gr_iret dX3_way_26 (by first | exact Or.inl rfl | exact Or.inr ⟨rfl, by omega⟩) (by decide) (by decide) (⟨by unfold gs_way; rw [if_pos hz, if_neg (by omega)], rfl⟩)
    · refine gr_iconst dX3_way_15 ?_
      refine gr_goto 26 dX3_way_16 (by decide) ?_
      refine gr_iret dX3_way_26 (by first | exact Or.inl rfl | exact Or.inr ⟨rfl, by omega⟩) (by decide) (by decide) (⟨by unfold gs_way; rw [if_pos hz, if_pos (by omega)], rfl⟩)
  refine gr_iload_n dX3_way_0 rfl ?_
  refine gr_if_eq 9 dX3_way_1 (by decide) (by unfold gw_in; omega) (fun h1z => ?_) (fun h1z => ?_)
  · exact zero (Or.inl (by omega))
  · refine gr_iload dX3_way_4 rfl ?_
    refine gr_if_ne 27 dX3_way_6 (by decide) (by unfold gw_in; omega) (fun h6z => ?_) (fun h6z => ?_)
    · have hz : ¬ (h = 0 ∨ h' = 0) := by omega
      refine gr_aload_n dX3_way_27 rfl ?_
      refine gr_getR dX3_way_28 fX3_21 (by first | assumption | rfl) (by omega) (by decide) rfl (by assumption) ?_
      refine gr_iload_n dX3_way_31 rfl ?_
      refine gr_iload_n dX3_way_32 rfl ?_
      refine gr_virt dX3_way_33 kX3_106 (as := [_, _]) rfl rfl (by first | assumption | rfl) (by omega) (Nat.le_of_ble_eq_true rfl) (gw_Rm_m (by omega) (by decide) (by decide)) (c_lowestOf (c := c) (h := h) d fp hc hh) ?_
      rintro _ _ ⟨rfl, rfl⟩
      refine gr_aload_n dX3_way_36 rfl ?_
      refine gr_getR dX3_way_37 fX3_21 (by first | assumption | rfl) (by omega) (by decide) rfl (by assumption) ?_
      refine gr_iload dX3_way_40 rfl ?_
      refine gr_iload dX3_way_42 rfl ?_
      refine gr_virt dX3_way_44 kX3_106 (as := [_, _]) rfl rfl (by first | assumption | rfl) (by omega) (Nat.le_of_ble_eq_true rfl) (gw_Rm_m (by omega) (by decide) (by decide)) (c_lowestOf (c := c') (h := h') d fp hc' hh') ?_
      rintro _ _ ⟨rfl, rfl⟩
      rw [show I (19 + 1) = I 20 from rfl]
      refine gr_isub dX3_way_47 rfl ?_
      refine gr_mabs dX3_way_48 mX3_109 mm_abs1 mm_ini mm_abs2 (gw_Rm_1 (by omega) (by decide) (by decide)) (by unfold gw_in; omega) (Nat.le_of_ble_eq_true rfl) ?_
      generalize ex : (if 0 ≤ gp_lo (I 20) c h - gp_lo (I 20) c' h' then gp_lo (I 20) c h - gp_lo (I 20) c' h' else 0 - (gp_lo (I 20) c h - gp_lo (I 20) c' h')) = x
      have hx : 0 ≤ x ∧ x ≤ 61 ∧ (x = 0 ↔ gp_lo (I 20) c h = gp_lo (I 20) c' h') := by split at ex <;> omega
      refine gr_istore dX3_way_51 (by decide) ?_
      refine gr_iload dX3_way_53 rfl ?_
      have last : ¬ (gp_lo (I 20) c h = gp_lo (I 20) c' h' ∧ I 14 p = 2) → gw_G (gw_Cm jX3_way (d + 2) (gw_pu (gs_way (gq_B I) (I 20) (I 19 2) p c h c' h') (114, I, F))) jX3_way 74 [some (.inr (some 12)), some (.inl (p : Int)), some (.inl (c : Int)), some (.inl (h : Int)), some (.inl (c' : Int)), some (.inl (h' : Int)), some (.inl x)] [] (114, I, F) 0 0 := by
        intro hn
        refine gr_iload_n dX3_way_74 rfl ?_
        refine gr_stat dX3_way_75 kX3_115 (as := [_]) rfl rfl (Nat.le_of_ble_eq_true rfl) (gw_Rm_m (by omega) (by decide) (by decide)) (c_bitCount (n := h) (d + 1) (by omega)) ?_
        rintro _ _ ⟨rfl, rfl⟩
        refine gr_iload dX3_way_78 rfl ?_
        refine gr_stat dX3_way_80 kX3_115 (as := [_]) rfl rfl (Nat.le_of_ble_eq_true rfl) (gw_Rm_m (by omega) (by decide) (by decide)) (c_bitCount (n := h') (d + 1) (by omega)) ?_
        rintro _ _ ⟨rfl, rfl⟩
        refine gr_icmp_ne 91 dX3_way_83 (by decide) (by unfold gw_in; omega) (by unfold gw_in; omega) (fun h83 => ?_) (fun h83 => ?_)
        · refine gr_iload dX3_way_91 rfl ?_
          refine gr_iconst dX3_way_93 ?_
          refine gr_iadd dX3_way_94 rfl ?_
          refine gr_iret dX3_way_95 (by first | exact Or.inl rfl | exact Or.inr ⟨rfl, by omega⟩) (by decide) (by decide) (⟨by unfold gs_way; rw [if_neg hz, if_neg hn, ex, if_neg (by omega)], rfl⟩)
        · refine gr_iload dX3_way_86 rfl ?_
          refine gr_goto 95 dX3_way_88 (by decide) ?_
          refine gr_iret dX3_way_95 (by first | exact Or.inl rfl | exact Or.inr ⟨rfl, by omega⟩) (by decide) (by decide) (⟨by unfold gs_way; rw [if_neg hz, if_neg hn, ex, if_pos (by omega), Int.add_zero], rfl⟩)
      refine gr_if_ne 74 dX3_way_55 (by decide) (by unfold gw_in; omega) (fun h55 => ?_) (fun h55 => ?_)
      · exact last (fun h => h55 (hx.2.2.mpr h.1))
      · refine gr_aload_n dX3_way_58 rfl ?_
        refine gr_getR dX3_way_59 fX3_12 (by first | assumption | rfl) (by omega) (by decide) rfl (by assumption) ?_
        refine gr_getR dX3_way_62 fX3_112 (by first | assumption | rfl) (by omega) (by decide) rfl (by assumption) ?_
        refine gr_iload_n dX3_way_65 rfl ?_
        refine gr_iald (i := p) dX3_way_66 (by first | assumption | rfl) (by omega) (by omega) (by omega) (by decide) ?_
        refine gr_iconst dX3_way_67 ?_
        refine gr_icmp_ne 74 dX3_way_68 (by decide) (by unfold gw_in; omega) (by unfold gw_in; omega) (fun h68 => ?_) (fun h68 => ?_)
        · exact last (fun h => h68 h.2)
        · refine gr_ldc dX3_way_71 nX3_99 ?_
          refine gr_iret dX3_way_73 (by first | exact Or.inl rfl | exact Or.inr ⟨rfl, by omega⟩) (by decide) (by decide) (⟨by unfold gs_way; rw [if_neg hz, if_pos ⟨hx.2.2.mp h55, h68⟩], rfl⟩)
    · exact zero (Or.inr (by omega))
theorem c_fill {q m : Nat} {v : Int} (d : Nat) (hq : gw_sh q = (10, 784)) (hqn : q < 114) (hm : m ≤ 784) : gw_Met jX3_fill d [.inr (some q), .inl (m : Int), .inl v] (114, I, F) (gw_vo F (fun I' => ∀ a t, I' a t = if a = q ∧ t < m then v else I a t)) := by
  refine gw_enter okX3_fill rfl (Nat.le_of_ble_eq_true rfl) ?_
  refine gr_iconst dX3_fill_0 ?_
  refine gr_istore_n dX3_fill_1 (by decide) ?_
  have key : ∀ (n t : Nat) (I2 : Nat → Nat → Int), t + n = m → (∀ a i, I2 a i = if a = q ∧ i < t then v else I a i) → gw_G (gw_Cm jX3_fill d (gw_vo F (fun I' => ∀ a t, I' a t = if a = q ∧ t < m then v else I a t))) jX3_fill 2 [some (.inr (some q)), some (.inl (m : Int)), some (.inl v), some (.inl (t : Int))] [] (114, I2, F) 0 0 := by
    intro n
    induction n with
    | zero =>
      intro t I2 ht hI
      have ht : t = m := by omega
      subst ht
      refine gr_iload_n dX3_fill_2 rfl ?_
      refine gr_iload_n dX3_fill_3 rfl ?_
      refine gr_icmp_ge 17 dX3_fill_4 (by decide) (by unfold gw_in; omega) (by unfold gw_in; omega) (fun h4 => ?_) (fun h4 => ?_)
      · refine gr_vret dX3_fill_17 rfl (by decide) (by decide) (⟨rfl, _, rfl, hI⟩)
      · omega
    | succ n ih =>
      intro t I2 ht hI
      refine gr_iload_n dX3_fill_2 rfl ?_
      refine gr_iload_n dX3_fill_3 rfl ?_
      refine gr_icmp_ge 17 dX3_fill_4 (by decide) (by unfold gw_in; omega) (by unfold gw_in; omega) (fun h4 => ?_) (fun h4 => ?_)
      · omega
      · refine gr_aload_n dX3_fill_7 rfl ?_
        refine gr_iload_n dX3_fill_8 rfl ?_
        refine gr_iload_n dX3_fill_9 rfl ?_
        refine gr_iast (i := t) dX3_fill_10 (by first | assumption | rfl) (by omega) (by omega) (by omega) (by decide) ?_
        refine gr_iinc (v := ((t + 1 : Nat) : Int)) dX3_fill_11 (by decide) rfl (by omega) ?_
        refine gr_goto 2 dX3_fill_14 (by decide) ?_
        exact ih (t + 1) _ (by omega) (fun a i => by unfold gw_U; grind)
  exact key m 0 I (by omega) (fun a i => by rw [if_neg (by omega)])
theorem c_lower {first len x many : Nat} {step : Int} (d : Nat) (hF : gq_Kr F r s) (hs : 0 ≤ step ∧ step ≤ gs_NEVER) (he : first + len ≤ 784) (hr1 : ∀ i, i < len → x + i * many < 784 ∧ 0 ≤ I r (x + i * many) ∧ I r (x + i * many) ≤ gs_NEVER) (hs1 : ∀ t, first ≤ t → t < first + len → 0 ≤ I s t ∧ I s t ≤ gs_NEVER) : gw_Met jX3_lower d [.inr (some 12), .inl (first : Int), .inl ((first + len : Nat) : Int), .inl (x : Int), .inl (many : Int), .inl step] (114, I, F) (gw_vo F (fun I' => ∀ a t, I' a t = if a = s ∧ first ≤ t ∧ t < first + len ∧ I r (x + (t - first) * many) + step < I s t then I r (x + (t - first) * many) + step else I a t)) := by
  obtain ⟨f0, f1, f3, f4, f8, f9, f21, fb, fp, hrs⟩ := hF
  have hr : gw_sh r = (10, 784) := by rcases hrs with ⟨h, -⟩ | ⟨h, -⟩ <;> rw [h] <;> rfl
  have hsh : gw_sh s = (10, 784) := by rcases hrs with ⟨-, h⟩ | ⟨-, h⟩ <;> rw [h] <;> rfl
  unfold gs_NEVER at hs hr1 hs1
  refine gw_enter okX3_lower rfl (Nat.le_of_ble_eq_true rfl) ?_
  refine gr_aload_n dX3_lower_0 rfl ?_
  refine gr_getR dX3_lower_1 fX3_47 (by first | assumption | rfl) (by omega) (by decide) rfl (by assumption) ?_
  refine gr_astore dX3_lower_4 (by decide) ?_
  refine gr_aload_n dX3_lower_6 rfl ?_
  refine gr_getR dX3_lower_7 fX3_50 (by first | assumption | rfl) (by omega) (by decide) rfl (by assumption) ?_
  refine gr_astore dX3_lower_10 (by decide) ?_
  refine gr_iload_n dX3_lower_12 rfl ?_
  refine gr_istore dX3_lower_13 (by decide) ?_
  refine gr_iload_n dX3_lower_15 rfl ?_
  refine gr_istore dX3_lower_16 (by decide) ?_
  have key : ∀ (n i : Nat) (I2 : Nat → Nat → Int) (x10 : Option gw_V), i + n = len → (∀ a t, I2 a t = if a = s ∧ first ≤ t ∧ t < first + i ∧ I r (x + (t - first) * many) + step < I s t then I r (x + (t - first) * many) + step else I a t) → gw_G (gw_Cm jX3_lower d (gw_vo F (fun I' => ∀ a t, I' a t = if a = s ∧ first ≤ t ∧ t < first + len ∧ I r (x + (t - first) * many) + step < I s t then I r (x + (t - first) * many) + step else I a t))) jX3_lower 18 [some (.inr (some 12)), some (.inl (first : Int)), some (.inl ((first + len : Nat) : Int)), some (.inl (x : Int)), some (.inl (many : Int)), some (.inl step), some (.inr (some r)), some (.inr (some s)), some (.inl ((x + i * many : Nat) : Int)), some (.inl ((first + i : Nat) : Int)), x10] [] (114, I2, F) 0 0 := by
    intro n
    induction n with
    | zero =>
      intro i I2 x10 hi hI
      have hi : i = len := by omega
      subst hi
      refine gr_iload dX3_lower_18 rfl ?_
      refine gr_iload_n dX3_lower_20 rfl ?_
      refine gr_icmp_ge 64 dX3_lower_21 (by decide) (by unfold gw_in; omega) (by unfold gw_in; omega) (fun h21 => ?_) (fun h21 => ?_)
      · refine gr_vret dX3_lower_64 rfl (by decide) (by decide) (⟨rfl, _, rfl, hI⟩)
      · omega
    | succ n ih =>
      intro i I2 x10 hi hI
      obtain ⟨g1, g2, g3⟩ := hr1 i (by omega)
      obtain ⟨g4, g5⟩ := hs1 (first + i) (by omega) (by omega)
      have e1 : I2 r (x + i * many) = I r (x + i * many) := by
        rw [hI, if_neg (by omega)]
      have e2 : I2 s (first + i) = I s (first + i) := by
        rw [hI, if_neg (by omega)]
      have e3 : (x + i * many : Nat) + many = x + (i + 1) * many := by rw [Nat.add_mul, Nat.one_mul]; omega
      have e4 : first + i - first = i := by omega
      refine gr_iload dX3_lower_18 rfl ?_
      refine gr_iload_n dX3_lower_20 rfl ?_
      refine gr_icmp_ge 64 dX3_lower_21 (by decide) (by unfold gw_in; omega) (by unfold gw_in; omega) (fun h21 => ?_) (fun h21 => ?_)
      · omega
      · refine gr_aload dX3_lower_24 rfl ?_
        refine gr_iload dX3_lower_26 rfl ?_
        refine gr_iald (i := x + i * many) dX3_lower_28 (by first | assumption | rfl) (by omega) (by omega) (by omega) (by decide) ?_
        refine gr_iload dX3_lower_29 rfl ?_
        refine gr_iadd dX3_lower_31 rfl ?_
        refine gr_istore dX3_lower_32 (by decide) ?_
        refine gr_iload dX3_lower_34 rfl ?_
        refine gr_aload dX3_lower_36 rfl ?_
        refine gr_iload dX3_lower_38 rfl ?_
        refine gr_iald (i := first + i) dX3_lower_40 (by first | assumption | rfl) (by omega) (by omega) (by omega) (by decide) ?_
        rw [e1, e2]
        refine gr_icmp_ge 51 dX3_lower_41 (by decide) (by unfold gw_in; omega) (by unfold gw_in; omega) (fun h41 => ?_) (fun h41 => ?_)
        · refine gr_iload dX3_lower_51 rfl ?_
          refine gr_iload dX3_lower_53 rfl ?_
          refine gr_iadd (v := ((x + (i + 1) * many : Nat) : Int)) dX3_lower_55 (by omega) ?_
          refine gr_istore dX3_lower_56 (by decide) ?_
          refine gr_iinc (v := ((first + (i + 1) : Nat) : Int)) dX3_lower_58 (by decide) rfl (by omega) ?_
          refine gr_goto 18 dX3_lower_61 (by decide) ?_
          refine ih (i + 1) _ _ (by omega) (fun a t => ?_)
          rw [hI]
          by_cases ht : a = s ∧ t = first + i
          · rw [if_neg (by omega), if_neg (by rw [ht.2, e4]; omega)]
          · grind
        · refine gr_aload dX3_lower_44 rfl ?_
          refine gr_iload dX3_lower_46 rfl ?_
          refine gr_iload dX3_lower_48 rfl ?_
          refine gr_iast (i := first + i) dX3_lower_50 (by first | assumption | rfl) (by omega) (by omega) (by omega) (by decide) ?_
          refine gr_iload dX3_lower_51 rfl ?_
          refine gr_iload dX3_lower_53 rfl ?_
          refine gr_iadd (v := ((x + (i + 1) * many : Nat) : Int)) dX3_lower_55 (by omega) ?_
          refine gr_istore dX3_lower_56 (by decide) ?_
          refine gr_iinc (v := ((first + (i + 1) : Nat) : Int)) dX3_lower_58 (by decide) rfl (by omega) ?_
          refine gr_goto 18 dX3_lower_61 (by decide) ?_
          refine ih (i + 1) _ _ (by omega) (fun a t => ?_)
          unfold gw_U
          by_cases ht : a = s ∧ t = first + i
          · rw [if_pos ht, if_pos (by rw [ht.2, e4]; omega), ht.2, e4]
          · rw [if_neg ht, hI]
            grind
  have h0 : x + 0 * many = x := by omega
  have r0 := key len 0 I none (by omega) (fun a t => by rw [if_neg (by omega)])
  rw [h0] at r0
  exact r0
end GQ
end
section
/-! Search: carryPlayer, carry -/
theorem gs_mix {a A b B : Nat} (ha : a < A) (hb : b < B) : a * B + b < A * B := by
  have h : (a + 1) * B ≤ A * B := Nat.mul_le_mul_right B ha
  rw [Nat.add_mul, Nat.one_mul] at h
  omega
theorem gs_mix_ne {a a' b b' B : Nat} (hb : b < B) (hb' : b' < B) (h : a * B + b = a' * B + b') : a = a' ∧ b = b' := by
  have hB : 0 < B := by omega
  have h1 : (a * B + b) / B = a := by rw [Nat.mul_comm, Nat.mul_add_div hB, Nat.div_eq_of_lt hb, Nat.add_zero]
  have h2 : (a' * B + b') / B = a' := by rw [Nat.mul_comm, Nat.mul_add_div hB, Nat.div_eq_of_lt hb', Nat.add_zero]
  have h3 : (a * B + b) % B = b := by rw [Nat.mul_comm, Nat.mul_add_mod, Nat.mod_eq_of_lt hb]
  have h4 : (a' * B + b') % B = b' := by rw [Nat.mul_comm, Nat.mul_add_mod, Nat.mod_eq_of_lt hb']
  rw [h] at h1 h3
  exact ⟨h1.symm.trans h2, h3.symm.trans h4⟩
section GQ
variable {I : Nat → Nat → Int} {F : Nat → Nat → Option Nat} {r s : Nat}
/-- the step of player p between its x-th choice in c and its y-th in c' -/
abbrev gq_w (I : Nat → Nat → Int) (f g : Nat → List Nat) (c c' p x y : Nat) : Int := gs_way (gq_B I) (I 20) (I 19 2) p c ((f p).getD x 0) c' ((g p).getD y 0)
theorem gq_way_congr {I I' : Nat → Nat → Int} {p c h c' h' : Nat} (e : ∀ a, a < 21 → I' a = I a) : gs_way (gq_B I') (I' 20) (I' 19 2) p c h c' h' = gs_way (gq_B I) (I 20) (I 19 2) p c h c' h' := by
  unfold gs_way gq_B
  simp only [e (13 + 1) (by omega), e 20 (by omega), e 19 (by omega)]
theorem c_carryPlayer {p c c' o : Nat} {wm : Int} {f g : Nat → List Nat} (d : Nat) (hF : gq_Kr F r s) (hM : gq_M I) (hp : p < 4) (hc : c < 8) (hc' : c' < 8) (hwm : wm = 0 ∨ wm = 1) (hf : gq_off I f c) (hg : gq_off I g c') (hf8 : ∀ i, i < (f p).length → (f p).getD i 0 < 8) (hg8 : ∀ i, i < (g p).length → (g p).getD i 0 < 8) (hf7 : (f p).length ≤ 7) (hg7 : (g p).length ≤ 7) (hon : o * (f p).length ≤ 784) (hom : o * (g p).length ≤ 784) (hrow : ∀ t, t < o * (f p).length → 0 ≤ I r t ∧ I r t ≤ gs_NEVER) : gw_Met jX3_carryPlayer (d + 3) [.inr (some 12), .inl (p : Int), .inl (c : Int), .inl (c' : Int), .inl (o : Int), .inl wm] (114, I, F) (gw_vo F (fun I' => (∀ a i, a ≠ s → I' a i = I a i) ∧ ∀ y, y < (g p).length → ∀ i, i < o → I' s (y * o + i) = gs_low (fun x => gq_w I f g c c' p x y) (fun x => I r (x + i * (f p).length) + (if wm = 1 then gq_w I f g c c' p x y else 0)) (f p).length)) := by
  have hF' := hF
  obtain ⟨f0, f1, f3, f4, f8, f9, f21, fb, fp, hrs⟩ := hF
  have hr : gw_sh r = (10, 784) := by rcases hrs with ⟨h, -⟩ | ⟨h, -⟩ <;> rw [h] <;> rfl
  have hsh : gw_sh s = (10, 784) := by rcases hrs with ⟨-, h⟩ | ⟨-, h⟩ <;> rw [h] <;> rfl
  have hrs1 : r ≠ s := by omega
  have hs66 : 66 ≤ s ∧ s ≤ 67 := by omega
  obtain ⟨hB, hN, -, -, hrest, -, -⟩ := id hM
  obtain ⟨hfp1, hfp2⟩ := hf p hp
  obtain ⟨hgp1, hgp2⟩ := hg p hp
  have hA := gq_sh22 (4 * c + p) (by omega)
  have hAF := f21 (4 * c + p) (by omega)
  have hA' := gq_sh22 (4 * c' + p) (by omega)
  have hAF' := f21 (4 * c' + p) (by omega)
  generalize hQ : (gw_vo F (fun I' => (∀ a i, a ≠ s → I' a i = I a i) ∧ ∀ y, y < (g p).length → ∀ i, i < o → I' s (y * o + i) = gs_low (fun x => gq_w I f g c c' p x y) (fun x => I r (x + i * (f p).length) + (if wm = 1 then gq_w I f g c c' p x y else 0)) (f p).length)) = Q
  refine gw_enter okX3_carryPlayer rfl (Nat.le_of_ble_eq_true rfl) ?_
  refine gr_aload_n dX3_carryPlayer_0 rfl ?_
  refine gr_getR dX3_carryPlayer_1 fX3_31 (by first | assumption | rfl) (by omega) (by decide) rfl (by assumption) ?_
  refine gr_iload_n dX3_carryPlayer_4 rfl ?_
  refine gr_iconst dX3_carryPlayer_5 ?_
  refine gr_imul dX3_carryPlayer_6 rfl ?_
  refine gr_iload_n dX3_carryPlayer_7 rfl ?_
  refine gr_iadd (v := ((4 * c + p : Nat) : Int)) dX3_carryPlayer_8 (by omega) ?_
  refine gr_rald (i := 4 * c + p) dX3_carryPlayer_9 (by first | assumption | rfl) (by omega) (by omega) (by omega) (by decide) (by assumption) ?_
  refine gr_astore dX3_carryPlayer_10 (by decide) ?_
  refine gr_aload_n dX3_carryPlayer_12 rfl ?_
  refine gr_getR dX3_carryPlayer_13 fX3_31 (by first | assumption | rfl) (by omega) (by decide) rfl (by assumption) ?_
  refine gr_iload_n dX3_carryPlayer_16 rfl ?_
  refine gr_iconst dX3_carryPlayer_17 ?_
  refine gr_imul dX3_carryPlayer_18 rfl ?_
  refine gr_iload_n dX3_carryPlayer_19 rfl ?_
  refine gr_iadd (v := ((4 * c' + p : Nat) : Int)) dX3_carryPlayer_20 (by omega) ?_
  refine gr_rald (i := 4 * c' + p) dX3_carryPlayer_21 (by first | assumption | rfl) (by omega) (by omega) (by omega) (by decide) (by assumption) ?_
  refine gr_astore dX3_carryPlayer_22 (by decide) ?_
  refine gr_aload_n dX3_carryPlayer_24 rfl ?_
  refine gr_getR dX3_carryPlayer_25 fX3_34 (by first | assumption | rfl) (by omega) (by decide) rfl (by assumption) ?_
  refine gr_iload_n dX3_carryPlayer_28 rfl ?_
  refine gr_iconst dX3_carryPlayer_29 ?_
  refine gr_imul dX3_carryPlayer_30 rfl ?_
  refine gr_iload_n dX3_carryPlayer_31 rfl ?_
  refine gr_iadd (v := ((4 * c + p : Nat) : Int)) dX3_carryPlayer_32 (by omega) ?_
  refine gr_iald (i := 4 * c + p) dX3_carryPlayer_33 (by first | assumption | rfl) (by omega) (by omega) (by omega) (by decide) ?_
  rw [hfp1]
  refine gr_istore dX3_carryPlayer_34 (by decide) ?_
  refine gr_aload_n dX3_carryPlayer_36 rfl ?_
  refine gr_getR dX3_carryPlayer_37 fX3_34 (by first | assumption | rfl) (by omega) (by decide) rfl (by assumption) ?_
  refine gr_iload_n dX3_carryPlayer_40 rfl ?_
  refine gr_iconst dX3_carryPlayer_41 ?_
  refine gr_imul dX3_carryPlayer_42 rfl ?_
  refine gr_iload_n dX3_carryPlayer_43 rfl ?_
  refine gr_iadd (v := ((4 * c' + p : Nat) : Int)) dX3_carryPlayer_44 (by omega) ?_
  refine gr_iald (i := 4 * c' + p) dX3_carryPlayer_45 (by first | assumption | rfl) (by omega) (by omega) (by omega) (by decide) ?_
  rw [hgp1]
  refine gr_istore dX3_carryPlayer_46 (by decide) ?_
  refine gr_aload_n dX3_carryPlayer_48 rfl ?_
  refine gr_getR dX3_carryPlayer_49 fX3_50 (by first | assumption | rfl) (by omega) (by decide) rfl (by assumption) ?_
  refine gr_iload dX3_carryPlayer_52 rfl ?_
  refine gr_iload dX3_carryPlayer_54 rfl ?_
  refine gr_imul (v := ((o * (g p).length : Nat) : Int)) dX3_carryPlayer_56 (by rw [Int.natCast_mul]) ?_
  refine gr_ldc dX3_carryPlayer_57 nX3_99 ?_
  refine gr_stat dX3_carryPlayer_59 kX3_124 (as := [_, _, _]) rfl rfl (Nat.le_of_ble_eq_true rfl) (gw_Rm_m (by omega) (by decide) (by decide)) (c_fill (q := s) (m := o * (g p).length) (v := gs_NEVER) (d + 2) hsh (by omega) hom) ?_
  rintro _ _ ⟨rfl, I1, rfl, hI1⟩
  refine gr_iconst dX3_carryPlayer_62 ?_
  refine gr_istore dX3_carryPlayer_63 (by decide) ?_
  -- the outer loop, over y
  have outer : ∀ (n y : Nat) (I2 : Nat → Nat → Int) (x11 x12 : Option gw_V), y + n = (g p).length → (∀ a i, a ≠ s → I2 a i = I a i) → (∀ y', y' < (g p).length → ∀ i, i < o → I2 s (y' * o + i) = if y' < y then gs_low (fun x => gq_w I f g c c' p x y') (fun x => I r (x + i * (f p).length) + (if wm = 1 then gq_w I f g c c' p x y' else 0)) (f p).length else gs_NEVER) → gw_G (gw_Cm jX3_carryPlayer (d + 3) Q) jX3_carryPlayer 65 [some (.inr (some 12)), some (.inl (p : Int)), some (.inl (c : Int)), some (.inl (c' : Int)), some (.inl (o : Int)), some (.inl wm), some (.inr (some (22 + (4 * c + p)))), some (.inr (some (22 + (4 * c' + p)))), some (.inl ((f p).length : Int)), some (.inl ((g p).length : Int)), some (.inl (y : Int)), x11, x12] [] (114, I2, F) 0 0 := by
    intro n
    induction n with
    | zero =>
      intro y I2 x11 x12 hy h1 h2
      refine gr_iload dX3_carryPlayer_65 rfl ?_
      refine gr_iload dX3_carryPlayer_67 rfl ?_
      refine gr_icmp_ge 151 dX3_carryPlayer_69 (by decide) (by unfold gw_in; omega) (by unfold gw_in; omega) (fun h69 => ?_) (fun h69 => ?_)
      · refine gr_vret dX3_carryPlayer_151 rfl (by decide) (by decide) ((by rw [← hQ]; exact ⟨rfl, _, rfl, h1, fun y' hy' i hi => by rw [h2 y' hy' i hi, if_pos (by omega)]⟩))
      · omega
    | succ n ih =>
      intro y I2 x11 x12 hy h1 h2
      refine gr_iload dX3_carryPlayer_65 rfl ?_
      refine gr_iload dX3_carryPlayer_67 rfl ?_
      refine gr_icmp_ge 151 dX3_carryPlayer_69 (by decide) (by unfold gw_in; omega) (by unfold gw_in; omega) (fun h69 => ?_) (fun h69 => ?_)
      · omega
      · refine gr_iconst dX3_carryPlayer_72 ?_
        refine gr_istore dX3_carryPlayer_73 (by decide) ?_
        have inner : ∀ (m x : Nat) (I3 : Nat → Nat → Int) (z12 : Option gw_V), x + m = (f p).length → (∀ a i, a ≠ s → I3 a i = I a i) → (∀ y', y' < (g p).length → ∀ i, i < o → I3 s (y' * o + i) = if y' < y then gs_low (fun x => gq_w I f g c c' p x y') (fun x => I r (x + i * (f p).length) + (if wm = 1 then gq_w I f g c c' p x y' else 0)) (f p).length else if y' = y then gs_low (fun x => gq_w I f g c c' p x y) (fun x => I r (x + i * (f p).length) + (if wm = 1 then gq_w I f g c c' p x y else 0)) x else gs_NEVER) → gw_G (gw_Cm jX3_carryPlayer (d + 3) Q) jX3_carryPlayer 75 [some (.inr (some 12)), some (.inl (p : Int)), some (.inl (c : Int)), some (.inl (c' : Int)), some (.inl (o : Int)), some (.inl wm), some (.inr (some (22 + (4 * c + p)))), some (.inr (some (22 + (4 * c' + p)))), some (.inl ((f p).length : Int)), some (.inl ((g p).length : Int)), some (.inl (y : Int)), some (.inl (x : Int)), z12] [] (114, I3, F) 0 0 := by
          intro m
          induction m with
          | zero =>
            intro x I3 z12 hx g1 g2
            have hx : x = (f p).length := by omega
            subst hx
            refine gr_iload dX3_carryPlayer_75 rfl ?_
            refine gr_iload dX3_carryPlayer_77 rfl ?_
            refine gr_icmp_ge 145 dX3_carryPlayer_79 (by decide) (by unfold gw_in; omega) (by unfold gw_in; omega) (fun h79 => ?_) (fun h79 => ?_)
            · refine gr_iinc (v := ((y + 1 : Nat) : Int)) dX3_carryPlayer_145 (by decide) rfl (by omega) ?_
              refine gr_goto 65 dX3_carryPlayer_148 (by decide) ?_
              refine ih (y + 1) I3 _ _ (by omega) g1 (fun y' hy' i hi => ?_)
              rw [g2 y' hy' i hi]
              by_cases e : y' = y
              · subst e
                rw [if_neg (by omega), if_pos rfl, if_pos (by omega)]
              · by_cases e2 : y' < y
                · rw [if_pos e2, if_pos (by omega)]
                · rw [if_neg e2, if_neg e, if_neg (by omega)]
            · omega
          | succ m ihm =>
            intro x I3 z12 hx g1 g2
            have eq21 : ∀ a, a < 21 → I3 a = I a := fun a ha => funext fun i => g1 a i (by omega)
            have hM3 := gq_M_congr eq21 hM
            have e1 : I3 (22 + (4 * c + p)) x = ((f p).getD x 0 : Nat) := by
              rw [g1 _ _ (by omega)]; exact hfp2 x (by omega)
            have e2 : I3 (22 + (4 * c' + p)) y = ((g p).getD y 0 : Nat) := by
              rw [g1 _ _ (by omega)]; exact hgp2 y (by omega)
            obtain ⟨w0, w1⟩ : 0 ≤ gq_w I f g c c' p x y ∧ (gq_w I f g c c' p x y ≤ 63 ∨ gq_w I f g c c' p x y = gs_NEVER) := gs_way_in (B := gq_B I) (N := I 20) (rest := I 19 2) (p := p) (c := c) (h := (f p).getD x 0) (c' := c') (h' := (g p).getD y 0) hN hc hc' hrest
            refine gr_iload dX3_carryPlayer_75 rfl ?_
            refine gr_iload dX3_carryPlayer_77 rfl ?_
            refine gr_icmp_ge 145 dX3_carryPlayer_79 (by decide) (by unfold gw_in; omega) (by unfold gw_in; omega) (fun h79 => ?_) (fun h79 => ?_)
            · omega
            · refine gr_aload_n dX3_carryPlayer_82 rfl ?_
              refine gr_iload_n dX3_carryPlayer_83 rfl ?_
              refine gr_iload_n dX3_carryPlayer_84 rfl ?_
              refine gr_aload dX3_carryPlayer_85 rfl ?_
              refine gr_iload dX3_carryPlayer_87 rfl ?_
              refine gr_iald (i := x) dX3_carryPlayer_89 (by first | assumption | rfl) (by omega) (by omega) (by omega) (by decide) ?_
              refine gr_iload_n dX3_carryPlayer_90 rfl ?_
              refine gr_aload dX3_carryPlayer_91 rfl ?_
              refine gr_iload dX3_carryPlayer_93 rfl ?_
              refine gr_iald (i := y) dX3_carryPlayer_95 (by first | assumption | rfl) (by omega) (by omega) (by omega) (by decide) ?_
              rw [e1, e2]
              refine gr_virt dX3_carryPlayer_96 kX3_128 (as := [_, _, _, _, _]) rfl rfl (by first | assumption | rfl) (by omega) (Nat.le_of_ble_eq_true rfl) (gw_Rm_m (by omega) (by decide) (by decide)) (c_way (p := p) (c := c) (h := (f p).getD x 0) (c' := c') (h' := (g p).getD y 0) d hF' hM3 hp hc hc' (hf8 x (by omega)) (hg8 y (by omega))) ?_
              rintro _ _ ⟨rfl, rfl⟩
              rw [gq_way_congr eq21]
              have hNv : gs_NEVER = 67108864 := rfl
              rw [show gs_way (gq_B I) (I 20) (I 19 2) p c ((f p).getD x 0) c' ((g p).getD y 0) = gq_w I f g c c' p x y from rfl]
              refine gr_istore dX3_carryPlayer_99 (by decide) ?_
              refine gr_iload dX3_carryPlayer_101 rfl ?_
              refine gr_ldc dX3_carryPlayer_103 nX3_99 ?_
              refine gr_icmp_ge 139 dX3_carryPlayer_105 (by decide) (by unfold gw_in; omega) (by unfold gw_in; omega) (fun h105 => ?_) (fun h105 => ?_)
              · refine gr_iinc (v := ((x + 1 : Nat) : Int)) dX3_carryPlayer_139 (by decide) rfl (by omega) ?_
                refine gr_goto 75 dX3_carryPlayer_142 (by decide) ?_
                refine ihm (x + 1) I3 _ (by omega) g1 (fun y' hy' i hi => ?_)
                rw [g2 y' hy' i hi]
                by_cases e : y' = y
                · subst e
                  rw [if_neg (by omega), if_pos rfl, if_neg (by omega), if_pos rfl]
                  conv => rhs; unfold gs_low
                  rw [if_neg (fun h => by have h := h.1; omega)]
                · by_cases e2 : y' < y
                  · rw [if_pos e2, if_pos e2]
                  · rw [if_neg e2, if_neg e, if_neg e2, if_neg e]
              · have hyo : (y + 1) * o = y * o + o := by rw [Nat.add_mul, Nat.one_mul]
                have hyo2 : (y + 1) * o ≤ (g p).length * o := Nat.mul_le_mul_right o (by omega)
                have hcm : (g p).length * o = o * (g p).length := Nat.mul_comm _ _
                -- the call of lower, with its step
                have low : ∀ step : Int, step = (if wm = 1 then gq_w I f g c c' p x y else 0) → gw_G (gw_Cm jX3_carryPlayer (d + 3) Q) jX3_carryPlayer 136 [some (.inr (some 12)), some (.inl (p : Int)), some (.inl (c : Int)), some (.inl (c' : Int)), some (.inl (o : Int)), some (.inl wm), some (.inr (some (22 + (4 * c + p)))), some (.inr (some (22 + (4 * c' + p)))), some (.inl ((f p).length : Int)), some (.inl ((g p).length : Int)), some (.inl (y : Int)), some (.inl (x : Int)), some (.inl (gq_w I f g c c' p x y))] [.inl step, .inl ((f p).length : Int), .inl (x : Int), .inl ((y * o + o : Nat) : Int), .inl ((y * o : Nat) : Int), .inr (some 12)] (114, I3, F) 0 0 := by
                  intro step hstep
                  have hst : 0 ≤ step ∧ step ≤ gs_NEVER := by
                    rw [hstep]
                    split
                    · exact ⟨w0, by omega⟩
                    · exact ⟨by omega, by omega⟩
                  have hrr : ∀ i, i < o → x + i * (f p).length < o * (f p).length := fun i hi => by
                    have := gs_mix hi (show x < (f p).length by omega)
                    omega
                  have l1 : ∀ i, i < o → x + i * (f p).length < 784 ∧ 0 ≤ I3 r (x + i * (f p).length) ∧ I3 r (x + i * (f p).length) ≤ gs_NEVER := fun i hi => by
                    have h9 := hrow _ (hrr i hi)
                    rw [g1 r _ hrs1]
                    exact ⟨by have := hrr i hi; omega, h9.1, h9.2⟩
                  have l2 : ∀ t, y * o ≤ t → t < y * o + o → 0 ≤ I3 s t ∧ I3 s t ≤ gs_NEVER := fun t ht1 ht2 => by
                    obtain ⟨i, hi⟩ : ∃ i, t = y * o + i := ⟨t - y * o, by omega⟩
                    subst hi
                    rw [g2 y (by omega) i (by omega), if_neg (by omega), if_pos rfl]
                    refine gs_low_in x (fun z hz hw => ?_)
                    have h9 := hrow (z + i * (f p).length) (by have := gs_mix (show i < o by omega) (show z < (f p).length by omega); omega)
                    have h8 : 0 ≤ gq_w I f g c c' p z y ∧ (gq_w I f g c c' p z y ≤ 63 ∨ gq_w I f g c c' p z y = gs_NEVER) := gs_way_in (B := gq_B I) (N := I 20) (rest := I 19 2) (p := p) (c := c) (h := (f p).getD z 0) (c' := c') (h' := (g p).getD y 0) hN hc hc' hrest
                    split <;> omega
                  refine gr_virt dX3_carryPlayer_136 kX3_132 (as := [_, _, _, _, _]) rfl rfl (by first | assumption | rfl) (by omega) (Nat.le_of_ble_eq_true rfl) (gw_Rm_m (by omega) (by decide) (by decide)) (c_lower (first := y * o) (len := o) (x := x) (many := (f p).length) (step := step) (d + 2) hF' hst (by omega) l1 l2) ?_
                  rintro _ _ ⟨rfl, I4, rfl, hI4⟩
                  refine gr_iinc (v := ((x + 1 : Nat) : Int)) dX3_carryPlayer_139 (by decide) rfl (by omega) ?_
                  refine gr_goto 75 dX3_carryPlayer_142 (by decide) ?_
                  refine ihm (x + 1) I4 _ (by omega) (fun a i ha => by rw [hI4, if_neg (fun h => ha h.1)]; exact g1 a i ha) (fun y' hy' i hi => ?_)
                  rw [hI4]
                  by_cases e : y' = y
                  · subst e
                    rw [if_neg (show ¬ y' < y' by omega), if_pos rfl]
                    have ei : y' * o + i - y' * o = i := by omega
                    rw [ei, g1 r _ hrs1, g2 y' hy' i hi, if_neg (show ¬ y' < y' by omega), if_pos rfl]
                    conv => rhs; unfold gs_low
                    rw [hstep]
                    have hwx : gq_w I f g c c' p x y' < gs_NEVER := by rw [hNv]; exact h105
                    by_cases hlt : I r (x + i * (f p).length) + (if wm = 1 then gq_w I f g c c' p x y' else 0) < gs_low (fun x => gq_w I f g c c' p x y') (fun x => I r (x + i * (f p).length) + (if wm = 1 then gq_w I f g c c' p x y' else 0)) x
                    · refine (if_pos ⟨rfl, by omega, by omega, hlt⟩).trans ?_
                      exact (if_pos ⟨hwx, hlt⟩).symm
                    · refine (if_neg (fun h => hlt h.2.2.2)).trans ?_
                      exact (if_neg (fun h => hlt h.2)).symm
                  · have ho : ¬ (y * o ≤ y' * o + i ∧ y' * o + i < y * o + o) := by
                      rintro ⟨ha, hb⟩
                      obtain ⟨j, hj⟩ : ∃ j, y' * o + i = y * o + j := ⟨y' * o + i - y * o, by omega⟩
                      exact e (gs_mix_ne hi (show j < o by omega) hj).1
                    rw [if_neg (fun h => ho ⟨h.2.1, h.2.2.1⟩), g2 y' hy' i hi]
                    by_cases e2 : y' < y
                    · rw [if_pos e2, if_pos e2]
                    · rw [if_neg e2, if_neg e, if_neg e2, if_neg e]
                refine gr_aload_n dX3_carryPlayer_108 rfl ?_
                refine gr_iload dX3_carryPlayer_109 rfl ?_
                refine gr_iload dX3_carryPlayer_111 rfl ?_
                refine gr_imul (v := ((y * o : Nat) : Int)) dX3_carryPlayer_113 (by rw [Int.natCast_mul]) ?_
                refine gr_iload dX3_carryPlayer_114 rfl ?_
                refine gr_iconst dX3_carryPlayer_116 ?_
                refine gr_iadd dX3_carryPlayer_117 rfl ?_
                refine gr_iload dX3_carryPlayer_118 rfl ?_
                refine gr_imul (v := ((y * o + o : Nat) : Int)) dX3_carryPlayer_120 (by rw [Int.natCast_add, Int.natCast_mul, Int.add_mul, Int.one_mul]) ?_
                refine gr_iload dX3_carryPlayer_121 rfl ?_
                refine gr_iload dX3_carryPlayer_123 rfl ?_
                refine gr_iload dX3_carryPlayer_125 rfl ?_
                refine gr_if_eq 135 dX3_carryPlayer_127 (by decide) (by unfold gw_in; omega) (fun h127 => ?_) (fun h127 => ?_)
                · refine gr_iconst dX3_carryPlayer_135 ?_
                  exact low 0 (by rw [if_neg (by omega)])
                · refine gr_iload dX3_carryPlayer_130 rfl ?_
                  refine gr_goto 136 dX3_carryPlayer_132 (by decide) ?_
                  exact low _ (by rw [if_pos (by omega)])
        exact inner (f p).length 0 I2 _ (by omega) h1 (fun y' hy' i hi => by
          rw [h2 y' hy' i hi]
          by_cases e : y' = y
          · subst e
            rw [if_neg (by omega), if_neg (by omega), if_pos rfl]
            rfl
          · by_cases e2 : y' < y
            · rw [if_pos e2, if_pos e2]
            · rw [if_neg e2, if_neg e2, if_neg e])
  refine outer (g p).length 0 I1 _ _ (by omega) (fun a i ha => by rw [hI1, if_neg (fun h => ha h.1)]) (fun y' hy' i hi => ?_)
  rw [hI1, if_neg (show ¬ y' < 0 by omega), if_pos]
  refine ⟨rfl, ?_⟩
  have := gs_mix hy' hi
  rw [Nat.mul_comm o]
  exact this
end GQ
end
section
/-! Search: carry -/
/-- how many the others than p are: from's choices ahead of p, to's behind it -/
def gs_pr (n m : Nat → Nat) (p : Nat) : Nat → Nat
  | 0 => 1
  | q + 1 => if q = p then gs_pr n m p q else gs_pr n m p q * (if q < p then n q else m q)
section GQ
variable {I : Nat → Nat → Int} {F : Nat → Nat → Option Nat} {r s : Nat}
/-- what one player's turn does to the rows -/
def gq_turn (I I' : Nat → Nat → Int) (f g : Nat → List Nat) (c c' p o : Nat) (wm : Int) (r s : Nat) : Prop := (∀ a i, a ≠ s → I' a i = I a i) ∧ ∀ y, y < (g p).length → ∀ i, i < o → I' s (y * o + i) = gs_low (fun x => gq_w I f g c c' p x y) (fun x => I r (x + i * (f p).length) + (if wm = 1 then gq_w I f g c c' p x y else 0)) (f p).length
theorem carry_step {p c c' : Nat} {wm : Int} {f g : Nat → List Nat} {Q : Option gw_V → gw_M → Prop} {x5 x6 : Option gw_V} (d : Nat) (hF : gq_Kr F r s) (hM : gq_M I) (hp : p < 4) (hc : c < 8) (hc' : c' < 8) (hwm : wm = 0 ∨ wm = 1) (hf : gq_off I f c) (hg : gq_off I g c') (hf8 : ∀ p, p < 4 → ∀ i, i < (f p).length → (f p).getD i 0 < 8) (hg8 : ∀ p, p < 4 → ∀ i, i < (g p).length → (g p).getD i 0 < 8) (hf7 : ∀ p, p < 4 → (f p).length ≤ 7) (hg7 : ∀ p, p < 4 → (g p).length ≤ 7) (hon : gs_pr (fun q => (f q).length) (fun q => (g q).length) p 4 * (f p).length ≤ 784) (hom : gs_pr (fun q => (f q).length) (fun q => (g q).length) p 4 * (g p).length ≤ 784) (hrow : ∀ t, t < gs_pr (fun q => (f q).length) (fun q => (g q).length) p 4 * (f p).length → 0 ≤ I r t ∧ I r t ≤ gs_NEVER)
    (kk : ∀ (I' : Nat → Nat → Int) (x5 x6 : Option gw_V), gq_turn I I' f g c c' p (gs_pr (fun q => (f q).length) (fun q => (g q).length) p 4) wm r s → gw_G (gw_Cm jX3_carry (d + 4) Q) jX3_carry 3 [some (.inr (some 12)), some (.inl (c : Int)), some (.inl (c' : Int)), some (.inl wm), some (.inl ((p : Int) - 1)), x5, x6] [] (114, I', gw_U (gw_U F 12 9 (some r)) 12 8 (some s)) 0 0) :
    gw_G (gw_Cm jX3_carry (d + 4) Q) jX3_carry 3 [some (.inr (some 12)), some (.inl (c : Int)), some (.inl (c' : Int)), some (.inl wm), some (.inl (p : Int)), x5, x6] [] (114, I, F) 0 0 := by
  have hF' := hF
  obtain ⟨f0, f1, f3, f4, f8, f9, f21, fb, fp, hrs⟩ := hF
  refine gr_iload dX3_carry_3 rfl ?_
  refine gr_if_lt 97 dX3_carry_5 (by decide) (by unfold gw_in; omega) (fun h5 => ?_) (fun h5 => ?_)
  · omega
  · refine gr_iconst dX3_carry_8 ?_
    refine gr_istore dX3_carry_9 (by decide) ?_
    refine gr_iconst dX3_carry_11 ?_
    refine gr_istore dX3_carry_12 (by decide) ?_
    have inner : ∀ (n q : Nat), q + n = 4 → gw_G (gw_Cm jX3_carry (d + 4) Q) jX3_carry 14 [some (.inr (some 12)), some (.inl (c : Int)), some (.inl (c' : Int)), some (.inl wm), some (.inl (p : Int)), some (.inl (gs_pr (fun q => (f q).length) (fun q => (g q).length) p q : Nat)), some (.inl (q : Int))] [] (114, I, F) 0 0 := by
      intro n
      induction n with
      | zero =>
        intro q hq
        have hq : q = 4 := by omega
        subst hq
        refine gr_iload dX3_carry_14 rfl ?_
        refine gr_iconst dX3_carry_16 ?_
        refine gr_icmp_ge 60 dX3_carry_17 (by decide) (by unfold gw_in; omega) (by unfold gw_in; omega) (fun h17 => ?_) (fun h17 => ?_)
        · refine gr_aload_n dX3_carry_60 rfl ?_
          refine gr_iload dX3_carry_61 rfl ?_
          refine gr_iload_n dX3_carry_63 rfl ?_
          refine gr_iload_n dX3_carry_64 rfl ?_
          refine gr_iload dX3_carry_65 rfl ?_
          refine gr_iload_n dX3_carry_67 rfl ?_
          refine gr_virt dX3_carry_68 kX3_120 (as := [_, _, _, _, _]) rfl rfl (by first | assumption | rfl) (by omega) (Nat.le_of_ble_eq_true rfl) (gw_Rm_m (by omega) (by decide) (by decide)) (c_carryPlayer (p := p) (c := c) (c' := c') (f := f) (g := g) d hF' hM hp hc hc' hwm hf hg (hf8 p hp) (hg8 p hp) (hf7 p hp) (hg7 p hp) hon hom hrow) ?_
          rintro _ _ ⟨rfl, I1, rfl, hI1⟩
          refine gr_aload_n dX3_carry_71 rfl ?_
          refine gr_getR dX3_carry_72 fX3_50 (by first | assumption | rfl) (by omega) (by decide) rfl (by assumption) ?_
          refine gr_astore dX3_carry_75 (by decide) ?_
          refine gr_aload_n dX3_carry_77 rfl ?_
          refine gr_aload_n dX3_carry_78 rfl ?_
          refine gr_getR dX3_carry_79 fX3_47 (by first | assumption | rfl) (by omega) (by decide) rfl (by assumption) ?_
          refine gr_putR dX3_carry_82 fX3_50 (fun h => by cases h) (by first | assumption | rfl) (by omega) rfl rfl ?_
          refine gr_aload_n dX3_carry_85 rfl ?_
          refine gr_aload dX3_carry_86 rfl ?_
          refine gr_putR dX3_carry_88 fX3_47 (fun h => by cases h) (by first | assumption | rfl) (by omega) rfl rfl ?_
          refine gr_iinc (v := ((p : Int) - 1)) dX3_carry_91 (by decide) rfl (by omega) ?_
          refine gr_goto 3 dX3_carry_94 (by decide) ?_
          exact kk I1 _ _ hI1
        · omega
      | succ n ih =>
        intro q hq
        refine gr_iload dX3_carry_14 rfl ?_
        refine gr_iconst dX3_carry_16 ?_
        refine gr_icmp_ge 60 dX3_carry_17 (by decide) (by unfold gw_in; omega) (by unfold gw_in; omega) (fun h17 => ?_) (fun h17 => ?_)
        · omega
        · refine gr_iload dX3_carry_20 rfl ?_
          refine gr_iload dX3_carry_22 rfl ?_
          refine gr_icmp_eq 54 dX3_carry_24 (by decide) (by unfold gw_in; omega) (by unfold gw_in; omega) (fun h24 => ?_) (fun h24 => ?_)
          · refine gr_iinc (v := ((q + 1 : Nat) : Int)) dX3_carry_54 (by decide) rfl (by omega) ?_
            refine gr_goto 14 dX3_carry_57 (by decide) ?_
            have r0 := ih (q + 1) (by omega)
            rw [show gs_pr (fun q => (f q).length) (fun q => (g q).length) p (q + 1) = gs_pr (fun q => (f q).length) (fun q => (g q).length) p q by simp only [gs_pr]; rw [if_pos (by omega)]] at r0
            exact r0
          · refine gr_iload dX3_carry_27 rfl ?_
            refine gr_aload_n dX3_carry_29 rfl ?_
            refine gr_getR dX3_carry_30 fX3_34 (by first | assumption | rfl) (by omega) (by decide) rfl (by assumption) ?_
            refine gr_iload dX3_carry_33 rfl ?_
            refine gr_iload dX3_carry_35 rfl ?_
            refine gr_icmp_ge 44 dX3_carry_37 (by decide) (by unfold gw_in; omega) (by unfold gw_in; omega) (fun h37 => ?_) (fun h37 => ?_)
            · refine gr_iload_n dX3_carry_44 rfl ?_
              refine gr_iconst dX3_carry_45 ?_
              refine gr_imul dX3_carry_46 rfl ?_
              refine gr_iload dX3_carry_47 rfl ?_
              refine gr_iadd (v := ((4 * c' + q : Nat) : Int)) dX3_carry_49 (by omega) ?_
              have e1 := (hg q (by omega)).1
              refine gr_iald (i := 4 * c' + q) dX3_carry_50 rfl (by omega) (by omega) (by omega) (by decide) ?_
              rw [e1]
              refine gr_imul (v := ((gs_pr (fun q => (f q).length) (fun q => (g q).length) p (q + 1) : Nat) : Int)) dX3_carry_51 (by simp only [gs_pr]; rw [if_neg (by omega), if_neg (by omega), Int.natCast_mul]) ?_
              refine gr_istore dX3_carry_52 (by decide) ?_
              refine gr_iinc (v := ((q + 1 : Nat) : Int)) dX3_carry_54 (by decide) rfl (by omega) ?_
              refine gr_goto 14 dX3_carry_57 (by decide) ?_
              exact ih (q + 1) (by omega)
            · refine gr_iload_n dX3_carry_40 rfl ?_
              refine gr_goto 45 dX3_carry_41 (by decide) ?_
              refine gr_iconst dX3_carry_45 ?_
              refine gr_imul dX3_carry_46 rfl ?_
              refine gr_iload dX3_carry_47 rfl ?_
              refine gr_iadd (v := ((4 * c + q : Nat) : Int)) dX3_carry_49 (by omega) ?_
              have e1 := (hf q (by omega)).1
              refine gr_iald (i := 4 * c + q) dX3_carry_50 rfl (by omega) (by omega) (by omega) (by decide) ?_
              rw [e1]
              refine gr_imul (v := ((gs_pr (fun q => (f q).length) (fun q => (g q).length) p (q + 1) : Nat) : Int)) dX3_carry_51 (by simp only [gs_pr]; rw [if_neg (by omega), if_pos (by omega), Int.natCast_mul]) ?_
              refine gr_istore dX3_carry_52 (by decide) ?_
              refine gr_iinc (v := ((q + 1 : Nat) : Int)) dX3_carry_54 (by decide) rfl (by omega) ?_
              refine gr_goto 14 dX3_carry_57 (by decide) ?_
              exact ih (q + 1) (by omega)
    exact inner 4 0 (by omega)
/-- what carry leaves in the row: by the choices of each player -/
def gq_carried (I I' : Nat → Nat → Int) (f g : Nat → List Nat) (c c' : Nat) (wm : Int) : Prop := (∀ a i, a ≠ 66 → a ≠ 67 → I' a i = I a i) ∧ (∀ y0 y1 y2 y3, y0 < (g 0).length → y1 < (g 1).length → y2 < (g 2).length → y3 < (g 3).length → (0 ≤ I' 66 (((y0 * (g 1).length + y1) * (g 2).length + y2) * (g 3).length + y3) ∧ I' 66 (((y0 * (g 1).length + y1) * (g 2).length + y2) * (g 3).length + y3) ≤ gs_NEVER) ∧ ∀ b : Int, I' 66 (((y0 * (g 1).length + y1) * (g 2).length + y2) * (g 3).length + y3) ≤ b ↔ (gs_NEVER ≤ b ∨ ∃ x0 x1 x2 x3, x0 < (f 0).length ∧ x1 < (f 1).length ∧ x2 < (f 2).length ∧ x3 < (f 3).length ∧ gq_w I f g c c' 0 x0 y0 < gs_NEVER ∧ gq_w I f g c c' 1 x1 y1 < gs_NEVER ∧ gq_w I f g c c' 2 x2 y2 < gs_NEVER ∧ gq_w I f g c c' 3 x3 y3 < gs_NEVER ∧ I 66 (((x0 * (f 1).length + x1) * (f 2).length + x2) * (f 3).length + x3) + (if wm = 1 then gq_w I f g c c' 0 x0 y0 + gq_w I f g c c' 1 x1 y1 + gq_w I f g c c' 2 x2 y2 + gq_w I f g c c' 3 x3 y3 else 0) ≤ b))
/-- four turns give it -/
theorem gq_four {I I3 I2 I1 I0 : Nat → Nat → Int} {f g : Nat → List Nat} {c c' : Nat} {wm : Int} (hM : gq_M I) (hc : c < 8) (hc' : c' < 8) (hrow : ∀ t, t < (((f 0).length * (f 1).length) * (f 2).length) * (f 3).length → 0 ≤ I 66 t ∧ I 66 t ≤ gs_NEVER)
    (t3 : gq_turn I I3 f g c c' 3 (((f 0).length * (f 1).length) * (f 2).length) wm 66 67) (t2 : gq_turn I3 I2 f g c c' 2 (((f 0).length * (f 1).length) * (g 3).length) wm 67 66) (t1 : gq_turn I2 I1 f g c c' 1 (((f 0).length * (g 2).length) * (g 3).length) wm 66 67) (t0 : gq_turn I1 I0 f g c c' 0 (((g 1).length * (g 2).length) * (g 3).length) wm 67 66) : gq_carried I I0 f g c c' wm := by
  obtain ⟨hB, hN, -, -, hrest, -, -⟩ := id hM
  have e3 : ∀ a, a < 21 → I3 a = I a := fun a ha => funext fun i => t3.1 a i (by omega)
  have e2 : ∀ a, a < 21 → I2 a = I a := fun a ha => funext fun i => by rw [t2.1 a i (by omega), t3.1 a i (by omega)]
  have e1 : ∀ a, a < 21 → I1 a = I a := fun a ha => funext fun i => by rw [t1.1 a i (by omega), t2.1 a i (by omega), t3.1 a i (by omega)]
  have w3 : ∀ p x y, gq_w I3 f g c c' p x y = gq_w I f g c c' p x y := fun p x y => gq_way_congr e3
  have w2 : ∀ p x y, gq_w I2 f g c c' p x y = gq_w I f g c c' p x y := fun p x y => gq_way_congr e2
  have w1 : ∀ p x y, gq_w I1 f g c c' p x y = gq_w I f g c c' p x y := fun p x y => gq_way_congr e1
  have wn : ∀ p x y, 0 ≤ gq_w I f g c c' p x y := fun p x y => (gs_way_in (B := gq_B I) (N := I 20) (rest := I 19 2) (p := p) (c := c) (h := (f p).getD x 0) (c' := c') (h' := (g p).getD y 0) hN hc hc' hrest).1
  have wst : ∀ p x y, 0 ≤ (if wm = 1 then gq_w I f g c c' p x y else 0) := fun p x y => by
    have := wn p x y
    split <;> omega
  generalize hn0 : (f 0).length = n0 at *
  generalize hn1 : (f 1).length = n1 at *
  generalize hn2 : (f 2).length = n2 at *
  generalize hn3 : (f 3).length = n3 at *
  generalize hm0 : (g 0).length = m0 at *
  generalize hm1 : (g 1).length = m1 at *
  generalize hm2 : (g 2).length = m2 at *
  generalize hm3 : (g 3).length = m3 at *
  unfold gq_turn at t3 t2 t1 t0
  simp only [hn0, hn1, hn2, hn3, hm0, hm1, hm2, hm3, w3, w2, w1] at t3 t2 t1 t0
  -- the rows, one after the other
  have A3 : ∀ x0 x1 x2 y3, x0 < n0 → x1 < n1 → x2 < n2 → y3 < m3 → I3 67 (y3 * ((n0 * n1) * n2) + ((x0 * n1 + x1) * n2 + x2)) = gs_low (fun x => gq_w I f g c c' 3 x y3) (fun x => I 66 (((x0 * n1 + x1) * n2 + x2) * n3 + x) + (if wm = 1 then gq_w I f g c c' 3 x y3 else 0)) n3 := by
    intro x0 x1 x2 y3 h0 h1 h2 h3
    rw [t3.2 y3 h3 _ (gs_mix (gs_mix h0 h1) h2)]
    simp only [Nat.add_comm]
  have A2 : ∀ x0 x1 y2 y3, x0 < n0 → x1 < n1 → y2 < m2 → y3 < m3 → I2 66 (y2 * ((n0 * n1) * m3) + (y3 * (n0 * n1) + (x0 * n1 + x1))) = gs_low (fun x => gq_w I f g c c' 2 x y2) (fun x => I3 67 (y3 * ((n0 * n1) * n2) + ((x0 * n1 + x1) * n2 + x)) + (if wm = 1 then gq_w I f g c c' 2 x y2 else 0)) n2 := by
    intro x0 x1 y2 y3 h0 h1 h2 h3
    rw [t2.2 y2 h2 (y3 * (n0 * n1) + (x0 * n1 + x1)) (by have := gs_mix h3 (gs_mix h0 h1); rw [Nat.mul_comm (n0 * n1) m3]; exact this)]
    have ei : ∀ x, x + (y3 * (n0 * n1) + (x0 * n1 + x1)) * n2 = y3 * ((n0 * n1) * n2) + ((x0 * n1 + x1) * n2 + x) := fun x => by grind
    simp only [ei]
  have A1 : ∀ x0 y1 y2 y3, x0 < n0 → y1 < m1 → y2 < m2 → y3 < m3 → I1 67 (y1 * ((n0 * m2) * m3) + ((y2 * m3 + y3) * n0 + x0)) = gs_low (fun x => gq_w I f g c c' 1 x y1) (fun x => I2 66 (y2 * ((n0 * n1) * m3) + (y3 * (n0 * n1) + (x0 * n1 + x))) + (if wm = 1 then gq_w I f g c c' 1 x y1 else 0)) n1 := by
    intro x0 y1 y2 y3 h0 h1 h2 h3
    rw [t1.2 y1 h1 ((y2 * m3 + y3) * n0 + x0) (by have := gs_mix (gs_mix h2 h3) h0; rw [show n0 * m2 * m3 = m2 * m3 * n0 by grind]; exact this)]
    have ei : ∀ x, x + ((y2 * m3 + y3) * n0 + x0) * n1 = y2 * ((n0 * n1) * m3) + (y3 * (n0 * n1) + (x0 * n1 + x)) := fun x => by grind
    simp only [ei]
  have A0 : ∀ y0 y1 y2 y3, y0 < m0 → y1 < m1 → y2 < m2 → y3 < m3 → I0 66 (((y0 * m1 + y1) * m2 + y2) * m3 + y3) = gs_low (fun x => gq_w I f g c c' 0 x y0) (fun x => I1 67 (y1 * ((n0 * m2) * m3) + ((y2 * m3 + y3) * n0 + x)) + (if wm = 1 then gq_w I f g c c' 0 x y0 else 0)) n0 := by
    intro y0 y1 y2 y3 h0 h1 h2 h3
    have ej : ((y0 * m1 + y1) * m2 + y2) * m3 + y3 = y0 * ((m1 * m2) * m3) + ((y1 * m2 + y2) * m3 + y3) := by grind
    rw [ej, t0.2 y0 h0 _ (gs_mix (gs_mix h1 h2) h3)]
    have ei : ∀ x, x + ((y1 * m2 + y2) * m3 + y3) * n0 = y1 * ((n0 * m2) * m3) + ((y2 * m3 + y3) * n0 + x) := fun x => by grind
    simp only [ei]
  have B3 : ∀ x0 x1 x2 y3, x0 < n0 → x1 < n1 → x2 < n2 → y3 < m3 → 0 ≤ I3 67 (y3 * ((n0 * n1) * n2) + ((x0 * n1 + x1) * n2 + x2)) := by
    intro x0 x1 x2 y3 h0 h1 h2 h3
    rw [A3 x0 x1 x2 y3 h0 h1 h2 h3]
    refine (gs_low_in n3 (fun x hx hw => ?_)).1
    have a1 := (hrow (((x0 * n1 + x1) * n2 + x2) * n3 + x) (gs_mix (gs_mix (gs_mix h0 h1) h2) hx)).1
    have a2 := wst 3 x y3
    omega
  have B2 : ∀ x0 x1 y2 y3, x0 < n0 → x1 < n1 → y2 < m2 → y3 < m3 → 0 ≤ I2 66 (y2 * ((n0 * n1) * m3) + (y3 * (n0 * n1) + (x0 * n1 + x1))) := by
    intro x0 x1 y2 y3 h0 h1 h2 h3
    rw [A2 x0 x1 y2 y3 h0 h1 h2 h3]
    refine (gs_low_in n2 (fun x hx hw => ?_)).1
    have a1 := B3 x0 x1 x y3 h0 h1 hx h3
    have a2 := wst 2 x y2
    omega
  have B1 : ∀ x0 y1 y2 y3, x0 < n0 → y1 < m1 → y2 < m2 → y3 < m3 → 0 ≤ I1 67 (y1 * ((n0 * m2) * m3) + ((y2 * m3 + y3) * n0 + x0)) := by
    intro x0 y1 y2 y3 h0 h1 h2 h3
    rw [A1 x0 y1 y2 y3 h0 h1 h2 h3]
    refine (gs_low_in n1 (fun x hx hw => ?_)).1
    have a1 := B2 x0 x y2 y3 h0 hx h2 h3
    have a2 := wst 1 x y1
    omega
  have C3 : ∀ x0 x1 x2 y3, x0 < n0 → x1 < n1 → x2 < n2 → y3 < m3 → ∀ b : Int, I3 67 (y3 * ((n0 * n1) * n2) + ((x0 * n1 + x1) * n2 + x2)) ≤ b ↔ (gs_NEVER ≤ b ∨ ∃ x3, x3 < n3 ∧ gq_w I f g c c' 3 x3 y3 < gs_NEVER ∧ I 66 (((x0 * n1 + x1) * n2 + x2) * n3 + x3) + (if wm = 1 then gq_w I f g c c' 3 x3 y3 else 0) ≤ b) := by
    intro x0 x1 x2 y3 h0 h1 h2 h3 b
    rw [A3 x0 x1 x2 y3 h0 h1 h2 h3, gs_low_le]
  have C2 : ∀ x0 x1 y2 y3, x0 < n0 → x1 < n1 → y2 < m2 → y3 < m3 → ∀ b : Int, I2 66 (y2 * ((n0 * n1) * m3) + (y3 * (n0 * n1) + (x0 * n1 + x1))) ≤ b ↔ (gs_NEVER ≤ b ∨ ∃ x2 x3, x2 < n2 ∧ x3 < n3 ∧ gq_w I f g c c' 2 x2 y2 < gs_NEVER ∧ gq_w I f g c c' 3 x3 y3 < gs_NEVER ∧ I 66 (((x0 * n1 + x1) * n2 + x2) * n3 + x3) + (if wm = 1 then gq_w I f g c c' 2 x2 y2 + gq_w I f g c c' 3 x3 y3 else 0) ≤ b) := by
    intro x0 x1 y2 y3 h0 h1 h2 h3 b
    rw [A2 x0 x1 y2 y3 h0 h1 h2 h3, gs_low_le]
    constructor
    · rintro (h | ⟨x, hx, hw, hb⟩)
      · exact Or.inl h
      · have a2 := wst 2 x y2
        rcases (C3 x0 x1 x y3 h0 h1 hx h3 (b - (if wm = 1 then gq_w I f g c c' 2 x y2 else 0))).mp (by omega) with h | ⟨x3, hx3, hw3, hb3⟩
        · exact Or.inl (by omega)
        · exact Or.inr ⟨x, x3, hx, hx3, hw, hw3, by split at hb3 <;> simp_all <;> omega⟩
    · rintro (h | ⟨x, x3, hx, hx3, hw, hw3, hb⟩)
      · exact Or.inl h
      · refine Or.inr ⟨x, hx, hw, ?_⟩
        have := (C3 x0 x1 x y3 h0 h1 hx h3 (b - (if wm = 1 then gq_w I f g c c' 2 x y2 else 0))).mpr (Or.inr ⟨x3, hx3, hw3, by split at hb <;> simp_all <;> omega⟩)
        omega
  have C1 : ∀ x0 y1 y2 y3, x0 < n0 → y1 < m1 → y2 < m2 → y3 < m3 → ∀ b : Int, I1 67 (y1 * ((n0 * m2) * m3) + ((y2 * m3 + y3) * n0 + x0)) ≤ b ↔ (gs_NEVER ≤ b ∨ ∃ x1 x2 x3, x1 < n1 ∧ x2 < n2 ∧ x3 < n3 ∧ gq_w I f g c c' 1 x1 y1 < gs_NEVER ∧ gq_w I f g c c' 2 x2 y2 < gs_NEVER ∧ gq_w I f g c c' 3 x3 y3 < gs_NEVER ∧ I 66 (((x0 * n1 + x1) * n2 + x2) * n3 + x3) + (if wm = 1 then gq_w I f g c c' 1 x1 y1 + gq_w I f g c c' 2 x2 y2 + gq_w I f g c c' 3 x3 y3 else 0) ≤ b) := by
    intro x0 y1 y2 y3 h0 h1 h2 h3 b
    rw [A1 x0 y1 y2 y3 h0 h1 h2 h3, gs_low_le]
    constructor
    · rintro (h | ⟨x, hx, hw, hb⟩)
      · exact Or.inl h
      · have a2 := wst 1 x y1
        rcases (C2 x0 x y2 y3 h0 hx h2 h3 (b - (if wm = 1 then gq_w I f g c c' 1 x y1 else 0))).mp (by omega) with h | ⟨x2, x3, hx2, hx3, hw2, hw3, hb3⟩
        · exact Or.inl (by omega)
        · exact Or.inr ⟨x, x2, x3, hx, hx2, hx3, hw, hw2, hw3, by split at hb3 <;> simp_all <;> omega⟩
    · rintro (h | ⟨x, x2, x3, hx, hx2, hx3, hw, hw2, hw3, hb⟩)
      · exact Or.inl h
      · refine Or.inr ⟨x, hx, hw, ?_⟩
        have := (C2 x0 x y2 y3 h0 hx h2 h3 (b - (if wm = 1 then gq_w I f g c c' 1 x y1 else 0))).mpr (Or.inr ⟨x2, x3, hx2, hx3, hw2, hw3, by split at hb <;> simp_all <;> omega⟩)
        omega
  unfold gq_carried
  simp only [hn0, hn1, hn2, hn3, hm0, hm1, hm2, hm3]
  refine ⟨fun a i ha hb => by rw [t0.1 a i ha, t1.1 a i hb, t2.1 a i ha, t3.1 a i hb], fun y0 y1 y2 y3 h0 h1 h2 h3 => ?_⟩
  rw [A0 y0 y1 y2 y3 h0 h1 h2 h3]
  refine ⟨gs_low_in n0 (fun x hx hw => ?_), fun b => ?_⟩
  · have a1 := B1 x y1 y2 y3 hx h1 h2 h3
    have a2 := wst 0 x y0
    omega
  · rw [gs_low_le]
    constructor
    · rintro (h | ⟨x, hx, hw, hb⟩)
      · exact Or.inl h
      · have a2 := wst 0 x y0
        rcases (C1 x y1 y2 y3 hx h1 h2 h3 (b - (if wm = 1 then gq_w I f g c c' 0 x y0 else 0))).mp (by omega) with h | ⟨x1, x2, x3, hx1, hx2, hx3, hw1, hw2, hw3, hb3⟩
        · exact Or.inl (by omega)
        · exact Or.inr ⟨x, x1, x2, x3, hx, hx1, hx2, hx3, hw, hw1, hw2, hw3, by split at hb3 <;> simp_all <;> omega⟩
    · rintro (h | ⟨x, x1, x2, x3, hx, hx1, hx2, hx3, hw, hw1, hw2, hw3, hb⟩)
      · exact Or.inl h
      · refine Or.inr ⟨x, hx, hw, ?_⟩
        have := (C1 x y1 y2 y3 hx h1 h2 h3 (b - (if wm = 1 then gq_w I f g c c' 0 x y0 else 0))).mpr (Or.inr ⟨x1, x2, x3, hx1, hx2, hx3, hw1, hw2, hw3, by split at hb <;> simp_all <;> omega⟩)
        omega
end GQ
end
section
/-! Search: carry, its contract -/
/-- caps on the numbers of choices -/
def gs_cap (n m : Nat → Nat) : Prop := ∃ k0 k1 k2 k3 : Nat, k0 * k1 * k2 * k3 ≤ 784 ∧ n 0 ≤ k0 ∧ m 0 ≤ k0 ∧ n 1 ≤ k1 ∧ m 1 ≤ k1 ∧ n 2 ≤ k2 ∧ m 2 ≤ k2 ∧ n 3 ≤ k3 ∧ m 3 ≤ k3
theorem gs_cap_of {P : Nat} {B : Nat → Nat → Int} {N : Nat → Int} {set c c' : Nat} (hP : P ≤ 4) (hbw : gb_bw (B 1) P ≤ 2) : gs_cap (fun p => (gs_ch P B N set c p).length) (fun p => (gs_ch P B N set c' p).length) := by
  have l1 : ∀ c p, P ≤ p → (gs_ch P B N set c p).length = 1 := by
    intro c p hp
    have : gs_ch P B N set c p = (List.range 7).filter (fun h => decide (h = 0)) := by
      unfold gs_ch
      apply List.filter_congr
      intro h _
      simp [gs_ok, show ¬ p < P by omega]
    rw [this]
    decide
  have hl : ∀ c p, (gs_ch P B N set c p).length ≤ (if p < P ∧ B 1 p = 1 then 7 else 4) := by
    intro c p
    by_cases hp : p < P
    · by_cases hk : B 1 p = 1
      · rw [if_pos ⟨hp, hk⟩]; exact gs_ch_len7
      · rw [if_neg (fun h => hk h.2)]; exact gs_ch_len4 hk
    · rw [if_neg (fun h => hp h.1), l1 c p (by omega)]; omega
  refine ⟨_, _, _, _, ?_, hl c 0, hl c' 0, hl c 1, hl c' 1, hl c 2, hl c' 2, hl c 3, hl c' 3⟩
  have hsum : (if 0 < P ∧ B 1 0 = 1 then (1 : Int) else 0) + (if 1 < P ∧ B 1 1 = 1 then 1 else 0) + (if 2 < P ∧ B 1 2 = 1 then 1 else 0) + (if 3 < P ∧ B 1 3 = 1 then 1 else 0) ≤ 2 := by
    refine Int.le_trans (Int.le_of_eq ?_) hbw
    rcases (show P = 0 ∨ P = 1 ∨ P = 2 ∨ P = 3 ∨ P = 4 by omega) with rfl | rfl | rfl | rfl | rfl <;> simp [gb_bw]
  revert hsum
  by_cases a0 : 0 < P ∧ B 1 0 = 1 <;> by_cases a1 : 1 < P ∧ B 1 1 = 1 <;> by_cases a2 : 2 < P ∧ B 1 2 = 1 <;> by_cases a3 : 3 < P ∧ B 1 3 = 1 <;> simp only [a0, a1, a2, a3, if_true, if_false, and_self] <;> intro h <;> revert h <;> decide
theorem gs_pr3 (n m : Nat → Nat) : gs_pr n m 3 4 = (n 0 * n 1) * n 2 := by simp [gs_pr]
theorem gs_pr2 (n m : Nat → Nat) : gs_pr n m 2 4 = (n 0 * n 1) * m 3 := by simp [gs_pr]
theorem gs_pr1 (n m : Nat → Nat) : gs_pr n m 1 4 = (n 0 * m 2) * m 3 := by simp [gs_pr]
theorem gs_pr0 (n m : Nat → Nat) : gs_pr n m 0 4 = (m 1 * m 2) * m 3 := by simp [gs_pr]
theorem gs_le4 {a b c d k0 k1 k2 k3 : Nat} (hk : k0 * k1 * k2 * k3 ≤ 784) (h0 : a ≤ k0) (h1 : b ≤ k1) (h2 : c ≤ k2) (h3 : d ≤ k3) : a * b * c * d ≤ 784 := Nat.le_trans (Nat.mul_le_mul (Nat.mul_le_mul (Nat.mul_le_mul h0 h1) h2) h3) hk
section GQ
variable {I : Nat → Nat → Int} {F : Nat → Nat → Option Nat} {r s : Nat}
theorem gq_turn_in {I' : Nat → Nat → Int} {f g : Nat → List Nat} {c c' p o : Nat} {wm : Int} (hM : gq_M I) (hc : c < 8) (hc' : c' < 8) (hrow : ∀ t, t < o * (f p).length → 0 ≤ I r t ∧ I r t ≤ gs_NEVER) (ht : gq_turn I I' f g c c' p o wm r s) : ∀ t, t < o * (g p).length → 0 ≤ I' s t ∧ I' s t ≤ gs_NEVER := by
  obtain ⟨hB, hN, -, -, hrest, -, -⟩ := id hM
  intro t h
  have ho : 0 < o := by
    rcases Nat.eq_zero_or_pos o with h0 | h0
    · rw [h0, Nat.zero_mul] at h; omega
    · exact h0
  have h1 : t % o < o := Nat.mod_lt _ ho
  have h2 : t / o < (g p).length := (Nat.div_lt_iff_lt_mul ho).mpr (by rw [Nat.mul_comm]; exact h)
  have h3 := ht.2 (t / o) h2 (t % o) h1
  rw [show t / o * o + t % o = t by rw [Nat.mul_comm]; exact Nat.div_add_mod t o] at h3
  rw [h3]
  refine gs_low_in _ (fun x hx hw => ?_)
  have a1 := (hrow (x + t % o * (f p).length) (by have := gs_mix h1 hx; omega)).1
  have a2 : 0 ≤ gq_w I f g c c' p x (t / o) := (gs_way_in (B := gq_B I) (N := I 20) (rest := I 19 2) (p := p) (c := c) (h := (f p).getD x 0) (c' := c') (h' := (g p).getD (t / o) 0) hN hc hc' hrest).1
  split <;> omega
theorem gq_off_congr {I' : Nat → Nat → Int} {f : Nat → List Nat} {c : Nat} (hc : c < 8) (e : ∀ a i, 21 ≤ a → a < 55 → I' a i = I a i) (h : gq_off I f c) : gq_off I' f c := by
  intro p hp
  obtain ⟨h1, h2⟩ := h p hp
  exact ⟨by rw [e _ _ (by omega) (by omega)]; exact h1, fun i hi => by rw [e _ _ (by omega) (by omega)]; exact h2 i hi⟩
theorem gq_Kr_swap (h : gq_Kr F r s) : gq_Kr (gw_U (gw_U F 12 9 (some r)) 12 8 (some s)) s r := by
  obtain ⟨f0, f1, f3, f4, f8, f9, f21, fb, fp, hrs⟩ := h
  have e : ∀ a b, ¬ (a = 12 ∧ (b = 8 ∨ b = 9)) → gw_U (gw_U F 12 9 (some r)) 12 8 (some s) a b = F a b := fun a b hab => by
    rw [gw_U_n (by omega), gw_U_n (by omega)]
  refine ⟨by rw [e _ _ (by omega)]; exact f0, by rw [e _ _ (by omega)]; exact f1, by rw [e _ _ (by omega)]; exact f3, by rw [e _ _ (by omega)]; exact f4, gw_U_s, ?_, fun i hi => by rw [e _ _ (by omega)]; exact f21 i hi, ?_, ?_, by omega⟩
  · rw [gw_U_n (by omega), gw_U_s]
  · unfold gb_K at fb ⊢
    simp only [e 13 2 (by omega), e 13 3 (by omega), e 13 4 (by omega), e 13 5 (by omega), e 13 6 (by omega)]
    exact fb
  · unfold gp_K at fp ⊢
    simp only [e 19 4 (by omega)]
    exact fp
theorem gq_swap2 (h8 : F 12 8 = some r) (h9 : F 12 9 = some s) : gw_U (gw_U (gw_U (gw_U F 12 9 (some r)) 12 8 (some s)) 12 9 (some s)) 12 8 (some r) = F := by
  funext a b
  by_cases h : a = 12 ∧ b = 8
  · obtain ⟨rfl, rfl⟩ := h
    rw [gw_U_s, h8]
  · rw [gw_U_n h]
    by_cases h2 : a = 12 ∧ b = 9
    · obtain ⟨rfl, rfl⟩ := h2
      rw [gw_U_s, h9]
    · rw [gw_U_n h2, gw_U_n h, gw_U_n h2]
theorem gq_K_Kr (h : gq_K F) : gq_Kr F 66 67 := by
  obtain ⟨f0, f1, f3, f4, f5, f6, f7, f8, f9, f10, f11, f21, f55, fb, fp⟩ := h
  exact ⟨f0, f1, f3, f4, f8, f9, f21, fb, fp, Or.inl ⟨rfl, rfl⟩⟩
theorem c_carry {c c' : Nat} {wm : Int} {f g : Nat → List Nat} (d : Nat) (hF : gq_K F) (hM : gq_M I) (hc : c < 8) (hc' : c' < 8) (hwm : wm = 0 ∨ wm = 1) (hf : gq_off I f c) (hg : gq_off I g c') (hf8 : ∀ p, p < 4 → ∀ i, i < (f p).length → (f p).getD i 0 < 8) (hg8 : ∀ p, p < 4 → ∀ i, i < (g p).length → (g p).getD i 0 < 8) (hf7 : ∀ p, p < 4 → (f p).length ≤ 7) (hg7 : ∀ p, p < 4 → (g p).length ≤ 7) (hcap : gs_cap (fun p => (f p).length) (fun p => (g p).length)) (hrow : ∀ t, t < (((f 0).length * (f 1).length) * (f 2).length) * (f 3).length → 0 ≤ I 66 t ∧ I 66 t ≤ gs_NEVER) : gw_Met jX3_carry (d + 4) [.inr (some 12), .inl (c : Int), .inl (c' : Int), .inl wm] (114, I, F) (gw_vo F (fun I' => gq_carried I I' f g c c' wm)) := by
  obtain ⟨k0, k1, k2, k3, hk, n0, m0, n1, m1, n2, m2, n3, m3⟩ := hcap
  dsimp only at n0 m0 n1 m1 n2 m2 n3 m3
  have hK0 := gq_K_Kr hF
  have hK1 := gq_Kr_swap hK0
  have hK2 := gq_Kr_swap hK1
  have hK3 := gq_Kr_swap hK2
  have z3 := gs_pr3 (fun q => (f q).length) (fun q => (g q).length)
  have z2 := gs_pr2 (fun q => (f q).length) (fun q => (g q).length)
  have z1 := gs_pr1 (fun q => (f q).length) (fun q => (g q).length)
  have z0 := gs_pr0 (fun q => (f q).length) (fun q => (g q).length)
  generalize hFF : F = F0 at *
  refine gw_enter okX3_carry rfl (Nat.le_of_ble_eq_true rfl) ?_
  refine gr_iconst dX3_carry_0 ?_
  refine gr_istore dX3_carry_1 (by decide) ?_
  refine carry_step (p := 3) (f := f) (g := g) d hK0 hM (by omega) hc hc' hwm hf hg hf8 hg8 hf7 hg7 (by rw [z3]; exact gs_le4 hk n0 n1 n2 n3) (by rw [z3]; exact gs_le4 hk n0 n1 n2 m3) (by rw [z3]; exact hrow) (fun I3 x5 x6 t3 => ?_)
  rw [z3] at t3
  have q3 : ∀ a i, a ≠ 66 → a ≠ 67 → I3 a i = I a i := fun a i ha hb => t3.1 a i hb
  have hM3 : gq_M I3 := gq_M_congr (fun a ha => funext fun i => q3 a i (by omega) (by omega)) hM
  have r3 := gq_turn_in hM hc hc' hrow t3
  refine carry_step (p := 2) (f := f) (g := g) d hK1 hM3 (by omega) hc hc' hwm (gq_off_congr hc (fun a i _ _ => q3 a i (by omega) (by omega)) hf) (gq_off_congr hc' (fun a i _ _ => q3 a i (by omega) (by omega)) hg) hf8 hg8 hf7 hg7 (by rw [z2]; have := gs_le4 hk n0 n1 n2 m3; rw [Nat.mul_right_comm]; exact this) (by rw [z2]; have := gs_le4 hk n0 n1 m2 m3; rw [Nat.mul_right_comm]; exact this) (by rw [z2]; intro t ht; exact r3 t (by rw [Nat.mul_right_comm] at ht; exact ht)) (fun I2 x5 x6 t2 => ?_)
  rw [z2] at t2
  have q2 : ∀ a i, a ≠ 66 → a ≠ 67 → I2 a i = I a i := fun a i ha hb => by rw [t2.1 a i ha]; exact q3 a i ha hb
  have hM2 : gq_M I2 := gq_M_congr (fun a ha => funext fun i => q2 a i (by omega) (by omega)) hM
  have r2 := gq_turn_in hM3 hc hc' (fun t ht => r3 t (by rw [Nat.mul_right_comm] at ht; exact ht)) t2
  refine carry_step (p := 1) (f := f) (g := g) d hK2 hM2 (by omega) hc hc' hwm (gq_off_congr hc (fun a i _ _ => q2 a i (by omega) (by omega)) hf) (gq_off_congr hc' (fun a i _ _ => q2 a i (by omega) (by omega)) hg) hf8 hg8 hf7 hg7 (by rw [z1]; have := gs_le4 hk n0 n1 m2 m3; rw [show (f 0).length * (g 2).length * (g 3).length * (f 1).length = (f 0).length * (f 1).length * (g 2).length * (g 3).length by grind]; exact this) (by rw [z1]; have := gs_le4 hk n0 m1 m2 m3; rw [show (f 0).length * (g 2).length * (g 3).length * (g 1).length = (f 0).length * (g 1).length * (g 2).length * (g 3).length by grind]; exact this) (by rw [z1]; intro t ht; exact r2 t (by rw [show (f 0).length * (f 1).length * (g 3).length * (g 2).length = (f 0).length * (g 2).length * (g 3).length * (f 1).length by grind]; exact ht)) (fun I1 x5 x6 t1 => ?_)
  rw [z1] at t1
  have q1 : ∀ a i, a ≠ 66 → a ≠ 67 → I1 a i = I a i := fun a i ha hb => by rw [t1.1 a i hb]; exact q2 a i ha hb
  have hM1 : gq_M I1 := gq_M_congr (fun a ha => funext fun i => q1 a i (by omega) (by omega)) hM
  have r1 := gq_turn_in hM2 hc hc' (fun t ht => r2 t (by rw [show (f 0).length * (f 1).length * (g 3).length * (g 2).length = (f 0).length * (g 2).length * (g 3).length * (f 1).length by grind]; exact ht)) t1
  refine carry_step (p := 0) (f := f) (g := g) d hK3 hM1 (by omega) hc hc' hwm (gq_off_congr hc (fun a i _ _ => q1 a i (by omega) (by omega)) hf) (gq_off_congr hc' (fun a i _ _ => q1 a i (by omega) (by omega)) hg) hf8 hg8 hf7 hg7 (by rw [z0]; have := gs_le4 hk n0 m1 m2 m3; rw [show (g 1).length * (g 2).length * (g 3).length * (f 0).length = (f 0).length * (g 1).length * (g 2).length * (g 3).length by grind]; exact this) (by rw [z0]; have := gs_le4 hk m0 m1 m2 m3; rw [show (g 1).length * (g 2).length * (g 3).length * (g 0).length = (g 0).length * (g 1).length * (g 2).length * (g 3).length by grind]; exact this) (by rw [z0]; intro t ht; exact r1 t (by rw [show (f 0).length * (g 2).length * (g 3).length * (g 1).length = (g 1).length * (g 2).length * (g 3).length * (f 0).length by grind]; exact ht)) (fun I0 x5 x6 t0 => ?_)
  rw [z0] at t0
  rw [gq_swap2 hK2.2.2.2.2.1 hK2.2.2.2.2.2.1, gq_swap2 hK0.2.2.2.2.1 hK0.2.2.2.2.2.1]
  refine gr_iload dX3_carry_3 rfl ?_
  refine gr_if_lt 97 dX3_carry_5 (by decide) (by unfold gw_in; omega) (fun h5 => ?_) (fun h5 => ?_)
  · refine gr_vret dX3_carry_97 rfl (by decide) (by decide) (⟨rfl, _, rfl, gq_four hM hc hc' hrow t3 t2 t1 t0⟩)
  · omega
end GQ
end
section
/-! WHAT IS ASKED: scores -/
/-- player p's hand in a code -/
def gs_hd (k p : Nat) : Nat := k / 8 ^ (3 - p) % 8
def gs_tot (B : Nat → Nat → Int) (N : Nat → Int) (rest : Int) (c k c' k' : Nat) : Int := gs_way B N rest 0 c (gs_hd k 0) c' (gs_hd k' 0) + gs_way B N rest 1 c (gs_hd k 1) c' (gs_hd k' 1) + gs_way B N rest 2 c (gs_hd k 2) c' (gs_hd k' 2) + gs_way B N rest 3 c (gs_hd k 3) c' (gs_hd k' 3)
def gs_can (B : Nat → Nat → Int) (N : Nat → Int) (rest : Int) (c k c' k' : Nat) : Bool := gs_way B N rest 0 c (gs_hd k 0) c' (gs_hd k' 0) < gs_NEVER ∧ gs_way B N rest 1 c (gs_hd k 1) c' (gs_hd k' 1) < gs_NEVER ∧ gs_way B N rest 2 c (gs_hd k 2) c' (gs_hd k' 2) < gs_NEVER ∧ gs_way B N rest 3 c (gs_hd k 3) c' (gs_hd k' 3) < gs_NEVER
theorem gs_tot_comm {B : Nat → Nat → Int} {N : Nat → Int} {rest : Int} {c k c' k' : Nat} : gs_tot B N rest c k c' k' = gs_tot B N rest c' k' c k := by
  unfold gs_tot
  rw [gs_way_comm, gs_way_comm (p := 1), gs_way_comm (p := 2), gs_way_comm (p := 3)]
theorem gs_can_comm {B : Nat → Nat → Int} {N : Nat → Int} {rest : Int} {c k c' k' : Nat} : gs_can B N rest c k c' k' = gs_can B N rest c' k' c k := by
  unfold gs_can
  rw [gs_way_comm, gs_way_comm (p := 1), gs_way_comm (p := 2), gs_way_comm (p := 3)]
theorem gs_tot_in {B : Nat → Nat → Int} {N : Nat → Int} {rest : Int} {c k c' k' : Nat} (hN : gp_N N) (hc : c < 8) (hc' : c' < 8) (hr : 0 ≤ rest ∧ rest ≤ 20) : 0 ≤ gs_tot B N rest c k c' k' ∧ gs_tot B N rest c k c' k' ≤ 4 * gs_NEVER ∧ (gs_can B N rest c k c' k' = true → gs_tot B N rest c k c' k' ≤ 252) ∧ (gs_can B N rest c k c' k' = false → gs_NEVER ≤ gs_tot B N rest c k c' k') := by
  have w := fun p => gs_way_in (B := B) (N := N) (rest := rest) (p := p) (c := c) (h := gs_hd k p) (c' := c') (h' := gs_hd k' p) hN hc hc' hr
  have w0 := w 0
  have w1 := w 1
  have w2 := w 2
  have w3 := w 3
  unfold gs_tot gs_can
  unfold gs_NEVER at *
  simp only [decide_eq_true_eq, decide_eq_false_iff_not]
  omega
/-- codes and places -/
theorem gs_code {f : Nat → List Nat} {x0 x1 x2 x3 : Nat} (h0 : x0 < (f 0).length) (h1 : x1 < (f 1).length) (h2 : x2 < (f 2).length) (h3 : x3 < (f 3).length) : ((x0 * (f 1).length + x1) * (f 2).length + x2) * (f 3).length + x3 < (gs_sp f 4).length ∧ (gs_sp f 4).getD (((x0 * (f 1).length + x1) * (f 2).length + x2) * (f 3).length + x3) 0 = 8 * (8 * (8 * (f 0).getD x0 0 + (f 1).getD x1 0) + (f 2).getD x2 0) + (f 3).getD x3 0 := by
  have l1 : (gs_sp f 1).length = (f 0).length := by rw [gs_len]; exact Nat.one_mul _
  have l2 : (gs_sp f 2).length = (f 0).length * (f 1).length := by rw [gs_len, l1]
  have l3 : (gs_sp f 3).length = (f 0).length * (f 1).length * (f 2).length := by rw [gs_len, l2]
  have l4 : (gs_sp f 4).length = (f 0).length * (f 1).length * (f 2).length * (f 3).length := by rw [gs_len, l3]
  have b1 := h0
  have b2 := gs_mix h0 h1
  have b3 := gs_mix b2 h2
  have b4 := gs_mix b3 h3
  have dv : ∀ a b n : Nat, b < n → (a * n + b) / n = a ∧ (a * n + b) % n = b := fun a b n hb => ⟨by rw [Nat.mul_comm, Nat.mul_add_div (by omega), Nat.div_eq_of_lt hb, Nat.add_zero], by rw [Nat.mul_comm, Nat.mul_add_mod, Nat.mod_eq_of_lt hb]⟩
  refine ⟨by rw [l4]; exact b4, ?_⟩
  rw [gs_get f 3 _ (by rw [l4]; exact b4), (dv _ _ _ h3).1, (dv _ _ _ h3).2, gs_get f 2 _ (by rw [l3]; exact b3), (dv _ _ _ h2).1, (dv _ _ _ h2).2, gs_get f 1 _ (by rw [l2]; exact b2), (dv _ _ _ h1).1, (dv _ _ _ h1).2, gs_get f 0 _ (by rw [l1]; exact b1)]
  have e0 : x0 / (f 0).length = 0 := Nat.div_eq_of_lt h0
  have e1 : x0 % (f 0).length = x0 := Nat.mod_eq_of_lt h0
  rw [e0, e1]
  show 8 * (8 * (8 * (8 * 0 + _) + _) + _) + _ = _
  rw [Nat.mul_zero, Nat.zero_add]
theorem gs_uncode {f : Nat → List Nat} {t : Nat} (h : t < (gs_sp f 4).length) : ∃ x0 x1 x2 x3, x0 < (f 0).length ∧ x1 < (f 1).length ∧ x2 < (f 2).length ∧ x3 < (f 3).length ∧ t = ((x0 * (f 1).length + x1) * (f 2).length + x2) * (f 3).length + x3 := by
  have l1 : (gs_sp f 1).length = (f 0).length := by rw [gs_len]; exact Nat.one_mul _
  rw [gs_len, gs_len, gs_len, l1] at h
  have st : ∀ t a n : Nat, t < a * n → t / n < a ∧ t % n < n ∧ t = t / n * n + t % n := fun t a n ht => by
    have hn : 0 < n := by
      rcases Nat.eq_zero_or_pos n with h0 | h0
      · rw [h0, Nat.mul_zero] at ht; omega
      · exact h0
    exact ⟨(Nat.div_lt_iff_lt_mul hn).mpr ht, Nat.mod_lt _ hn, by rw [Nat.mul_comm]; exact (Nat.div_add_mod t n).symm⟩
  obtain ⟨a1, a2, a3⟩ := st _ _ _ h
  obtain ⟨b1, b2, b3⟩ := st _ _ _ a1
  obtain ⟨c1, c2, c3⟩ := st _ _ _ b1
  exact ⟨_, _, _, _, c1, c2, b2, a2, by rw [← c3, ← b3, ← a3]⟩
theorem gs_hd_code {a b c d : Nat} (hb : b < 8) (hc : c < 8) (hd : d < 8) (ha : a < 8) : gs_hd (8 * (8 * (8 * a + b) + c) + d) 0 = a ∧ gs_hd (8 * (8 * (8 * a + b) + c) + d) 1 = b ∧ gs_hd (8 * (8 * (8 * a + b) + c) + d) 2 = c ∧ gs_hd (8 * (8 * (8 * a + b) + c) + d) 3 = d := by
  unfold gs_hd
  refine ⟨?_, ?_, ?_, ?_⟩
  · show _ / 512 % 8 = _; omega
  · show _ / 64 % 8 = _; omega
  · show _ / 8 % 8 = _; omega
  · show _ / 1 % 8 = _; omega
section SC
variable (P : Nat) (B : Nat → Nat → Int) (N : Nat → Int) (rest : Int) (set : Nat) (bal : Int)
/-- k is an even spread of chord c -/
abbrev gs_EV (c k : Nat) : Bool := gs_ev B (gp_cnt N c) bal k
/-- from spread k of chord c the m chords behind it can be played for at most b -/
def gs_pay : Nat → Nat → Nat → Int → Bool
  | 0, _, _, b => 0 ≤ b
  | m + 1, c, k, b => (gs_SP P B N set (c + 1)).any (fun k' => gs_EV B N bal (c + 1) k' && (gs_can B N rest c k (c + 1) k' && gs_pay m (c + 1) k' (b - gs_tot B N rest c k (c + 1) k')))
theorem gs_pay_s {m c k : Nat} {b : Int} : gs_pay P B N rest set bal (m + 1) c k b = true ↔ ∃ k', k' ∈ gs_SP P B N set (c + 1) ∧ gs_EV B N bal (c + 1) k' = true ∧ gs_can B N rest c k (c + 1) k' = true ∧ gs_pay P B N rest set bal m (c + 1) k' (b - gs_tot B N rest c k (c + 1) k') = true := by
  simp only [gs_pay, List.any_eq_true, Bool.and_eq_true]
theorem gs_pay_mono {m : Nat} : ∀ {c k : Nat} {b b' : Int}, b ≤ b' → gs_pay P B N rest set bal m c k b = true → gs_pay P B N rest set bal m c k b' = true := by
  induction m with
  | zero => intro c k b b' h; simp only [gs_pay, decide_eq_true_eq]; omega
  | succ m ih =>
    intro c k b b' h hp
    obtain ⟨k', h1, h2, h3, h4⟩ := (gs_pay_s P B N rest set bal).mp hp
    exact (gs_pay_s P B N rest set bal).mpr ⟨k', h1, h2, h3, ih (by omega) h4⟩
theorem gs_pay_nn (hN : gp_N N) (hr : 0 ≤ rest ∧ rest ≤ 20) {m : Nat} : ∀ {c k : Nat} {b : Int}, c + m < 8 → gs_pay P B N rest set bal m c k b = true → 0 ≤ b := by
  induction m with
  | zero => intro c k b _; simp only [gs_pay, decide_eq_true_eq]; exact id
  | succ m ih =>
    intro c k b hc hp
    obtain ⟨k', h1, h2, h3, h4⟩ := (gs_pay_s P B N rest set bal).mp hp
    have := ih (by omega) h4
    have := (gs_tot_in (B := B) (N := N) (rest := rest) (c := c) (k := k) (c' := c + 1) (k' := k') hN (by omega) (by omega) hr).1
    omega
/-- what can be paid can be paid by 252 a chord -/
theorem gs_pay_bd (hN : gp_N N) (hr : 0 ≤ rest ∧ rest ≤ 20) {m : Nat} : ∀ {c k : Nat} {b : Int}, c + m < 8 → gs_pay P B N rest set bal m c k b = true → gs_pay P B N rest set bal m c k (252 * m) = true := by
  induction m with
  | zero => intro c k b _ _; simp [gs_pay]
  | succ m ih =>
    intro c k b hc hp
    obtain ⟨k', h1, h2, h3, h4⟩ := (gs_pay_s P B N rest set bal).mp hp
    have h5 := ih (by omega) h4
    have h6 := (gs_tot_in (B := B) (N := N) (rest := rest) (c := c) (k := k) (c' := c + 1) (k' := k') hN (by omega) (by omega) hr).2.2.1 h3
    exact (gs_pay_s P B N rest set bal).mpr ⟨k', h1, h2, h3, gs_pay_mono P B N rest set bal (by omega) h5⟩
/-- the cost of THE SCORE of S chords; none: there is none -/
def gs_cost (S : Nat) : Option Nat := if S = 0 then some 0 else (List.range 2000).find? (fun b => (gs_SP P B N set 0).any (fun k => gs_EV B N bal 0 k && gs_pay P B N rest set bal (S - 1) 0 k (b : Int)))
/-- its spreads one after the other, and what is left to pay behind each -/
def gs_K (S L : Nat) : Nat → Nat × Int
  | 0 => (((gs_SP P B N set 0).find? (fun k => gs_EV B N bal 0 k && gs_pay P B N rest set bal (S - 1) 0 k (L : Int))).getD 0, (L : Int))
  | c + 1 =>
    let q := gs_K S L c
    let k := ((gs_SP P B N set (c + 1)).find? (fun k => gs_EV B N bal (c + 1) k && (gs_can B N rest c q.1 (c + 1) k && gs_pay P B N rest set bal (S - 1 - (c + 1)) (c + 1) k (q.2 - gs_tot B N rest c q.1 (c + 1) k)))).getD 0
    (k, q.2 - gs_tot B N rest c q.1 (c + 1) k)
/-- by balance bal the first n chords have a score -/
def gs_fea (n : Nat) : Bool := n = 0 ∨ (gs_SP P B N set 0).any (fun k => gs_EV B N bal 0 k && gs_pay P B N rest set bal (n - 1) 0 k 2000) = true
/-- the first chords up to c can be played so that c has spread k -/
def gs_fwd : Nat → Nat → Bool
  | 0, k => gs_EV B N bal 0 k
  | c + 1, k => gs_EV B N bal (c + 1) k && (gs_SP P B N set c).any (fun k' => gs_fwd c k' && gs_can B N rest c k' (c + 1) k)
theorem gs_fwd_s {c k : Nat} : gs_fwd P B N rest set bal (c + 1) k = true ↔ gs_EV B N bal (c + 1) k = true ∧ ∃ k', k' ∈ gs_SP P B N set c ∧ gs_fwd P B N rest set bal c k' = true ∧ gs_can B N rest c k' (c + 1) k = true := by
  simp only [gs_fwd, Bool.and_eq_true, List.any_eq_true]
/-- forwards and backwards are one -/
theorem gs_fb (hN : gp_N N) (hr : 0 ≤ rest ∧ rest ≤ 20) (n : Nat) (hn : n < 8) : (∃ k, k ∈ gs_SP P B N set n ∧ gs_fwd P B N rest set bal n k = true) ↔ gs_fea P B N rest set bal (n + 1) = true := by
  have key : ∀ m c, c + m = n → ((∃ k, k ∈ gs_SP P B N set n ∧ gs_fwd P B N rest set bal n k = true) ↔ ∃ k, k ∈ gs_SP P B N set c ∧ gs_fwd P B N rest set bal c k = true ∧ gs_pay P B N rest set bal m c k 2000 = true) := by
    intro m
    induction m with
    | zero =>
      intro c hc
      rw [show c = n by omega]
      simp [gs_pay]
    | succ m ih =>
      intro c hc
      rw [ih (c + 1) (by omega)]
      constructor
      · rintro ⟨k, h1, h2, h3⟩
        obtain ⟨h4, k', h5, h6, h7⟩ := (gs_fwd_s P B N rest set bal).mp h2
        refine ⟨k', h5, h6, (gs_pay_s P B N rest set bal).mpr ⟨k, h1, h4, h7, ?_⟩⟩
        have h8 := gs_pay_bd P B N rest set bal hN hr (by omega) h3
        have h9 := (gs_tot_in (B := B) (N := N) (rest := rest) (c := c) (k := k') (c' := c + 1) (k' := k) hN (by omega) (by omega) hr).2.2.1 h7
        exact gs_pay_mono P B N rest set bal (by omega) h8
      · rintro ⟨k, h1, h2, h3⟩
        obtain ⟨k', h4, h5, h6, h7⟩ := (gs_pay_s P B N rest set bal).mp h3
        have h8 := gs_pay_bd P B N rest set bal hN hr (by omega) h7
        exact ⟨k', h4, (gs_fwd_s P B N rest set bal).mpr ⟨h5, k, h1, h2, h6⟩, gs_pay_mono P B N rest set bal (by omega) h8⟩
  rw [key n 0 (by omega)]
  unfold gs_fea
  simp [gs_fwd]
end SC
end
section
theorem i_vc : Claimed_1_1 ∧ Claimed_1_2 := sorry
end
