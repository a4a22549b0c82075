section
-- ===== PART A: goes FIRST, ahead of the names: the tables' words, and 'selects' of the private methods out of them =====
/-- a private method of a class that the tables say can be made, by its rows of tables_1 -/
def lw_okq (q : MethodName × Nat) : Prop := (q.1.cls ≠ "java/lang/invoke/MethodHandle" ∧ q.1.cls ≠ "java/lang/invoke/VarHandle") ∧ Cond.instantiable q.1.cls q.2 ∈ tables_1 ∧ Cond.privateMethod q.1 ∈ tables_1 ∧ Cond.instanceMethod q.1 ∈ tables_1
theorem lw_p0 : lw_okq (⟨"LabelRoads", "checkTwoRouters", "(II)V"⟩, 6) := ⟨⟨by decide +kernel, by decide +kernel⟩, List.mem_of_getElem? (i := 17) (by decide +kernel), List.mem_of_getElem? (i := 173) (by decide +kernel), List.mem_of_getElem? (i := 174) (by decide +kernel)⟩
theorem lw_p1 : lw_okq (⟨"LabelRoads", "checkRouter", "(I)V"⟩, 6) := ⟨⟨by decide +kernel, by decide +kernel⟩, List.mem_of_getElem? (i := 17) (by decide +kernel), List.mem_of_getElem? (i := 177) (by decide +kernel), List.mem_of_getElem? (i := 178) (by decide +kernel)⟩
theorem lw_p2 : lw_okq (⟨"java/lang/Throwable", "fillInStackTrace", "(I)Ljava/lang/Throwable;"⟩, 6) := ⟨⟨by decide +kernel, by decide +kernel⟩, List.mem_of_getElem? (i := 221) (by decide +kernel), List.mem_of_getElem? (i := 219) (by decide +kernel), List.mem_of_getElem? (i := 220) (by decide +kernel)⟩
theorem lw_p3 : lw_okq (⟨"LabelRoads$Ways", "measure", "(I)V"⟩, 4) := ⟨⟨by decide +kernel, by decide +kernel⟩, List.mem_of_getElem? (i := 31) (by decide +kernel), List.mem_of_getElem? (i := 260) (by decide +kernel), List.mem_of_getElem? (i := 261) (by decide +kernel)⟩
theorem lw_p4 : lw_okq (⟨"LabelRoads$Ways", "lengthenWays", "([I)V"⟩, 4) := ⟨⟨by decide +kernel, by decide +kernel⟩, List.mem_of_getElem? (i := 31) (by decide +kernel), List.mem_of_getElem? (i := 264) (by decide +kernel), List.mem_of_getElem? (i := 265) (by decide +kernel)⟩
theorem lw_p5 : lw_okq (⟨"LabelRoads", "cutOff", "(II)V"⟩, 6) := ⟨⟨by decide +kernel, by decide +kernel⟩, List.mem_of_getElem? (i := 17) (by decide +kernel), List.mem_of_getElem? (i := 273) (by decide +kernel), List.mem_of_getElem? (i := 274) (by decide +kernel)⟩
theorem lw_p6 : lw_okq (⟨"LabelRoads", "tellLabels", "(II)V"⟩, 6) := ⟨⟨by decide +kernel, by decide +kernel⟩, List.mem_of_getElem? (i := 17) (by decide +kernel), List.mem_of_getElem? (i := 296) (by decide +kernel), List.mem_of_getElem? (i := 297) (by decide +kernel)⟩
theorem lw_p7 : lw_okq (⟨"LabelRoads", "settleAll", "()V"⟩, 6) := ⟨⟨by decide +kernel, by decide +kernel⟩, List.mem_of_getElem? (i := 17) (by decide +kernel), List.mem_of_getElem? (i := 308) (by decide +kernel), List.mem_of_getElem? (i := 309) (by decide +kernel)⟩
theorem lw_p8 : lw_okq (⟨"LabelRoads", "settlePrefixes", "(I)V"⟩, 6) := ⟨⟨by decide +kernel, by decide +kernel⟩, List.mem_of_getElem? (i := 17) (by decide +kernel), List.mem_of_getElem? (i := 312) (by decide +kernel), List.mem_of_getElem? (i := 313) (by decide +kernel)⟩
theorem lw_p9 : lw_okq (⟨"LabelRoads", "settle", "(II)V"⟩, 6) := ⟨⟨by decide +kernel, by decide +kernel⟩, List.mem_of_getElem? (i := 17) (by decide +kernel), List.mem_of_getElem? (i := 316) (by decide +kernel), List.mem_of_getElem? (i := 317) (by decide +kernel)⟩
theorem lw_p10 : lw_okq (⟨"LabelRoads", "isReady", "(II)Z"⟩, 6) := ⟨⟨by decide +kernel, by decide +kernel⟩, List.mem_of_getElem? (i := 17) (by decide +kernel), List.mem_of_getElem? (i := 320) (by decide +kernel), List.mem_of_getElem? (i := 321) (by decide +kernel)⟩
theorem lw_p11 : lw_okq (⟨"LabelRoads", "giveLabel", "(II)V"⟩, 6) := ⟨⟨by decide +kernel, by decide +kernel⟩, List.mem_of_getElem? (i := 17) (by decide +kernel), List.mem_of_getElem? (i := 336) (by decide +kernel), List.mem_of_getElem? (i := 337) (by decide +kernel)⟩
theorem lw_p12 : lw_okq (⟨"LabelRoads$Router", "takenBits", "()I"⟩, 3) := ⟨⟨by decide +kernel, by decide +kernel⟩, List.mem_of_getElem? (i := 73) (by decide +kernel), List.mem_of_getElem? (i := 344) (by decide +kernel), List.mem_of_getElem? (i := 345) (by decide +kernel)⟩
theorem lw_p13 : lw_okq (⟨"LabelRoads", "withdrawLabel", "(II)V"⟩, 6) := ⟨⟨by decide +kernel, by decide +kernel⟩, List.mem_of_getElem? (i := 17) (by decide +kernel), List.mem_of_getElem? (i := 353) (by decide +kernel), List.mem_of_getElem? (i := 354) (by decide +kernel)⟩
theorem lw_p14 : lw_okq (⟨"LabelRoads", "checkRouterOrNone", "(I)V"⟩, 6) := ⟨⟨by decide +kernel, by decide +kernel⟩, List.mem_of_getElem? (i := 17) (by decide +kernel), List.mem_of_getElem? (i := 371) (by decide +kernel), List.mem_of_getElem? (i := 372) (by decide +kernel)⟩
theorem lw_p15 : lw_okq (⟨"LabelRoads", "receive", "(I)V"⟩, 6) := ⟨⟨by decide +kernel, by decide +kernel⟩, List.mem_of_getElem? (i := 17) (by decide +kernel), List.mem_of_getElem? (i := 408) (by decide +kernel), List.mem_of_getElem? (i := 409) (by decide +kernel)⟩
def lw_privs_1 : List (MethodName × Nat) := [(⟨"LabelRoads", "checkTwoRouters", "(II)V"⟩, 6), (⟨"LabelRoads", "checkRouter", "(I)V"⟩, 6), (⟨"java/lang/Throwable", "fillInStackTrace", "(I)Ljava/lang/Throwable;"⟩, 6), (⟨"LabelRoads$Ways", "measure", "(I)V"⟩, 4), (⟨"LabelRoads$Ways", "lengthenWays", "([I)V"⟩, 4), (⟨"LabelRoads", "cutOff", "(II)V"⟩, 6), (⟨"LabelRoads", "tellLabels", "(II)V"⟩, 6), (⟨"LabelRoads", "settleAll", "()V"⟩, 6), (⟨"LabelRoads", "settlePrefixes", "(I)V"⟩, 6), (⟨"LabelRoads", "settle", "(II)V"⟩, 6), (⟨"LabelRoads", "isReady", "(II)Z"⟩, 6), (⟨"LabelRoads", "giveLabel", "(II)V"⟩, 6), (⟨"LabelRoads$Router", "takenBits", "()I"⟩, 3), (⟨"LabelRoads", "withdrawLabel", "(II)V"⟩, 6), (⟨"LabelRoads", "checkRouterOrNone", "(I)V"⟩, 6), (⟨"LabelRoads", "receive", "(I)V"⟩, 6)]
theorem lw_r1 : ∀ q ∈ lw_privs_1, lw_okq q := List.forall_mem_cons.mpr ⟨lw_p0, List.forall_mem_cons.mpr ⟨lw_p1, List.forall_mem_cons.mpr ⟨lw_p2, List.forall_mem_cons.mpr ⟨lw_p3, List.forall_mem_cons.mpr ⟨lw_p4, List.forall_mem_cons.mpr ⟨lw_p5, List.forall_mem_cons.mpr ⟨lw_p6, List.forall_mem_cons.mpr ⟨lw_p7, List.forall_mem_cons.mpr ⟨lw_p8, List.forall_mem_cons.mpr ⟨lw_p9, List.forall_mem_cons.mpr ⟨lw_p10, List.forall_mem_cons.mpr ⟨lw_p11, List.forall_mem_cons.mpr ⟨lw_p12, List.forall_mem_cons.mpr ⟨lw_p13, List.forall_mem_cons.mpr ⟨lw_p14, List.forall_mem_cons.mpr ⟨lw_p15, fun _ h => absurd h List.not_mem_nil⟩⟩⟩⟩⟩⟩⟩⟩⟩⟩⟩⟩⟩⟩⟩⟩
theorem lw_p16 : lw_okq (⟨"LabelRoads$Packet", "entryOf", "(IZ)I"⟩, 7) := ⟨⟨by decide +kernel, by decide +kernel⟩, List.mem_of_getElem? (i := 91) (by decide +kernel), List.mem_of_getElem? (i := 503) (by decide +kernel), List.mem_of_getElem? (i := 504) (by decide +kernel)⟩
theorem lw_p17 : lw_okq (⟨"LabelRoads$Packet", "note", "(II)V"⟩, 7) := ⟨⟨by decide +kernel, by decide +kernel⟩, List.mem_of_getElem? (i := 91) (by decide +kernel), List.mem_of_getElem? (i := 507) (by decide +kernel), List.mem_of_getElem? (i := 508) (by decide +kernel)⟩
theorem lw_p18 : lw_okq (⟨"LabelRoads", "passRouter", "()I"⟩, 6) := ⟨⟨by decide +kernel, by decide +kernel⟩, List.mem_of_getElem? (i := 17) (by decide +kernel), List.mem_of_getElem? (i := 511) (by decide +kernel), List.mem_of_getElem? (i := 512) (by decide +kernel)⟩
theorem lw_p19 : lw_okq (⟨"LabelRoads", "passUnlabelled", "(I)I"⟩, 6) := ⟨⟨by decide +kernel, by decide +kernel⟩, List.mem_of_getElem? (i := 17) (by decide +kernel), List.mem_of_getElem? (i := 523) (by decide +kernel), List.mem_of_getElem? (i := 524) (by decide +kernel)⟩
theorem lw_p20 : lw_okq (⟨"LabelRoads", "tryService", "(I)I"⟩, 6) := ⟨⟨by decide +kernel, by decide +kernel⟩, List.mem_of_getElem? (i := 17) (by decide +kernel), List.mem_of_getElem? (i := 532) (by decide +kernel), List.mem_of_getElem? (i := 533) (by decide +kernel)⟩
theorem lw_p21 : lw_okq (⟨"LabelRoads", "goOn", "(IIZ)I"⟩, 6) := ⟨⟨by decide +kernel, by decide +kernel⟩, List.mem_of_getElem? (i := 17) (by decide +kernel), List.mem_of_getElem? (i := 540) (by decide +kernel), List.mem_of_getElem? (i := 541) (by decide +kernel)⟩
theorem lw_p22 : lw_okq (⟨"LabelRoads", "checkHop", "(I)V"⟩, 6) := ⟨⟨by decide +kernel, by decide +kernel⟩, List.mem_of_getElem? (i := 17) (by decide +kernel), List.mem_of_getElem? (i := 568) (by decide +kernel), List.mem_of_getElem? (i := 569) (by decide +kernel)⟩
theorem lw_p23 : lw_okq (⟨"LabelRoadsModel", "isPair", "(II)Z"⟩, 24) := ⟨⟨by decide +kernel, by decide +kernel⟩, List.mem_of_getElem? (i := 603) (by decide +kernel), List.mem_of_getElem? (i := 691) (by decide +kernel), List.mem_of_getElem? (i := 692) (by decide +kernel)⟩
theorem lw_p24 : lw_okq (⟨"LabelRoadsModel", "isRouter", "(I)Z"⟩, 24) := ⟨⟨by decide +kernel, by decide +kernel⟩, List.mem_of_getElem? (i := 603) (by decide +kernel), List.mem_of_getElem? (i := 695) (by decide +kernel), List.mem_of_getElem? (i := 696) (by decide +kernel)⟩
theorem lw_p25 : lw_okq (⟨"LabelRoadsModel", "good", "(Z)Z"⟩, 24) := ⟨⟨by decide +kernel, by decide +kernel⟩, List.mem_of_getElem? (i := 603) (by decide +kernel), List.mem_of_getElem? (i := 702) (by decide +kernel), List.mem_of_getElem? (i := 703) (by decide +kernel)⟩
theorem lw_p26 : lw_okq (⟨"LabelRoadsModel", "come", "(I)I"⟩, 24) := ⟨⟨by decide +kernel, by decide +kernel⟩, List.mem_of_getElem? (i := 603) (by decide +kernel), List.mem_of_getElem? (i := 706) (by decide +kernel), List.mem_of_getElem? (i := 707) (by decide +kernel)⟩
theorem lw_p27 : lw_okq (⟨"LabelRoadsModel", "dropMessage", "(I)V"⟩, 24) := ⟨⟨by decide +kernel, by decide +kernel⟩, List.mem_of_getElem? (i := 603) (by decide +kernel), List.mem_of_getElem? (i := 710) (by decide +kernel), List.mem_of_getElem? (i := 711) (by decide +kernel)⟩
theorem lw_p28 : lw_okq (⟨"LabelRoadsModel", "settleAll", "(I)V"⟩, 24) := ⟨⟨by decide +kernel, by decide +kernel⟩, List.mem_of_getElem? (i := 603) (by decide +kernel), List.mem_of_getElem? (i := 714) (by decide +kernel), List.mem_of_getElem? (i := 715) (by decide +kernel)⟩
theorem lw_p29 : lw_okq (⟨"LabelRoadsModel", "settle", "(II)V"⟩, 24) := ⟨⟨by decide +kernel, by decide +kernel⟩, List.mem_of_getElem? (i := 603) (by decide +kernel), List.mem_of_getElem? (i := 718) (by decide +kernel), List.mem_of_getElem? (i := 719) (by decide +kernel)⟩
theorem lw_p30 : lw_okq (⟨"LabelRoadsModel", "nextOf", "(II)I"⟩, 24) := ⟨⟨by decide +kernel, by decide +kernel⟩, List.mem_of_getElem? (i := 603) (by decide +kernel), List.mem_of_getElem? (i := 722) (by decide +kernel), List.mem_of_getElem? (i := 723) (by decide +kernel)⟩
theorem lw_p31 : lw_okq (⟨"LabelRoadsModel", "measure", "(I)V"⟩, 24) := ⟨⟨by decide +kernel, by decide +kernel⟩, List.mem_of_getElem? (i := 603) (by decide +kernel), List.mem_of_getElem? (i := 726) (by decide +kernel), List.mem_of_getElem? (i := 727) (by decide +kernel)⟩
def lw_privs_2 : List (MethodName × Nat) := [(⟨"LabelRoads$Packet", "entryOf", "(IZ)I"⟩, 7), (⟨"LabelRoads$Packet", "note", "(II)V"⟩, 7), (⟨"LabelRoads", "passRouter", "()I"⟩, 6), (⟨"LabelRoads", "passUnlabelled", "(I)I"⟩, 6), (⟨"LabelRoads", "tryService", "(I)I"⟩, 6), (⟨"LabelRoads", "goOn", "(IIZ)I"⟩, 6), (⟨"LabelRoads", "checkHop", "(I)V"⟩, 6), (⟨"LabelRoadsModel", "isPair", "(II)Z"⟩, 24), (⟨"LabelRoadsModel", "isRouter", "(I)Z"⟩, 24), (⟨"LabelRoadsModel", "good", "(Z)Z"⟩, 24), (⟨"LabelRoadsModel", "come", "(I)I"⟩, 24), (⟨"LabelRoadsModel", "dropMessage", "(I)V"⟩, 24), (⟨"LabelRoadsModel", "settleAll", "(I)V"⟩, 24), (⟨"LabelRoadsModel", "settle", "(II)V"⟩, 24), (⟨"LabelRoadsModel", "nextOf", "(II)I"⟩, 24), (⟨"LabelRoadsModel", "measure", "(I)V"⟩, 24)]
theorem lw_r2 : ∀ q ∈ lw_privs_2, lw_okq q := List.forall_mem_cons.mpr ⟨lw_p16, List.forall_mem_cons.mpr ⟨lw_p17, List.forall_mem_cons.mpr ⟨lw_p18, List.forall_mem_cons.mpr ⟨lw_p19, List.forall_mem_cons.mpr ⟨lw_p20, List.forall_mem_cons.mpr ⟨lw_p21, List.forall_mem_cons.mpr ⟨lw_p22, List.forall_mem_cons.mpr ⟨lw_p23, List.forall_mem_cons.mpr ⟨lw_p24, List.forall_mem_cons.mpr ⟨lw_p25, List.forall_mem_cons.mpr ⟨lw_p26, List.forall_mem_cons.mpr ⟨lw_p27, List.forall_mem_cons.mpr ⟨lw_p28, List.forall_mem_cons.mpr ⟨lw_p29, List.forall_mem_cons.mpr ⟨lw_p30, List.forall_mem_cons.mpr ⟨lw_p31, fun _ h => absurd h List.not_mem_nil⟩⟩⟩⟩⟩⟩⟩⟩⟩⟩⟩⟩⟩⟩⟩⟩
theorem lw_p32 : lw_okq (⟨"LabelRoadsModel", "take", "(II)V"⟩, 24) := ⟨⟨by decide +kernel, by decide +kernel⟩, List.mem_of_getElem? (i := 603) (by decide +kernel), List.mem_of_getElem? (i := 730) (by decide +kernel), List.mem_of_getElem? (i := 731) (by decide +kernel)⟩
theorem lw_p33 : lw_okq (⟨"LabelRoadsModel", "isTaken", "(II)Z"⟩, 24) := ⟨⟨by decide +kernel, by decide +kernel⟩, List.mem_of_getElem? (i := 603) (by decide +kernel), List.mem_of_getElem? (i := 734) (by decide +kernel), List.mem_of_getElem? (i := 735) (by decide +kernel)⟩
theorem lw_p34 : lw_okq (⟨"LabelRoadsModel", "post", "(IIIII)V"⟩, 24) := ⟨⟨by decide +kernel, by decide +kernel⟩, List.mem_of_getElem? (i := 603) (by decide +kernel), List.mem_of_getElem? (i := 738) (by decide +kernel), List.mem_of_getElem? (i := 739) (by decide +kernel)⟩
theorem lw_p35 : lw_okq (⟨"LabelRoadsModel", "withdraw", "(II)V"⟩, 24) := ⟨⟨by decide +kernel, by decide +kernel⟩, List.mem_of_getElem? (i := 603) (by decide +kernel), List.mem_of_getElem? (i := 742) (by decide +kernel), List.mem_of_getElem? (i := 743) (by decide +kernel)⟩
theorem lw_p36 : lw_okq (⟨"LabelRoadsModel", "forget", "(II)V"⟩, 24) := ⟨⟨by decide +kernel, by decide +kernel⟩, List.mem_of_getElem? (i := 603) (by decide +kernel), List.mem_of_getElem? (i := 762) (by decide +kernel), List.mem_of_getElem? (i := 763) (by decide +kernel)⟩
theorem lw_p37 : lw_okq (⟨"LabelRoadsModel", "tellLabels", "(II)V"⟩, 24) := ⟨⟨by decide +kernel, by decide +kernel⟩, List.mem_of_getElem? (i := 603) (by decide +kernel), List.mem_of_getElem? (i := 766) (by decide +kernel), List.mem_of_getElem? (i := 767) (by decide +kernel)⟩
theorem lw_p38 : lw_okq (⟨"LabelRoadsModel", "changed", "()V"⟩, 24) := ⟨⟨by decide +kernel, by decide +kernel⟩, List.mem_of_getElem? (i := 603) (by decide +kernel), List.mem_of_getElem? (i := 770) (by decide +kernel), List.mem_of_getElem? (i := 771) (by decide +kernel)⟩
theorem lw_p39 : lw_okq (⟨"LabelRoadsModel", "takenOf", "(I)I"⟩, 24) := ⟨⟨by decide +kernel, by decide +kernel⟩, List.mem_of_getElem? (i := 603) (by decide +kernel), List.mem_of_getElem? (i := 802) (by decide +kernel), List.mem_of_getElem? (i := 803) (by decide +kernel)⟩
theorem lw_p40 : lw_okq (⟨"LabelRoadsModel", "arrive", "(I)V"⟩, 24) := ⟨⟨by decide +kernel, by decide +kernel⟩, List.mem_of_getElem? (i := 603) (by decide +kernel), List.mem_of_getElem? (i := 810) (by decide +kernel), List.mem_of_getElem? (i := 811) (by decide +kernel)⟩
theorem lw_p41 : lw_okq (⟨"LabelRoadsModel", "at", "(IZ)I"⟩, 24) := ⟨⟨by decide +kernel, by decide +kernel⟩, List.mem_of_getElem? (i := 603) (by decide +kernel), List.mem_of_getElem? (i := 814) (by decide +kernel), List.mem_of_getElem? (i := 815) (by decide +kernel)⟩
theorem lw_p42 : lw_okq (⟨"LabelRoadsModel", "prefixAt", "(II)I"⟩, 24) := ⟨⟨by decide +kernel, by decide +kernel⟩, List.mem_of_getElem? (i := 603) (by decide +kernel), List.mem_of_getElem? (i := 818) (by decide +kernel), List.mem_of_getElem? (i := 819) (by decide +kernel)⟩
theorem lw_p43 : lw_okq (⟨"LabelRoadsModel", "looked", "(I)I"⟩, 24) := ⟨⟨by decide +kernel, by decide +kernel⟩, List.mem_of_getElem? (i := 603) (by decide +kernel), List.mem_of_getElem? (i := 822) (by decide +kernel), List.mem_of_getElem? (i := 823) (by decide +kernel)⟩
def lw_privs_3 : List (MethodName × Nat) := [(⟨"LabelRoadsModel", "take", "(II)V"⟩, 24), (⟨"LabelRoadsModel", "isTaken", "(II)Z"⟩, 24), (⟨"LabelRoadsModel", "post", "(IIIII)V"⟩, 24), (⟨"LabelRoadsModel", "withdraw", "(II)V"⟩, 24), (⟨"LabelRoadsModel", "forget", "(II)V"⟩, 24), (⟨"LabelRoadsModel", "tellLabels", "(II)V"⟩, 24), (⟨"LabelRoadsModel", "changed", "()V"⟩, 24), (⟨"LabelRoadsModel", "takenOf", "(I)I"⟩, 24), (⟨"LabelRoadsModel", "arrive", "(I)V"⟩, 24), (⟨"LabelRoadsModel", "at", "(IZ)I"⟩, 24), (⟨"LabelRoadsModel", "prefixAt", "(II)I"⟩, 24), (⟨"LabelRoadsModel", "looked", "(I)I"⟩, 24)]
theorem lw_r3 : ∀ q ∈ lw_privs_3, lw_okq q := List.forall_mem_cons.mpr ⟨lw_p32, List.forall_mem_cons.mpr ⟨lw_p33, List.forall_mem_cons.mpr ⟨lw_p34, List.forall_mem_cons.mpr ⟨lw_p35, List.forall_mem_cons.mpr ⟨lw_p36, List.forall_mem_cons.mpr ⟨lw_p37, List.forall_mem_cons.mpr ⟨lw_p38, List.forall_mem_cons.mpr ⟨lw_p39, List.forall_mem_cons.mpr ⟨lw_p40, List.forall_mem_cons.mpr ⟨lw_p41, List.forall_mem_cons.mpr ⟨lw_p42, List.forall_mem_cons.mpr ⟨lw_p43, fun _ h => absurd h List.not_mem_nil⟩⟩⟩⟩⟩⟩⟩⟩⟩⟩⟩⟩
def lw_privs : List (MethodName × Nat) := lw_privs_1 ++ (lw_privs_2 ++ (lw_privs_3))
def lw_tbl : List Cond := k2_sels lw_privs ++ tables_1
theorem lw_privs_ok : ∀ q ∈ lw_privs, lw_okq q := by
  show ∀ q ∈ lw_privs_1 ++ (lw_privs_2 ++ (lw_privs_3)), lw_okq q
  exact List.forall_mem_append.mpr ⟨lw_r1, List.forall_mem_append.mpr ⟨lw_r2, lw_r3⟩⟩
end
section
/-! worlds over logical places, and contracts in two forms: a method that only reads, a method that writes its world -/
def ix (i : Int32) (n : Nat) : Option Nat := if i < 0 ∨ n ≤ i.toNatClampNeg then none else some i.toNatClampNeg
theorem ix_in {i : Int32} {n j : Nat} (h : ix i n = some j) : vp_in i n ∧ i.toNatClampNeg = j := by
  unfold ix at h
  split at h
  · cases h
  · rename_i h0
    exact ⟨h0, Option.some.inj h⟩
theorem ix_lt {i : Int32} {n j : Nat} (h : ix i n = some j) : j < n := by
  obtain ⟨h1, rfl⟩ := ix_in h
  exact Nat.not_le.mp fun q => h1 (Or.inr q)
theorem ix_nI {n j : Nat} (h : j < n) (hn : n < 2 ^ 31) : ix (nI j) n = some j := by
  unfold ix
  rw [if_neg (nI_in h hn), nI_clamp (Nat.lt_trans h hn)]
def wl (K : Nat) (ad : Nat → Nat) (en : Nat → va_E) : va_W := (List.range K).map (fun k => (ad k, en k))
theorem wl_len {K : Nat} {ad : Nat → Nat} {en : Nat → va_E} : (wl K ad en).length = K := by simp [wl]
theorem wl_at {K k : Nat} {ad : Nat → Nat} {en : Nat → va_E} (h : k < K) : (wl K ad en)[k]? = some (ad k, en k) := by
  simp [wl, h]
theorem wl_to {K k : Nat} {ad : Nat → Nat} {en : Nat → va_E} {x : va_E} (h : k < K) (hx : en k = x) : (wl K ad en)[k]? = some (ad k, x) := by
  rw [wl_at h, hx]
theorem wl_get {K k : Nat} {ad : Nat → Nat} {en : Nat → va_E} {q : Nat × va_E} (h : (wl K ad en)[k]? = some q) : k < K ∧ q = (ad k, en k) := by
  have hk : k < K := by
    have h1 := (List.getElem?_eq_some_iff.mp h).1
    rwa [wl_len] at h1
  rw [wl_at hk] at h
  exact ⟨hk, (Option.some.inj h).symm⟩
theorem wl_set {K k : Nat} {ad : Nat → Nat} {en en' : Nat → va_E} {x : va_E} (h : k < K) (he : en' k = x) (ho : ∀ j, j < K → j ≠ k → en' j = en j) : (wl K ad en).set k (ad k, x) = wl K ad en' := by
  apply List.ext_getElem?
  intro j
  by_cases hj : j < K
  · by_cases hjk : j = k
    · subst hjk
      rw [List.getElem?_set_self (by rw [wl_len]; exact hj), wl_at hj, he]
    · rw [List.getElem?_set_ne (Ne.symm hjk), wl_at hj, wl_at hj, ho j hj hjk]
  · rw [List.getElem?_eq_none (by rw [List.length_set, wl_len]; omega), List.getElem?_eq_none (by rw [wl_len]; omega)]
def wl_ok (A : Nat → Prop) (K : Nat) (ad : Nat → Nat) : Prop := (∀ i j, i < K → j < K → ad i = ad j → i = j) ∧ ∀ k, k < K → A (ad k)
theorem wl_D {A : Nat → Prop} {K : Nat} {ad : Nat → Nat} {en : Nat → va_E} (h : wl_ok A K ad) : va_D A (wl K ad en) := by
  refine ⟨fun i j p q hi hj e => ?_, fun k q hk => ?_⟩
  · obtain ⟨hi9, rfl⟩ := wl_get hi
    obtain ⟨hj9, rfl⟩ := wl_get hj
    exact h.1 i j hi9 hj9 e
  · obtain ⟨hk9, rfl⟩ := wl_get hk
    exact h.2 k hk9
def wl_A (K : Nat) (ad : Nat → Nat) : Nat → Prop := fun q => ∃ k, k < K ∧ ad k = q
theorem wl_own {A : Nat → Prop} {K : Nat} {ad : Nat → Nat} (h : wl_ok A K ad) : wl_ok (wl_A K ad) K ad := ⟨h.1, fun k hk => ⟨k, hk, rfl⟩⟩
/-- a state that holds a world -/
def wl_B (D : va_G) (cl : List vw_C) (tys : List (ClassId × FieldType)) (K : Nat) (ad : Nat → Nat) (en : Nat → va_E) (U : State) : Prop :=
  va_P D cl (wl K ad en) U.heap ∧ va_K D cl tys U ∧ wl_ok (fun _ => True) K ad
def rd_Q (v : Option Value) : Array Value → State → Outcome → State → Prop := fun _ st o t => o = .returned v ∧ t.heap = st.heap
def wr_Q (v : Option Value) (D : va_G) (cl : List vw_C) (K : Nat) (ad : Nat → Nat) (en : Nat → va_E) : Array Value → State → Outcome → State → Prop := fun _ st o t =>
  o = .returned v ∧ va_P D cl (wl K ad en) t.heap ∧ va_F (wl_A K ad) st t
theorem wl_blind {D : va_G} {cl : List vw_C} {tys : List (ClassId × FieldType)} {K : Nat} {ad : Nat → Nat} {en : Nat → va_E} {av : List Value} : FrameBlind (va_Pc av (wl_B D cl tys K ad en)) := by
  intro a U g mk h
  obtain ⟨h0, h1, h2, h3⟩ := h
  exact ⟨h0, h1, va_K.moved (u := U) (U := U.calling g mk a) (Vm.Alike.refl U.vm) h2, h3⟩
theorem wl_pre {s : State} {H : Heap} {D : va_G} {cl : List vw_C} {tys : List (ClassId × FieldType)} {K : Nat} {ad : Nat → Nat} {en : Nat → va_E} {A : Nat → Prop} (hP : va_P D cl (wl K ad en) H) (hK : va_K D cl tys s) (hA : wl_ok A K ad) (U : State) (hU : U.heap = H) (hW : s.WarmedH U.vm) : wl_B D cl tys K ad en U :=
  ⟨by rw [hU]; exact hP, va_K.moved hW.alike hK, hA.1, fun _ _ => trivial⟩
section KB
variable {p : Program} {l : Launch} {e : Env} {R : Room} {s : State} {m : MethodId} {args : Array Value} {below : List Frame} {meth : Method} {c : Code} {H : Heap} {locs : List Loc} {cells slots : Nat} {Q : State → Prop}
variable {cc : ByteArray} {pc : Nat} {ls : Array Slot} {rest st0 : List Value} {D : va_G} {cl : List vw_C} {A : Nat → Prop} {tys : List (ClassId × FieldType)} {H0 : Heap} {K : Nat} {ad : Nat → Nat} {en : Nat → va_E} {a : Array Value}
/-- behind a call that only read -/
theorem k_rd {v : Option Value} (hr : va_Run p l e R s m args below meth c H locs cells slots 0 0 (F0 m pc ls st0) rest (rd_Q v a) (fun _ => False)) (kk : W p l e R s m args below meth c H locs cells slots Q (F0 m (pc + 3) ls (v.toList ++ rest))) : W p l e R s m args below meth c H locs cells slots Q (F0 m pc ls st0) := by
  intro T hT X
  obtain ⟨v', st₀, t, T', L, h0, X', hL, e1, e2, ⟨hv, hh⟩, st⟩ := hr T hT X
  cases hv
  obtain ⟨t2, a1, b1⟩ := kk T' (by rw [e1, hh, h0]) (Stand.forget X' (fun q h => (hL q h).elim))
  exact ⟨t2, st t2 a1, b1⟩
/-- behind a call that wrote its world -/
theorem k_wr {v : Option Value} (hr : va_Run p l e R s m args below meth c H locs cells slots 0 0 (F0 m pc ls st0) rest (wr_Q v D cl K ad en a) (wl_A K ad)) (hS : va_S A H0 H locs) (hA : ∀ q, wl_A K ad q → A q)
    (kk : ∀ (H1 : Heap) (locs1 : List Loc), va_P D cl (wl K ad en) H1 → H.size ≤ H1.size → (∀ q : Nat, q < H.size → ¬ wl_A K ad q → H1[q]? = H[q]?) → va_S A H0 H1 locs1 → W p l e R s m args below meth c H1 locs1 cells slots Q (F0 m (pc + 3) ls (v.toList ++ rest))) : W p l e R s m args below meth c H locs cells slots Q (F0 m pc ls st0) := by
  intro T hT X
  obtain ⟨v', st₀, t, T', L, h0, X', hL, e1, e2, ⟨hv, hp, hz, hk⟩, st⟩ := hr T hT X
  cases hv
  rw [h0] at hz hk
  obtain ⟨t2, a1, b1⟩ := kk T'.heap (locs ++ L) (by rw [e1]; exact hp) (by rw [e1]; exact hz) (fun q h1 h2 => by rw [e1]; exact hk q h1 h2)
    ⟨Nat.le_trans hS.1 (by rw [e1]; exact hz), fun q h1 h2 => by rw [e1, hk q (Nat.lt_of_lt_of_le h1 hS.1) (fun z => h2 (hA q z))]; exact hS.2.1 q h1 h2, fun q hq => by
      rcases List.mem_append.mp hq with h | h
      · exact hS.2.2 q h
      · exact hA _ (hL q h)⟩ T' rfl X'
  exact ⟨t2, st t2 a1, b1⟩
theorem r_iret {v : Int32} (hx : p.tables.exec = Jvm.exec) (hb : c.code = cc) (hr : meth.sig.returnType = some .int) (hlk : meth.locks = false) (hdg : decode cc pc = .ok (.ireturn, 1)) : W p l e R s m args below meth c s.heap [] 0 0 (MQ below (rd_Q (some (.int v))) args s 0 0 (fun _ => False)) (F0 m pc ls [.int v]) :=
  W.iret hx hb hr (fun t ht hW => ⟨rfl, ht⟩) (fun q h => by cases h) hdg hlk
theorem r_zret {v : Int32} (hx : p.tables.exec = Jvm.exec) (hb : c.code = cc) (hr : meth.sig.returnType = some .boolean) (hlk : meth.locks = false) (hn : narrow .boolean (.int v) = .int v) (hdg : decode cc pc = .ok (.ireturn, 1)) : W p l e R s m args below meth c s.heap [] 0 0 (MQ below (rd_Q (some (.int v))) args s 0 0 (fun _ => False)) (F0 m pc ls [.int v]) :=
  W.zret hx hb hr hn (fun t ht hW => ⟨rfl, ht⟩) (fun q h => by cases h) hdg hlk
theorem r_vret (hx : p.tables.exec = Jvm.exec) (hb : c.code = cc) (hr : meth.sig.returnType = none) (hlk : meth.locks = false) (hdg : decode cc pc = .ok (.return_, 1)) : W p l e R s m args below meth c s.heap [] 0 0 (MQ below (rd_Q none) args s 0 0 (fun _ => False)) (F0 m pc ls []) :=
  W.vret hx hb hr (fun t ht hW => ⟨rfl, ht⟩) (fun q h => by cases h) hdg hlk
theorem w_iret {v : Int32} (hx : p.tables.exec = Jvm.exec) (hb : c.code = cc) (hr : meth.sig.returnType = some .int) (hlk : meth.locks = false) (hP : va_P D cl (wl K ad en) H) (hS : va_S (wl_A K ad) s.heap H locs) (hdg : decode cc pc = .ok (.ireturn, 1)) : W p l e R s m args below meth c H locs 0 0 (MQ below (wr_Q (some (.int v)) D cl K ad en) args s 0 0 (wl_A K ad)) (F0 m pc ls [.int v]) :=
  W.iret hx hb hr (fun t ht hW => ⟨rfl, by rw [ht]; exact hP, hS.F ht⟩) hS.2.2 hdg hlk
theorem w_zret {v : Int32} (hx : p.tables.exec = Jvm.exec) (hb : c.code = cc) (hr : meth.sig.returnType = some .boolean) (hlk : meth.locks = false) (hn : narrow .boolean (.int v) = .int v) (hP : va_P D cl (wl K ad en) H) (hS : va_S (wl_A K ad) s.heap H locs) (hdg : decode cc pc = .ok (.ireturn, 1)) : W p l e R s m args below meth c H locs 0 0 (MQ below (wr_Q (some (.int v)) D cl K ad en) args s 0 0 (wl_A K ad)) (F0 m pc ls [.int v]) :=
  W.zret hx hb hr hn (fun t ht hW => ⟨rfl, by rw [ht]; exact hP, hS.F ht⟩) hS.2.2 hdg hlk
theorem w_vret (hx : p.tables.exec = Jvm.exec) (hb : c.code = cc) (hr : meth.sig.returnType = none) (hlk : meth.locks = false) (hP : va_P D cl (wl K ad en) H) (hS : va_S (wl_A K ad) s.heap H locs) (hdg : decode cc pc = .ok (.return_, 1)) : W p l e R s m args below meth c H locs 0 0 (MQ below (wr_Q none D cl K ad en) args s 0 0 (wl_A K ad)) (F0 m pc ls []) :=
  W.vret hx hb hr (fun t ht hW => ⟨rfl, by rw [ht]; exact hP, hS.F ht⟩) hS.2.2 hdg hlk
/-- an int out of an array -/
theorem k_iald (hx : p.tables.exec = Jvm.exec) (hb : c.code = cc) (hK : va_K D cl tys s) (hP : va_P D cl (wl K ad en) H) (q0 t0 : Nat) (hq : q0 < K) {cA : ClassId} {n : Nat} {f : Nat → Int32} (he : en q0 = .inl (cA, n, .inl f)) (ht : tys[t0]? = some (cA, .int)) {i : Int32} {j : Nat} (hi : ix i n = some j) (hdg : decode cc pc = .ok (.iaload, 1))
    (kk : W p l e R s m args below meth c H locs cells slots Q (F0 m (pc + 1) ls (.int (f j) :: rest))) : W p l e R s m args below meth c H locs cells slots Q (F0 m pc ls (.int i :: .ref (ad q0) :: rest)) := by
  obtain ⟨h1, rfl⟩ := ix_in hi
  exact va_iald hx hb hK hP q0 t0 (wl_to hq he) ht h1 hdg kk
theorem k_zald (hx : p.tables.exec = Jvm.exec) (hb : c.code = cc) (hK : va_K D cl tys s) (hP : va_P D cl (wl K ad en) H) (q0 t0 : Nat) (hq : q0 < K) {cA : ClassId} {n : Nat} {f : Nat → Int32} (he : en q0 = .inl (cA, n, .inl f)) (ht : tys[t0]? = some (cA, .boolean)) {i : Int32} {j : Nat} (hi : ix i n = some j) (hdg : decode cc pc = .ok (.baload, 1))
    (kk : W p l e R s m args below meth c H locs cells slots Q (F0 m (pc + 1) ls (.int (f j) :: rest))) : W p l e R s m args below meth c H locs cells slots Q (F0 m pc ls (.int i :: .ref (ad q0) :: rest)) := by
  obtain ⟨h1, rfl⟩ := ix_in hi
  exact va_zald hx hb hK hP q0 t0 (wl_to hq he) ht h1 hdg kk
/-- an object out of an array of objects -/
theorem k_aald (hx : p.tables.exec = Jvm.exec) (hb : c.code = cc) (hK : va_K D cl tys s) (hP : va_P D cl (wl K ad en) H) (q0 t0 : Nat) (hq : q0 < K) {cA : ClassId} {C : String} {n : Nat} {f : Nat → Option Nat} (he : en q0 = .inl (cA, n, .inr (.inr (.inr (.inr f))))) (ht : tys[t0]? = some (cA, .object C)) {i : Int32} {j r : Nat} (hi : ix i n = some j) (hf : f j = some r) (hdg : decode cc pc = .ok (.aaload, 1))
    (kk : W p l e R s m args below meth c H locs cells slots Q (F0 m (pc + 1) ls (.ref r :: rest))) : W p l e R s m args below meth c H locs cells slots Q (F0 m pc ls (.int i :: .ref (ad q0) :: rest)) := by
  obtain ⟨h1, rfl⟩ := ix_in hi
  refine va_aldq hx hb hK hP q0 t0 (wl_to hq he) ht h1 hdg ?_
  rw [hf]
  exact kk
/-- a row out of an array of arrays of ints -/
theorem k_rald (hx : p.tables.exec = Jvm.exec) (hb : c.code = cc) (hK : va_K D cl tys s) (hP : va_P D cl (wl K ad en) H) (q0 t0 : Nat) (hq : q0 < K) {cA : ClassId} {n : Nat} {f : Nat → Option Nat} (he : en q0 = .inl (cA, n, .inr (.inr (.inr (.inr f))))) (ht : tys[t0]? = some (cA, .array .int)) {i : Int32} {j r : Nat} (hi : ix i n = some j) (hf : f j = some r) (hdg : decode cc pc = .ok (.aaload, 1))
    (kk : W p l e R s m args below meth c H locs cells slots Q (F0 m (pc + 1) ls (.ref r :: rest))) : W p l e R s m args below meth c H locs cells slots Q (F0 m pc ls (.int i :: .ref (ad q0) :: rest)) := by
  obtain ⟨h1, rfl⟩ := ix_in hi
  have hlt : i.toNatClampNeg < n := Nat.not_le.mp fun q => h1 (Or.inr q)
  refine W.aald (v := va_rf (f i.toNatClampNeg)) (ty := .array .int) hx hb (hP q0 _ (wl_to hq he)) ((hK.2 t0 _ ht).1 n (fun j => va_rf (f j))) rfl (fun q => by cases q) (by show ¬ (i < 0 ∨ (arrV _ _ _).slots.size ≤ _); rw [arrV_size]; exact h1) (by show (arrV _ _ _).slots[_]? = _; rw [arrV_read _ _ hlt]) rfl rfl hdg ?_
  rw [hf]
  exact kk
/-- an int into an array -/
theorem k_iast (hx : p.tables.exec = Jvm.exec) (hb : c.code = cc) (hK : va_K D cl tys s) (hP : va_P D cl (wl K ad en) H) (hA : wl_ok A K ad) (hS : va_S A H0 H locs) (q0 t0 : Nat) (hq : q0 < K) {cA : ClassId} {n : Nat} {f : Nat → Int32} (he : en q0 = .inl (cA, n, .inl f)) (ht : tys[t0]? = some (cA, .int)) {i x : Int32} {j : Nat} (hi : ix i n = some j) (en' : Nat → va_E) (he' : en' q0 = .inl (cA, n, .inl (upd f j x))) (ho : ∀ k, k < K → k ≠ q0 → en' k = en k) (hdg : decode cc pc = .ok (.iastore, 1))
    (kk : ∀ (H1 : Heap) (locs1 : List Loc), va_P D cl (wl K ad en') H1 → va_S A H0 H1 locs1 → W p l e R s m args below meth c H1 locs1 cells slots Q (F0 m (pc + 1) ls rest)) : W p l e R s m args below meth c H locs cells slots Q (F0 m pc ls (.int x :: .int i :: .ref (ad q0) :: rest)) := by
  obtain ⟨h1, rfl⟩ := ix_in hi
  refine va_iast hx hb hK hP (wl_D hA) hS q0 t0 (wl_to hq he) ht h1 hdg (fun H1 locs1 hP1 _ hS1 => kk H1 locs1 ?_ hS1)
  rwa [wl_set hq he' ho] at hP1
theorem k_zast (hx : p.tables.exec = Jvm.exec) (hb : c.code = cc) (hK : va_K D cl tys s) (hP : va_P D cl (wl K ad en) H) (hA : wl_ok A K ad) (hS : va_S A H0 H locs) (q0 t0 : Nat) (hq : q0 < K) {cA : ClassId} {n : Nat} {f : Nat → Int32} (he : en q0 = .inl (cA, n, .inl f)) (ht : tys[t0]? = some (cA, .boolean)) {i x : Int32} {j : Nat} (hi : ix i n = some j) (hn : vp_nar .boolean x = x) (en' : Nat → va_E) (he' : en' q0 = .inl (cA, n, .inl (upd f j x))) (ho : ∀ k, k < K → k ≠ q0 → en' k = en k) (hdg : decode cc pc = .ok (.bastore, 1))
    (kk : ∀ (H1 : Heap) (locs1 : List Loc), va_P D cl (wl K ad en') H1 → va_S A H0 H1 locs1 → W p l e R s m args below meth c H1 locs1 cells slots Q (F0 m (pc + 1) ls rest)) : W p l e R s m args below meth c H locs cells slots Q (F0 m pc ls (.int x :: .int i :: .ref (ad q0) :: rest)) := by
  obtain ⟨h1, rfl⟩ := ix_in hi
  refine va_zast hx hb hK hP (wl_D hA) hS q0 t0 (wl_to hq he) ht h1 hdg (fun H1 locs1 hP1 _ hS1 => kk H1 locs1 ?_ hS1)
  rw [hn] at hP1
  rwa [wl_set hq he' ho] at hP1
end KB
end
section
/-! the words of the tables that outlive every step; calls of methods that have contracts over them -/
def WS : List Cond := lw_tbl.filter goodWord
theorem ws_of {w : Cond} (h : w ∈ lw_tbl) (hg : goodWord w = true) : w ∈ WS := List.mem_filter.mpr ⟨h, hg⟩
theorem ws_t {w : Cond} (i : Nat) (h : tables_1[i]? = some w) (hg : goodWord w = true) : w ∈ WS := ws_of (List.mem_append_right _ (List.mem_of_getElem? h)) hg
theorem ws_p {q : MethodName × Nat} (i : Nat) (h : lw_privs[i]? = some q) : Cond.selects q.1.cls q.1 q.1 ∈ WS :=
  ws_of (List.mem_append_left _ (List.mem_map.mpr ⟨q, List.mem_of_getElem? h, rfl⟩)) rfl
theorem ws_good {ws : List Cond} (h : ∀ w ∈ ws, w ∈ WS) : GoodIn WS ws := fun w hw => ⟨h w hw, good_of_word (List.mem_filter.mp (h w hw)).2⟩
abbrev wc (y : MethodName) (b : ByteArray) (n : Nat) (r : Option FieldType) : List Cond := Cond.code y b n r :: WS
theorem wc_in {y : MethodName} {b : ByteArray} {n : Nat} {r : Option FieldType} (h : Cond.code y b n r ∈ WS) : ∀ w ∈ wc y b n r, w ∈ WS := by
  intro w hw
  rcases List.mem_cons.mp hw with rfl | hw
  · exact h
  · exact hw
theorem wv_good {own C : String} {idx : Nat} {y : MethodName} {b : ByteArray} {n : Nat} {r : Option FieldType} (h1 : Cond.methodLink own idx y ∈ WS) (h2 : Cond.instanceMethod y ∈ WS) (h3 : Cond.selects C y y ∈ WS) (h4 : Cond.initialized C ∈ WS) (h5 : Cond.code y b n r ∈ WS) : GoodIn WS (wsV own idx C y (wc y b n r)) := by
  refine ws_good fun w hw => ?_
  rcases List.mem_append.mp hw with hw | hw
  · simp only [List.mem_cons, List.not_mem_nil, or_false] at hw
    rcases hw with rfl | rfl | rfl | rfl <;> assumption
  · exact wc_in h5 w hw
theorem wt_good {own : String} {idx : Nat} {y : MethodName} {b : ByteArray} {n : Nat} {r : Option FieldType} (h1 : Cond.methodLink own idx y ∈ WS) (h2 : Cond.static y ∈ WS) (h4 : Cond.initialized y.cls ∈ WS) (h5 : Cond.code y b n r ∈ WS) : GoodIn WS (va_wsS own idx y (wc y b n r)) := by
  refine ws_good fun w hw => ?_
  rcases List.mem_append.mp hw with hw | hw
  · simp only [List.mem_cons, List.not_mem_nil, or_false] at hw
    rcases hw with rfl | rfl | rfl <;> assumption
  · exact wc_in h5 w hw
theorem ob {α β : Type} {o : Option α} {f : α → Option β} {b : β} (h : o.bind f = some b) : ∃ a, o = some a ∧ f a = some b := by
  cases o with
  | none => cases h
  | some a => exact ⟨a, rfl, h⟩
theorem zb {v : Int32} (h : v = 0 ∨ v = 1) : narrow .boolean (.int v) = .int v := by
  rcases h with rfl | rfl <;> decide +kernel
section KC
variable {p : Program} {l : Launch} {e : Env} {R : Room} {s : State} {m : MethodId} {args : Array Value} {below : List Frame} {meth : Method} {c : Code} {H : Heap} {locs : List Loc} {cells slots : Nat} {Q : State → Prop}
variable {cc : ByteArray} {pc : Nat} {ls : Array Slot} {rest st0 : List Value} {D : va_G} {cl : List vw_C} {A : Nat → Prop} {tys : List (ClassId × FieldType)} {H0 : Heap} {K : Nat} {ad : Nat → Nat} {en : Nat → va_E} {a : Array Value}
variable {y : MethodName} {bytes : ByteArray} {maxL n index nL : Nat} {ret : Option FieldType} {rm : Room} {B : State → Prop} {Qc : Array Value → State → Outcome → State → Prop} {free : Addr → Prop} {own C : String} {b : Nat} {As : List Value}
theorem k_rdi {v : Int32} (hr : va_Run p l e R s m args below meth c H locs cells slots 0 0 (F0 m pc ls st0) rest (rd_Q (some (.int v)) a) (fun _ => False)) (kk : W p l e R s m args below meth c H locs cells slots Q (F0 m (pc + 3) ls (.int v :: rest))) : W p l e R s m args below meth c H locs cells slots Q (F0 m pc ls st0) := k_rd hr kk
theorem k_rdv (hr : va_Run p l e R s m args below meth c H locs cells slots 0 0 (F0 m pc ls st0) rest (rd_Q none a) (fun _ => False)) (kk : W p l e R s m args below meth c H locs cells slots Q (F0 m (pc + 3) ls rest)) : W p l e R s m args below meth c H locs cells slots Q (F0 m pc ls st0) := k_rd hr kk
theorem k_wri {v : Int32} (hr : va_Run p l e R s m args below meth c H locs cells slots 0 0 (F0 m pc ls st0) rest (wr_Q (some (.int v)) D cl K ad en a) (wl_A K ad)) (hS : va_S A H0 H locs) (hA : ∀ q, wl_A K ad q → A q)
    (kk : ∀ (H1 : Heap) (locs1 : List Loc), va_P D cl (wl K ad en) H1 → H.size ≤ H1.size → (∀ q : Nat, q < H.size → ¬ wl_A K ad q → H1[q]? = H[q]?) → va_S A H0 H1 locs1 → W p l e R s m args below meth c H1 locs1 cells slots Q (F0 m (pc + 3) ls (.int v :: rest))) : W p l e R s m args below meth c H locs cells slots Q (F0 m pc ls st0) := k_wr hr hS hA kk
theorem k_wrv (hr : va_Run p l e R s m args below meth c H locs cells slots 0 0 (F0 m pc ls st0) rest (wr_Q none D cl K ad en a) (wl_A K ad)) (hS : va_S A H0 H locs) (hA : ∀ q, wl_A K ad q → A q)
    (kk : ∀ (H1 : Heap) (locs1 : List Loc), va_P D cl (wl K ad en) H1 → H.size ≤ H1.size → (∀ q : Nat, q < H.size → ¬ wl_A K ad q → H1[q]? = H[q]?) → va_S A H0 H1 locs1 → W p l e R s m args below meth c H1 locs1 cells slots Q (F0 m (pc + 3) ls rest)) : W p l e R s m args below meth c H locs cells slots Q (F0 m pc ls st0) := k_wr hr hS hA kk
theorem k_vir (S : CallFix p m c cc nL s args WS own) (hM : Met l y (wc y bytes maxL ret) rm (va_Pc (.ref b :: As) B) Qc 0 0 free) (hG : GoodIn WS (wsV own index C y (wc y bytes maxL ret)))
    (hd : y.cls = C ∧ y.cls ≠ "java/lang/invoke/MethodHandle" ∧ y.cls ≠ "java/lang/invoke/VarHandle" ∧ (parseMethodDescriptor y.desc).map (fun d => d.parameters.length) = some n) (hr0 : rm.cells = 0 ∧ rm.slots = 0) (hR : rm.frames + 1 ≤ R.frames ∧ 8 + (maxL + 11) + rm.locals ≤ R.locals)
    (hbl : FrameBlind (va_Pc (.ref b :: As) B)) (hrecv : ∃ cellB : Cell, H[b]? = some cellB ∧ cellB.vm.isStatics = false ∧ s.vm.findClass C = some cellB.cls) (hB : ∀ U : State, U.heap = H → s.WarmedH U.vm → B U)
    (hn : As.length = n) (hsz : ls.size = nL) (hst : st0 = As.reverse ++ .ref b :: rest) (hcat : (rest.map fun v => v.category).sum ≤ 8) (hdg : decode cc pc = .ok (.invokevirtual index, 3)) (hc : cells ≤ R.cells) (hs : slots ≤ R.slots) :
    va_Run p l e R s m args below meth c H locs cells slots 0 0 (F0 m pc ls st0) rest (Qc (Value.ref b :: As).toArray) free :=
  va_runV S hM (cwV n S.2.2.2.2 hG rfl hr0.1 hr0.2 hd hR) ⟨hbl, hrecv, fun U h1 h2 => ⟨rfl, hB U h1 h2⟩⟩ rfl hn hsz hst (lv_room hcat) hdg ⟨hc, hs⟩
theorem k_sta (S : CallFix p m c cc nL s args WS own) (hM : Met l y (wc y bytes maxL ret) rm (va_Pc As B) Qc 0 0 free) (hG : GoodIn WS (va_wsS own index y (wc y bytes maxL ret)))
    (hd : y.cls ≠ "java/lang/invoke/MethodHandle" ∧ y.cls ≠ "java/lang/invoke/VarHandle" ∧ (parseMethodDescriptor y.desc).map (fun d => d.parameters.length) = some n) (hr0 : rm.cells = 0 ∧ rm.slots = 0) (hR : rm.frames + 1 ≤ R.frames ∧ 8 + (maxL + 11) + rm.locals ≤ R.locals)
    (hbl : FrameBlind (va_Pc As B)) (hB : ∀ U : State, U.heap = H → s.WarmedH U.vm → B U)
    (hn : As.length = n) (hsz : ls.size = nL) (hst : st0 = As.reverse ++ rest) (hcat : (rest.map fun v => v.category).sum ≤ 8) (hdg : decode cc pc = .ok (.invokestatic index, 3)) (hc : cells ≤ R.cells) (hs : slots ≤ R.slots) :
    va_Run p l e R s m args below meth c H locs cells slots 0 0 (F0 m pc ls st0) rest (Qc As.toArray) free :=
  va_runS S hM (va_cwS n S.2.2.2.2 hG rfl hr0.1 hr0.2 hd hR) ⟨hbl, fun U h1 h2 => ⟨rfl, hB U h1 h2⟩⟩ rfl hn hsz hst (lv_room hcat) hdg ⟨hc, hs⟩
/-- a contract out of a walk -/
theorem k_met {av : List Value} {mc ms : Nat} (hy : plainName y.cls = true) (hav : (lg_sl av).length ≤ maxL)
    (body : ∀ (p : Program) (e : Env) (s : State) (m : MethodId) (args : Array Value) (below : List Frame) (meth : Method) (c : Code), CallFix p m c cc maxL s args WS y.cls → meth.sig.returnType = ret → meth.locks = false → B s → ∀ ls : Array Slot, lv_has ls maxL (lv_args 0 av) →
      W p l e rm s m args below meth c s.heap [] 0 0 (MQ below Qc args s mc ms free) (F0 m 0 ls [])) : Met l y (wc y cc maxL ret) rm (va_Pc av B) Qc mc ms free := by
  refine Met.ofW (cc := cc) (maxL := maxL) (ret := ret) hy rfl ?_
  intro p e s m args below meth c s₁ B0 hml hv
  obtain ⟨rfl, hB⟩ := hv
  have hts := atoms_spec (ws := wc y cc maxL ret) B0.pre
  have hl := lv_entry av (n := maxL) hav
  rw [lg_entry_eq]
  generalize (lg_sl av ++ List.replicate (maxL - (lg_sl av).length) Slot.unset).toArray = ls at hl ⊢
  exact body p e s m _ below meth c ⟨B0.exec, B0.bytes, hml, findClass_of_methodNamed B0.named, fun w hw => hts w (List.mem_cons_of_mem _ hw)⟩ B0.returns B0.notSynchronized hB ls hl
end KC
/-! memories: an object's ints and an array's elements, by a tag, two numbers and a place -/
abbrev Mem : Type := Nat → Nat → Nat → Nat → Int32
def ms (M : Mem) (t a b : Nat) (f : Nat → Int32) : Mem := fun t' a' b' => if t' = t ∧ a' = a ∧ b' = b then f else M t' a' b'
def mset (M : Mem) (t a b j : Nat) (x : Int32) : Mem := ms M t a b (upd (M t a b) j x)
theorem ms_same {M : Mem} {t a b : Nat} {f : Nat → Int32} : ms M t a b f t a b = f := if_pos ⟨rfl, rfl, rfl⟩
theorem ms_other {M : Mem} {t a b t' a' b' : Nat} {f : Nat → Int32} (h : ¬ (t' = t ∧ a' = a ∧ b' = b)) : ms M t a b f t' a' b' = M t' a' b' := if_neg h
def me (tg pa pb : Nat → Nat) (Rr : Nat → (Nat → Int32) → va_E) (M : Mem) (k : Nat) : va_E := Rr k (M (tg k) (pa k) (pb k))
def mj (K : Nat) (tg pa pb : Nat → Nat) : Prop := ∀ i j, i < K → j < K → tg i = tg j → pa i = pa j → pb i = pb j → i = j
theorem me_same {tg pa pb : Nat → Nat} {Rr : Nat → (Nat → Int32) → va_E} {M : Mem} {k t a b : Nat} {f : Nat → Int32} (h : tg k = t ∧ pa k = a ∧ pb k = b) : me tg pa pb Rr (ms M t a b f) k = Rr k f := by
  obtain ⟨rfl, rfl, rfl⟩ := h
  unfold me
  rw [ms_same]
theorem me_other {tg pa pb : Nat → Nat} {Rr : Nat → (Nat → Int32) → va_E} {M : Mem} {K k t a b : Nat} {f : Nat → Int32} (hJ : mj K tg pa pb) (hk : k < K) (h : tg k = t ∧ pa k = a ∧ pb k = b) : ∀ j, j < K → j ≠ k → me tg pa pb Rr (ms M t a b f) j = me tg pa pb Rr M j := by
  obtain ⟨rfl, rfl, rfl⟩ := h
  intro j hj hne
  unfold me
  rw [ms_other (fun q => hne (hJ j k hj hk q.1 q.2.1 q.2.2))]
theorem me_at {tg pa pb : Nat → Nat} {Rr : Nat → (Nat → Int32) → va_E} {M : Mem} {k t a b : Nat} {x : (Nat → Int32) → va_E} (h : tg k = t ∧ pa k = a ∧ pb k = b) (hx : ∀ f, Rr k f = x f) : me tg pa pb Rr M k = x (M t a b) := by
  obtain ⟨rfl, rfl, rfl⟩ := h
  exact hx _
section KM
variable {p : Program} {l : Launch} {e : Env} {R : Room} {s : State} {m : MethodId} {args : Array Value} {below : List Frame} {meth : Method} {c : Code} {H : Heap} {locs : List Loc} {cells slots : Nat} {Q : State → Prop}
variable {cc : ByteArray} {pc : Nat} {ls : Array Slot} {rest : List Value} {D : va_G} {cl : List vw_C} {A : Nat → Prop} {tys : List (ClassId × FieldType)} {H0 : Heap} {K : Nat} {ad : Nat → Nat} {tg pa pb : Nat → Nat} {Rr : Nat → (Nat → Int32) → va_E} {M : Mem} {t a b : Nat}
theorem m_iast {x : Int32} (hx : p.tables.exec = Jvm.exec) (hb : c.code = cc) (hK : va_K D cl tys s) (hP : va_P D cl (wl K ad (me tg pa pb Rr M)) H) (hA : wl_ok A K ad) (hS : va_S A H0 H locs) (hJ : mj K tg pa pb) (q0 t0 : Nat) (hq : q0 < K) (hT : tg q0 = t ∧ pa q0 = a ∧ pb q0 = b) {cA : ClassId} {n : Nat} (he : ∀ f, Rr q0 f = .inl (cA, n, .inl f)) (ht : tys[t0]? = some (cA, .int)) {i : Int32} {j : Nat} (hi : ix i n = some j) (hdg : decode cc pc = .ok (.iastore, 1))
    (kk : ∀ (H1 : Heap) (locs1 : List Loc), va_P D cl (wl K ad (me tg pa pb Rr (mset M t a b j x))) H1 → va_S A H0 H1 locs1 → W p l e R s m args below meth c H1 locs1 cells slots Q (F0 m (pc + 1) ls rest)) : W p l e R s m args below meth c H locs cells slots Q (F0 m pc ls (.int x :: .int i :: .ref (ad q0) :: rest)) :=
  k_iast hx hb hK hP hA hS q0 t0 hq (me_at hT he) ht hi _ ((me_same hT).trans (he _)) (me_other hJ hq hT) hdg kk
theorem m_zast {x : Int32} (hx : p.tables.exec = Jvm.exec) (hb : c.code = cc) (hK : va_K D cl tys s) (hP : va_P D cl (wl K ad (me tg pa pb Rr M)) H) (hA : wl_ok A K ad) (hS : va_S A H0 H locs) (hJ : mj K tg pa pb) (q0 t0 : Nat) (hq : q0 < K) (hT : tg q0 = t ∧ pa q0 = a ∧ pb q0 = b) {cA : ClassId} {n : Nat} (he : ∀ f, Rr q0 f = .inl (cA, n, .inl f)) (ht : tys[t0]? = some (cA, .boolean)) {i : Int32} {j : Nat} (hi : ix i n = some j) (hn : vp_nar .boolean x = x) (hdg : decode cc pc = .ok (.bastore, 1))
    (kk : ∀ (H1 : Heap) (locs1 : List Loc), va_P D cl (wl K ad (me tg pa pb Rr (mset M t a b j x))) H1 → va_S A H0 H1 locs1 → W p l e R s m args below meth c H1 locs1 cells slots Q (F0 m (pc + 1) ls rest)) : W p l e R s m args below meth c H locs cells slots Q (F0 m pc ls (.int x :: .int i :: .ref (ad q0) :: rest)) :=
  k_zast hx hb hK hP hA hS q0 t0 hq (me_at hT he) ht hi hn _ ((me_same hT).trans (he _)) (me_other hJ hq hT) hdg kk
/-- an int field of an object -/
theorem m_put {x : Int32} {own C : String} {T : u_T} {N ci index : Nat} (hx : p.tables.exec = Jvm.exec) (hb : c.code = cc) (hts : ∀ w ∈ WS, w.before args s = true) (hin : ∀ w ∈ u_ws C T N, w ∈ WS) (ty0 : Nat → FieldType) (hty : ∀ k, k < N → parseFieldDescriptor (T k).2.2.1 = some (ty0 k)) (hnm : ∀ a, a < N → ∀ b, b < N → a ≠ b → (T a).2.1 ≠ (T b).2.1) (hown : s.vm.findClass own = some m.cls) (hK : va_K D cl tys s) (hP : va_P D cl (wl K ad (me tg pa pb Rr M)) H) (hA : wl_ok A K ad) (hS : va_S A H0 H locs) (hJ : mj K tg pa pb) (q0 : Nat) (hq : q0 < K) (fs : (Nat → Int32) → List Value) (he : ∀ f, Rr q0 f = .inr (ci, fs f)) (hT : tg q0 = t ∧ pa q0 = a ∧ pb q0 = b) (hc : cl[ci]? = some (C, T, N)) (k : Nat) (hk : k < N) (hlink : (Cond.fieldLink own index (T k).1 (T k).2.1 (T k).2.2.1).before args s = true) (hfin : (T k).2.2.2 = false) (hd : parseFieldDescriptor (T k).2.2.1 = some .int) (hfs : ∀ f, k < (fs f).length ∧ (fs f).set k (.int x) = fs (upd f k x)) (hdg : decode cc pc = .ok (.putfield index, 3))
    (kk : ∀ (H1 : Heap) (locs1 : List Loc), va_P D cl (wl K ad (me tg pa pb Rr (mset M t a b k x))) H1 → va_S A H0 H1 locs1 → W p l e R s m args below meth c H1 locs1 cells slots Q (F0 m (pc + 3) ls rest)) : W p l e R s m args below meth c H locs cells slots Q (F0 m pc ls (.int x :: .ref (ad q0) :: rest)) := by
  refine va_put (ref := (T k).1) hx hb hts hin ty0 hty hnm hown hK hP (wl_D hA) hS q0 (wl_to hq (me_at hT he)) hc k hk hlink (fun _ h => h) hfin hd rfl rfl (hfs _).1 hdg (fun H1 locs1 hP1 _ hS1 => kk H1 locs1 ?_ hS1)
  rw [wl_set hq (en' := me tg pa pb Rr (mset M t a b k x)) (by rw [(hfs _).2]; exact (me_same hT).trans (he _)) (me_other hJ hq hT)] at hP1
  exact hP1
abbrev cpok (sp dp n : Int32) (N : Nat) : Prop := ¬ sp < 0 ∧ ¬ dp < 0 ∧ ¬ n < 0 ∧ sp.toNatClampNeg + n.toNatClampNeg ≤ N ∧ dp.toNatClampNeg + n.toNatClampNeg ≤ N
theorem m_copy (hx : p.tables.exec = Jvm.exec) (hb : c.code = cc) (hml : c.maxLocals = ls.size) {own : String} {index : Nat} (hown : s.vm.findClass own = some m.cls) (hlink : (Cond.methodLink own index arraycopyName).before args s = true) (hnat : (Cond.native arraycopyName).before args s = true) (hstat : (Cond.static arraycopyName).before args s = true) (hini : (Cond.initialized "java/lang/System").before args s = true)
    (hK : va_K D cl tys s) (hP : va_P D cl (wl K ad (me tg pa pb Rr M)) H) (hA : wl_ok A K ad) (hS : va_S A H0 H locs) (hJ : mj K tg pa pb) (q0 t0 : Nat) (hq : q0 < K) (hT : tg q0 = t ∧ pa q0 = a ∧ pb q0 = b) {cA : ClassId} {N : Nat} (he : ∀ f, Rr q0 f = .inl (cA, N, .inl f)) (ht : tys[t0]? = some (cA, .int)) {sp dp n : Int32} (hc : cpok sp dp n N)
    (hframes : 1 ≤ R.frames) (hlocals : (rest.map fun v => v.category).sum + (nativeFrameWords "java/lang/System" "arraycopy" 5 + 11) ≤ R.locals) (hdg : decode cc pc = .ok (.invokestatic index, 3))
    (kk : ∀ (H1 : Heap) (locs1 : List Loc), va_P D cl (wl K ad (me tg pa pb Rr (ms M t a b (va_cpy (M t a b) (M t a b) sp.toNatClampNeg dp.toNatClampNeg n.toNatClampNeg)))) H1 → va_S A H0 H1 locs1 → W p l e R s m args below meth c H1 locs1 cells slots Q (F0 m (pc + 3) ls rest)) : W p l e R s m args below meth c H locs cells slots Q (F0 m pc ls (.int n :: .int dp :: .ref (ad q0) :: .int sp :: .ref (ad q0) :: rest)) := by
  obtain ⟨h1, h2, h3, h4, h5⟩ := hc
  refine va_copyi (ty := .int) hx hb hml hown hlink hnat hstat hini hK hP (wl_D hA) hS q0 q0 t0 t0 (wl_to hq (me_at hT he)) (wl_to hq (me_at hT he)) ht ht rfl h1 h2 h3 h4 h5 (fun _ _ => rfl) hframes hlocals hdg (fun H1 locs1 hP1 _ hS1 => kk H1 locs1 ?_ hS1)
  rw [wl_set hq (en' := me tg pa pb Rr (ms M t a b (va_cpy (M t a b) (M t a b) sp.toNatClampNeg dp.toNatClampNeg n.toNatClampNeg))) ((me_same hT).trans (he _)) (me_other hJ hq hT)] at hP1
  exact hP1
end KM
theorem sw_out2 {x : Int32} (h1 : ¬ x = 1) (h2 : ¬ x = 2) : x.toInt < 1 ∨ 2 < x.toInt := by
  have e1 : x.toInt ≠ 1 := fun h => h1 (Int32.toInt_inj.mp (by rw [h]; rfl))
  have e2 : x.toInt ≠ 2 := fun h => h2 (Int32.toInt_inj.mp (by rw [h]; rfl))
  omega
end
section
abbrev R_LR : String := "LabelRoads"
def F_LR : u_T := fun k => match k with
  | 0 => ("LabelRoads", "size", "I", true)
  | 1 => ("LabelRoads", "ways", "LLabelRoads$Ways;", true)
  | 2 => ("LabelRoads", "mail", "LLabelRoads$Mail;", true)
  | 3 => ("LabelRoads", "routers", "[LLabelRoads$Router;", true)
  | 4 => ("LabelRoads", "places", "[I", true)
  | _ => ("LabelRoads", "packet", "LLabelRoads$Packet;", true)
def t_LR : Nat → FieldType := fun k => match k with
  | 0 => .int
  | 1 => .object "LabelRoads$Ways"
  | 2 => .object "LabelRoads$Mail"
  | 3 => .array (.object "LabelRoads$Router")
  | 4 => .array (.int)
  | _ => .object "LabelRoads$Packet"
theorem nm_LR : ∀ a, a < 6 → ∀ b, b < 6 → a ≠ b → (F_LR a).2.1 ≠ (F_LR b).2.1 := by decide +kernel
theorem ty_LR : ∀ k, k < 6 → parseFieldDescriptor (F_LR k).2.2.1 = some (t_LR k) := by decide +kernel
abbrev R_Ways : String := "LabelRoads$Ways"
def F_Ways : u_T := fun k => match k with
  | 0 => ("LabelRoads$Ways", "size", "I", true)
  | 1 => ("LabelRoads$Ways", "costs", "[[I", true)
  | 2 => ("LabelRoads$Ways", "owners", "[I", true)
  | _ => ("LabelRoads$Ways", "distances", "[[I", true)
def t_Ways : Nat → FieldType := fun k => match k with
  | 0 => .int
  | 1 => .array (.array (.int))
  | 2 => .array (.int)
  | _ => .array (.array (.int))
theorem nm_Ways : ∀ a, a < 4 → ∀ b, b < 4 → a ≠ b → (F_Ways a).2.1 ≠ (F_Ways b).2.1 := by decide +kernel
theorem ty_Ways : ∀ k, k < 4 → parseFieldDescriptor (F_Ways k).2.2.1 = some (t_Ways k) := by decide +kernel
abbrev R_Mail : String := "LabelRoads$Mail"
def F_Mail : u_T := fun k => match k with
  | 0 => ("LabelRoads$Mail", "messages", "[I", true)
  | 1 => ("LabelRoads$Mail", "count", "I", false)
  | _ => ("LabelRoads$Mail", "lostOnes", "I", false)
def t_Mail : Nat → FieldType := fun k => match k with
  | 0 => .array (.int)
  | 1 => .int
  | _ => .int
theorem nm_Mail : ∀ a, a < 3 → ∀ b, b < 3 → a ≠ b → (F_Mail a).2.1 ≠ (F_Mail b).2.1 := by decide +kernel
theorem ty_Mail : ∀ k, k < 3 → parseFieldDescriptor (F_Mail k).2.2.1 = some (t_Mail k) := by decide +kernel
abbrev R_Router : String := "LabelRoads$Router"
def F_Router : u_T := fun k => match k with
  | 0 => ("LabelRoads$Router", "labels", "[I", true)
  | 1 => ("LabelRoads$Router", "toldLabels", "[[I", true)
  | _ => ("LabelRoads$Router", "awaited", "[I", true)
def t_Router : Nat → FieldType := fun k => match k with
  | 0 => .array (.int)
  | 1 => .array (.array (.int))
  | _ => .array (.int)
theorem nm_Router : ∀ a, a < 3 → ∀ b, b < 3 → a ≠ b → (F_Router a).2.1 ≠ (F_Router b).2.1 := by decide +kernel
theorem ty_Router : ∀ k, k < 3 → parseFieldDescriptor (F_Router k).2.2.1 = some (t_Router k) := by decide +kernel
abbrev R_Packet : String := "LabelRoads$Packet"
def F_Packet : u_T := fun k => match k with
  | 0 => ("LabelRoads$Packet", "trail", "[I", true)
  | 1 => ("LabelRoads$Packet", "entries", "[I", true)
  | 2 => ("LabelRoads$Packet", "count", "I", false)
  | 3 => ("LabelRoads$Packet", "prefix", "I", false)
  | 4 => ("LabelRoads$Packet", "service", "I", false)
  | 5 => ("LabelRoads$Packet", "ttl", "I", false)
  | _ => ("LabelRoads$Packet", "top", "I", false)
def t_Packet : Nat → FieldType := fun k => match k with
  | 0 => .array (.int)
  | 1 => .array (.int)
  | 2 => .int
  | 3 => .int
  | 4 => .int
  | 5 => .int
  | _ => .int
theorem nm_Packet : ∀ a, a < 7 → ∀ b, b < 7 → a ≠ b → (F_Packet a).2.1 ≠ (F_Packet b).2.1 := by decide +kernel
theorem ty_Packet : ∀ k, k < 7 → parseFieldDescriptor (F_Packet k).2.2.1 = some (t_Packet k) := by decide +kernel
abbrev R_Model : String := "LabelRoadsModel"
def F_Model : u_T := fun k => match k with
  | 0 => ("LabelRoadsModel", "code", "I", false)
  | 1 => ("LabelRoadsModel", "n", "I", false)
  | 2 => ("LabelRoadsModel", "cost", "[I", false)
  | 3 => ("LabelRoadsModel", "owner", "[I", false)
  | 4 => ("LabelRoadsModel", "place", "[I", false)
  | 5 => ("LabelRoadsModel", "label", "[I", false)
  | 6 => ("LabelRoadsModel", "told", "[I", false)
  | 7 => ("LabelRoadsModel", "owes", "[Z", false)
  | 8 => ("LabelRoadsModel", "waiting", "I", false)
  | 9 => ("LabelRoadsModel", "lost", "I", false)
  | 10 => ("LabelRoadsModel", "from", "[I", false)
  | 11 => ("LabelRoadsModel", "to", "[I", false)
  | 12 => ("LabelRoadsModel", "kind", "[I", false)
  | 13 => ("LabelRoadsModel", "about", "[I", false)
  | 14 => ("LabelRoadsModel", "which", "[I", false)
  | 15 => ("LabelRoadsModel", "far", "[I", false)
  | 16 => ("LabelRoadsModel", "prefix", "I", false)
  | 17 => ("LabelRoadsModel", "top", "I", false)
  | 18 => ("LabelRoadsModel", "bottom", "I", false)
  | 19 => ("LabelRoadsModel", "time", "I", false)
  | 20 => ("LabelRoadsModel", "bottomTime", "I", false)
  | 21 => ("LabelRoadsModel", "hops", "I", false)
  | 22 => ("LabelRoadsModel", "where", "[I", false)
  | _ => ("LabelRoadsModel", "entries", "[I", false)
def t_Model : Nat → FieldType := fun k => match k with
  | 0 => .int
  | 1 => .int
  | 2 => .array (.int)
  | 3 => .array (.int)
  | 4 => .array (.int)
  | 5 => .array (.int)
  | 6 => .array (.int)
  | 7 => .array (.boolean)
  | 8 => .int
  | 9 => .int
  | 10 => .array (.int)
  | 11 => .array (.int)
  | 12 => .array (.int)
  | 13 => .array (.int)
  | 14 => .array (.int)
  | 15 => .array (.int)
  | 16 => .int
  | 17 => .int
  | 18 => .int
  | 19 => .int
  | 20 => .int
  | 21 => .int
  | 22 => .array (.int)
  | _ => .array (.int)
theorem nm_Model : ∀ a, a < 24 → ∀ b, b < 24 → a ≠ b → (F_Model a).2.1 ≠ (F_Model b).2.1 := by decide +kernel
theorem ty_Model : ∀ k, k < 24 → parseFieldDescriptor (F_Model k).2.2.1 = some (t_Model k) := by decide +kernel
abbrev cls : List vw_C := [(R_LR, F_LR, 6), (R_Ways, F_Ways, 4), (R_Mail, F_Mail, 3), (R_Router, F_Router, 3), (R_Packet, F_Packet, 7), (R_Model, F_Model, 24)]
abbrev tyL (G : Nat → ClassId) : List (ClassId × FieldType) := [(G 0, .int), (G 1, .array .int), (G 2, .object R_Router), (G 3, .boolean), (G 4, .long)]
abbrev cK (n : Nat) : Nat := 16 + 11 * n
def cR0 (n : Nat) (ad : Nat → Nat) (G : Nat → ClassId) (k : Nat) (f : Nat → Int32) : va_E := match k with
  | 0 => .inr (0, [.int (nI n), .ref (ad 1), .ref (ad 5), .ref (ad 7), .ref (ad 8), .ref (ad 9)])
  | 1 => .inr (1, [.int (nI n), .ref (ad 2), .ref (ad 3), .ref (ad 4)])
  | 2 => .inl (G 1, n, .inr (.inr (.inr (.inr (fun i => some (ad (16 + 11 * i + 0)))))))
  | 3 => .inl (G 0, 4, .inl (f))
  | 4 => .inl (G 1, 4, .inr (.inr (.inr (.inr (fun i => some (ad (12 + i)))))))
  | 5 => .inr (2, [.ref (ad 6), .int (f 1), .int (f 2)])
  | 6 => .inl (G 0, 240, .inl (f))
  | 7 => .inl (G 2, n, .inr (.inr (.inr (.inr (fun i => some (ad (16 + 11 * i + 1)))))))
  | 8 => .inl (G 0, 4, .inl (f))
  | 9 => .inr (4, [.ref (ad 10), .ref (ad 11), .int (f 2), .int (f 3), .int (f 4), .int (f 5), .int (f 6)])
  | 10 => .inl (G 0, 255, .inl (f))
  | 11 => .inl (G 0, 255, .inl (f))
  | _ => .inl (G 0, n, .inl f)
def cR1 (n : Nat) (ad : Nat → Nat) (G : Nat → ClassId) (r j : Nat) (f : Nat → Int32) : va_E := match j with
  | 0 => .inl (G 0, n, .inl (f))
  | 1 => .inr (3, [.ref (ad (16 + 11 * r + 2)), .ref (ad (16 + 11 * r + 3)), .ref (ad (16 + 11 * r + 4))])
  | 2 => .inl (G 0, 4, .inl (f))
  | 3 => .inl (G 1, 6, .inr (.inr (.inr (.inr (fun i => some (ad (16 + 11 * r + (i + 5))))))))
  | 4 => .inl (G 0, 8, .inl (f))
  | _ => .inl (G 0, 4, .inl f)
def cR (n : Nat) (ad : Nat → Nat) (G : Nat → ClassId) (k : Nat) (f : Nat → Int32) : va_E := if k < 16 then cR0 n ad G k f else cR1 n ad G ((k - 16) / 11) ((k - 16) % 11) f
def ctg (k : Nat) : Nat := if k < 12 then k else if k < 16 then 12 else if (k - 16) % 11 < 5 then 16 + (k - 16) % 11 else 21
def cpa (k : Nat) : Nat := if k < 12 then 0 else if k < 16 then k - 12 else (k - 16) / 11
def cpb (k : Nat) : Nat := if k < 16 then 0 else (k - 16) % 11 - 5
abbrev cE (n : Nat) (ad : Nat → Nat) (G : Nat → ClassId) (M : Mem) : Nat → va_E := me ctg cpa cpb (cR n ad G) M
abbrev cW (n : Nat) (ad : Nat → Nat) (G : Nat → ClassId) (M : Mem) : va_W := wl (cK n) ad (cE n ad G M)
abbrev cB (D : va_G) (n : Nat) (ad : Nat → Nat) (G : Nat → ClassId) (M : Mem) : State → Prop := wl_B D cls (tyL G) (cK n) ad (cE n ad G M)
theorem cJ {n : Nat} : mj (cK n) ctg cpa cpb := by
  intro i j _ _ h1 h2 h3
  unfold ctg at h1
  unfold cpa at h2
  unfold cpb at h3
  repeat' split at h1
  all_goals (repeat' split at h2)
  all_goals (repeat' split at h3)
  all_goals omega
theorem cR_r {n : Nat} {ad : Nat → Nat} {G : Nat → ClassId} {r j : Nat} {f : Nat → Int32} (hj : j < 11) : cR n ad G (16 + 11 * r + j) f = cR1 n ad G r j f := by
  unfold cR
  rw [if_neg (by omega), show (16 + 11 * r + j - 16) / 11 = r by omega, show (16 + 11 * r + j - 16) % 11 = j by omega]
theorem ct_r {r j : Nat} (hj : j < 11) : ctg (16 + 11 * r + j) = (if j < 5 then 16 + j else 21) ∧ cpa (16 + 11 * r + j) = r ∧ cpb (16 + 11 * r + j) = j - 5 := by
  unfold ctg cpa cpb
  rw [if_neg (show ¬ 16 + 11 * r + j < 12 by omega), if_neg (show ¬ 16 + 11 * r + j < 16 by omega), if_neg (show ¬ 16 + 11 * r + j < 12 by omega), if_neg (show ¬ 16 + 11 * r + j < 16 by omega), if_neg (show ¬ 16 + 11 * r + j < 16 by omega), show (16 + 11 * r + j - 16) / 11 = r by omega, show (16 + 11 * r + j - 16) % 11 = j by omega]
  exact ⟨rfl, rfl, rfl⟩
theorem LR_lt {n : Nat} : 0 < cK n := by show 0 < 16 + 11 * n; omega
theorem LR_at {n : Nat} {ad : Nat → Nat} {G : Nat → ClassId} {M : Mem} : cE n ad G M 0 = .inr (0, [.int (nI n), .ref (ad 1), .ref (ad 5), .ref (ad 7), .ref (ad 8), .ref (ad 9)]) := rfl
abbrev LR_fs (n : Nat) (ad : Nat → Nat) (f : Nat → Int32) : List Value := [.int (nI n), .ref (ad 1), .ref (ad 5), .ref (ad 7), .ref (ad 8), .ref (ad 9)]
theorem Ways_lt {n : Nat} : 1 < cK n := by show 1 < 16 + 11 * n; omega
theorem Ways_at {n : Nat} {ad : Nat → Nat} {G : Nat → ClassId} {M : Mem} : cE n ad G M 1 = .inr (1, [.int (nI n), .ref (ad 2), .ref (ad 3), .ref (ad 4)]) := rfl
abbrev Ways_fs (n : Nat) (ad : Nat → Nat) (f : Nat → Int32) : List Value := [.int (nI n), .ref (ad 2), .ref (ad 3), .ref (ad 4)]
theorem CO_lt {n : Nat} : 2 < cK n := by show 2 < 16 + 11 * n; omega
theorem CO_at {n : Nat} {ad : Nat → Nat} {G : Nat → ClassId} {M : Mem} : cE n ad G M 2 = .inl (G 1, n, .inr (.inr (.inr (.inr (fun i => some (ad (16 + 11 * i + 0))))))) := rfl
theorem OW_lt {n : Nat} : 3 < cK n := by show 3 < 16 + 11 * n; omega
theorem OW_at {n : Nat} {ad : Nat → Nat} {G : Nat → ClassId} {M : Mem} : cE n ad G M 3 = .inl (G 0, 4, .inl (M 3 0 0)) := rfl
theorem OW_tg : ctg 3 = 3 ∧ cpa 3 = 0 ∧ cpb 3 = 0 := ⟨rfl, rfl, rfl⟩
theorem OW_row {n : Nat} {ad : Nat → Nat} {G : Nat → ClassId} (f : Nat → Int32) : cR n ad G 3 f = .inl (G 0, 4, .inl f) := rfl
theorem DO_lt {n : Nat} : 4 < cK n := by show 4 < 16 + 11 * n; omega
theorem DO_at {n : Nat} {ad : Nat → Nat} {G : Nat → ClassId} {M : Mem} : cE n ad G M 4 = .inl (G 1, 4, .inr (.inr (.inr (.inr (fun i => some (ad (12 + i))))))) := rfl
theorem Mail_lt {n : Nat} : 5 < cK n := by show 5 < 16 + 11 * n; omega
theorem Mail_at {n : Nat} {ad : Nat → Nat} {G : Nat → ClassId} {M : Mem} : cE n ad G M 5 = .inr (2, [.ref (ad 6), .int (M 5 0 0 1), .int (M 5 0 0 2)]) := rfl
abbrev Mail_fs (ad : Nat → Nat) (f : Nat → Int32) : List Value := [.ref (ad 6), .int (f 1), .int (f 2)]
theorem MS_lt {n : Nat} : 6 < cK n := by show 6 < 16 + 11 * n; omega
theorem MS_at {n : Nat} {ad : Nat → Nat} {G : Nat → ClassId} {M : Mem} : cE n ad G M 6 = .inl (G 0, 240, .inl (M 6 0 0)) := rfl
theorem MS_tg : ctg 6 = 6 ∧ cpa 6 = 0 ∧ cpb 6 = 0 := ⟨rfl, rfl, rfl⟩
theorem MS_row {n : Nat} {ad : Nat → Nat} {G : Nat → ClassId} (f : Nat → Int32) : cR n ad G 6 f = .inl (G 0, 240, .inl f) := rfl
theorem RA_lt {n : Nat} : 7 < cK n := by show 7 < 16 + 11 * n; omega
theorem RA_at {n : Nat} {ad : Nat → Nat} {G : Nat → ClassId} {M : Mem} : cE n ad G M 7 = .inl (G 2, n, .inr (.inr (.inr (.inr (fun i => some (ad (16 + 11 * i + 1))))))) := rfl
theorem PL_lt {n : Nat} : 8 < cK n := by show 8 < 16 + 11 * n; omega
theorem PL_at {n : Nat} {ad : Nat → Nat} {G : Nat → ClassId} {M : Mem} : cE n ad G M 8 = .inl (G 0, 4, .inl (M 8 0 0)) := rfl
theorem PL_tg : ctg 8 = 8 ∧ cpa 8 = 0 ∧ cpb 8 = 0 := ⟨rfl, rfl, rfl⟩
theorem PL_row {n : Nat} {ad : Nat → Nat} {G : Nat → ClassId} (f : Nat → Int32) : cR n ad G 8 f = .inl (G 0, 4, .inl f) := rfl
theorem PK_lt {n : Nat} : 9 < cK n := by show 9 < 16 + 11 * n; omega
theorem PK_at {n : Nat} {ad : Nat → Nat} {G : Nat → ClassId} {M : Mem} : cE n ad G M 9 = .inr (4, [.ref (ad 10), .ref (ad 11), .int (M 9 0 0 2), .int (M 9 0 0 3), .int (M 9 0 0 4), .int (M 9 0 0 5), .int (M 9 0 0 6)]) := rfl
abbrev Packet_fs (ad : Nat → Nat) (f : Nat → Int32) : List Value := [.ref (ad 10), .ref (ad 11), .int (f 2), .int (f 3), .int (f 4), .int (f 5), .int (f 6)]
theorem TR_lt {n : Nat} : 10 < cK n := by show 10 < 16 + 11 * n; omega
theorem TR_at {n : Nat} {ad : Nat → Nat} {G : Nat → ClassId} {M : Mem} : cE n ad G M 10 = .inl (G 0, 255, .inl (M 10 0 0)) := rfl
theorem TR_tg : ctg 10 = 10 ∧ cpa 10 = 0 ∧ cpb 10 = 0 := ⟨rfl, rfl, rfl⟩
theorem TR_row {n : Nat} {ad : Nat → Nat} {G : Nat → ClassId} (f : Nat → Int32) : cR n ad G 10 f = .inl (G 0, 255, .inl f) := rfl
theorem EN_lt {n : Nat} : 11 < cK n := by show 11 < 16 + 11 * n; omega
theorem EN_at {n : Nat} {ad : Nat → Nat} {G : Nat → ClassId} {M : Mem} : cE n ad G M 11 = .inl (G 0, 255, .inl (M 11 0 0)) := rfl
theorem EN_tg : ctg 11 = 11 ∧ cpa 11 = 0 ∧ cpb 11 = 0 := ⟨rfl, rfl, rfl⟩
theorem EN_row {n : Nat} {ad : Nat → Nat} {G : Nat → ClassId} (f : Nat → Int32) : cR n ad G 11 f = .inl (G 0, 255, .inl f) := rfl
theorem DR_lt {n q : Nat} (h : q < 4) : 12 + q < cK n := by show 12 + q < 16 + 11 * n; omega
theorem DR_tg {q : Nat} (h : q < 4) : ctg (12 + q) = 12 ∧ cpa (12 + q) = q ∧ cpb (12 + q) = 0 := by
  unfold ctg cpa cpb
  rw [if_neg (show ¬ 12 + q < 12 by omega), if_pos (show 12 + q < 16 by omega), if_neg (show ¬ 12 + q < 12 by omega), if_pos (show 12 + q < 16 by omega), if_pos (show 12 + q < 16 by omega)]
  exact ⟨rfl, by omega, rfl⟩
theorem DR_row {n : Nat} {ad : Nat → Nat} {G : Nat → ClassId} {q : Nat} (f : Nat → Int32) (h : q < 4) : cR n ad G (12 + q) f = .inl (G 0, n, .inl f) := by
  rcases (show q = 0 ∨ q = 1 ∨ q = 2 ∨ q = 3 by omega) with rfl | rfl | rfl | rfl <;> rfl
theorem DR_at {n : Nat} {ad : Nat → Nat} {G : Nat → ClassId} {M : Mem} {q : Nat} (h : q < 4) : cE n ad G M (12 + q) = .inl (G 0, n, .inl (M 12 q 0)) := me_at (DR_tg h) (fun f => DR_row f h)
theorem CR_lt {n : Nat} {r : Nat} (h : r < n) : (16 + 11 * r + 0) < cK n := by show (16 + 11 * r + 0) < 16 + 11 * n; omega
theorem CR_tg {n : Nat} {r : Nat} (h : r < n) : ctg (16 + 11 * r + 0) = 16 ∧ cpa (16 + 11 * r + 0) = r ∧ cpb (16 + 11 * r + 0) = 0 := by
  have h9 := ct_r (r := r) (j := 0) (by decide)
  exact h9
theorem CR_row {n : Nat} {ad : Nat → Nat} {G : Nat → ClassId} {r : Nat} (f : Nat → Int32) (h : r < n) : cR n ad G (16 + 11 * r + 0) f = .inl (G 0, n, .inl (f)) := cR_r (by decide)
theorem CR_at {n : Nat} {ad : Nat → Nat} {G : Nat → ClassId} {M : Mem} {r : Nat} (h : r < n) : cE n ad G M (16 + 11 * r + 0) = .inl (G 0, n, .inl (M 16 r 0)) := me_at (CR_tg h) (fun f => CR_row f h)
theorem RT_lt {n : Nat} {r : Nat} (h : r < n) : (16 + 11 * r + 1) < cK n := by show (16 + 11 * r + 1) < 16 + 11 * n; omega
theorem RT_tg {n : Nat} {r : Nat} (h : r < n) : ctg (16 + 11 * r + 1) = 17 ∧ cpa (16 + 11 * r + 1) = r ∧ cpb (16 + 11 * r + 1) = 0 := by
  have h9 := ct_r (r := r) (j := 1) (by decide)
  exact h9
theorem RT_row {n : Nat} {ad : Nat → Nat} {G : Nat → ClassId} {r : Nat} (f : Nat → Int32) (h : r < n) : cR n ad G (16 + 11 * r + 1) f = .inr (3, [.ref (ad (16 + 11 * r + 2)), .ref (ad (16 + 11 * r + 3)), .ref (ad (16 + 11 * r + 4))]) := cR_r (by decide)
theorem RT_at {n : Nat} {ad : Nat → Nat} {G : Nat → ClassId} {M : Mem} {r : Nat} (h : r < n) : cE n ad G M (16 + 11 * r + 1) = .inr (3, [.ref (ad (16 + 11 * r + 2)), .ref (ad (16 + 11 * r + 3)), .ref (ad (16 + 11 * r + 4))]) := me_at (RT_tg h) (fun f => RT_row f h)
theorem LB_lt {n : Nat} {r : Nat} (h : r < n) : (16 + 11 * r + 2) < cK n := by show (16 + 11 * r + 2) < 16 + 11 * n; omega
theorem LB_tg {n : Nat} {r : Nat} (h : r < n) : ctg (16 + 11 * r + 2) = 18 ∧ cpa (16 + 11 * r + 2) = r ∧ cpb (16 + 11 * r + 2) = 0 := by
  have h9 := ct_r (r := r) (j := 2) (by decide)
  exact h9
theorem LB_row {n : Nat} {ad : Nat → Nat} {G : Nat → ClassId} {r : Nat} (f : Nat → Int32) (h : r < n) : cR n ad G (16 + 11 * r + 2) f = .inl (G 0, 4, .inl (f)) := cR_r (by decide)
theorem LB_at {n : Nat} {ad : Nat → Nat} {G : Nat → ClassId} {M : Mem} {r : Nat} (h : r < n) : cE n ad G M (16 + 11 * r + 2) = .inl (G 0, 4, .inl (M 18 r 0)) := me_at (LB_tg h) (fun f => LB_row f h)
theorem TO_lt {n : Nat} {r : Nat} (h : r < n) : (16 + 11 * r + 3) < cK n := by show (16 + 11 * r + 3) < 16 + 11 * n; omega
theorem TO_tg {n : Nat} {r : Nat} (h : r < n) : ctg (16 + 11 * r + 3) = 19 ∧ cpa (16 + 11 * r + 3) = r ∧ cpb (16 + 11 * r + 3) = 0 := by
  have h9 := ct_r (r := r) (j := 3) (by decide)
  exact h9
theorem TO_row {n : Nat} {ad : Nat → Nat} {G : Nat → ClassId} {r : Nat} (f : Nat → Int32) (h : r < n) : cR n ad G (16 + 11 * r + 3) f = .inl (G 1, 6, .inr (.inr (.inr (.inr (fun i => some (ad (16 + 11 * r + (i + 5)))))))) := cR_r (by decide)
theorem TO_at {n : Nat} {ad : Nat → Nat} {G : Nat → ClassId} {M : Mem} {r : Nat} (h : r < n) : cE n ad G M (16 + 11 * r + 3) = .inl (G 1, 6, .inr (.inr (.inr (.inr (fun i => some (ad (16 + 11 * r + (i + 5)))))))) := me_at (TO_tg h) (fun f => TO_row f h)
theorem AW_lt {n : Nat} {r : Nat} (h : r < n) : (16 + 11 * r + 4) < cK n := by show (16 + 11 * r + 4) < 16 + 11 * n; omega
theorem AW_tg {n : Nat} {r : Nat} (h : r < n) : ctg (16 + 11 * r + 4) = 20 ∧ cpa (16 + 11 * r + 4) = r ∧ cpb (16 + 11 * r + 4) = 0 := by
  have h9 := ct_r (r := r) (j := 4) (by decide)
  exact h9
theorem AW_row {n : Nat} {ad : Nat → Nat} {G : Nat → ClassId} {r : Nat} (f : Nat → Int32) (h : r < n) : cR n ad G (16 + 11 * r + 4) f = .inl (G 0, 8, .inl (f)) := cR_r (by decide)
theorem AW_at {n : Nat} {ad : Nat → Nat} {G : Nat → ClassId} {M : Mem} {r : Nat} (h : r < n) : cE n ad G M (16 + 11 * r + 4) = .inl (G 0, 8, .inl (M 20 r 0)) := me_at (AW_tg h) (fun f => AW_row f h)
theorem TD_lt {n : Nat} {r q : Nat} (h : r < n) (h2 : q < 6) : (16 + 11 * r + (q + 5)) < cK n := by show (16 + 11 * r + (q + 5)) < 16 + 11 * n; omega
theorem TD_tg {n : Nat} {r q : Nat} (h : r < n) (h2 : q < 6) : ctg (16 + 11 * r + (q + 5)) = 21 ∧ cpa (16 + 11 * r + (q + 5)) = r ∧ cpb (16 + 11 * r + (q + 5)) = q := by
  have h9 := ct_r (r := r) (j := q + 5) (by omega)
  rw [if_neg (by omega), show q + 5 - 5 = q by omega] at h9
  exact h9
theorem TD_row {n : Nat} {ad : Nat → Nat} {G : Nat → ClassId} {r q : Nat} (f : Nat → Int32) (h : r < n) (h2 : q < 6) : cR n ad G (16 + 11 * r + (q + 5)) f = .inl (G 0, 4, .inl (f)) := cR_r (by omega)
theorem TD_at {n : Nat} {ad : Nat → Nat} {G : Nat → ClassId} {M : Mem} {r q : Nat} (h : r < n) (h2 : q < 6) : cE n ad G M (16 + 11 * r + (q + 5)) = .inl (G 0, 4, .inl (M 21 r q)) := me_at (TD_tg h h2) (fun f => TD_row f h h2)
def tR (ad : Nat → Nat) (G : Nat → ClassId) (k : Nat) (f : Nat → Int32) : va_E := match k with
  | 0 => .inr (5, [.int (f 0), .int (f 1), .ref (ad 1), .ref (ad 2), .ref (ad 3), .ref (ad 4), .ref (ad 5), .ref (ad 6), .int (f 8), .int (f 9), .ref (ad 7), .ref (ad 8), .ref (ad 9), .ref (ad 10), .ref (ad 11), .ref (ad 12), .int (f 16), .int (f 17), .int (f 18), .int (f 19), .int (f 20), .int (f 21), .ref (ad 13), .ref (ad 14)])
  | 1 => .inl (G 0, 36, .inl (f))
  | 2 => .inl (G 0, 4, .inl (f))
  | 3 => .inl (G 0, 4, .inl (f))
  | 4 => .inl (G 0, 24, .inl (f))
  | 5 => .inl (G 0, 144, .inl (f))
  | 6 => .inl (G 3, 288, .inl (f))
  | 7 => .inl (G 0, 240, .inl (f))
  | 8 => .inl (G 0, 240, .inl (f))
  | 9 => .inl (G 0, 240, .inl (f))
  | 10 => .inl (G 0, 240, .inl (f))
  | 11 => .inl (G 0, 240, .inl (f))
  | 12 => .inl (G 0, 6, .inl (f))
  | 13 => .inl (G 0, 300, .inl (f))
  | _ => .inl (G 0, 300, .inl (f))
def tid (k : Nat) : Nat := k
def tz0 (_ : Nat) : Nat := 0
abbrev tE (ad : Nat → Nat) (G : Nat → ClassId) (M : Mem) : Nat → va_E := me tid tz0 tz0 (tR ad G) M
abbrev tW (ad : Nat → Nat) (G : Nat → ClassId) (M : Mem) : va_W := wl 15 ad (tE ad G M)
abbrev tB (D : va_G) (ad : Nat → Nat) (G : Nat → ClassId) (M : Mem) : State → Prop := wl_B D cls (tyL G) 15 ad (tE ad G M)
theorem tJ : mj 15 tid tz0 tz0 := fun _ _ _ _ h _ _ => h
theorem MO_at {ad : Nat → Nat} {G : Nat → ClassId} {M : Mem} : tE ad G M 0 = .inr (5, [.int (M 0 0 0 0), .int (M 0 0 0 1), .ref (ad 1), .ref (ad 2), .ref (ad 3), .ref (ad 4), .ref (ad 5), .ref (ad 6), .int (M 0 0 0 8), .int (M 0 0 0 9), .ref (ad 7), .ref (ad 8), .ref (ad 9), .ref (ad 10), .ref (ad 11), .ref (ad 12), .int (M 0 0 0 16), .int (M 0 0 0 17), .int (M 0 0 0 18), .int (M 0 0 0 19), .int (M 0 0 0 20), .int (M 0 0 0 21), .ref (ad 13), .ref (ad 14)]) := rfl
abbrev Model_fs (ad : Nat → Nat) (f : Nat → Int32) : List Value := [.int (f 0), .int (f 1), .ref (ad 1), .ref (ad 2), .ref (ad 3), .ref (ad 4), .ref (ad 5), .ref (ad 6), .int (f 8), .int (f 9), .ref (ad 7), .ref (ad 8), .ref (ad 9), .ref (ad 10), .ref (ad 11), .ref (ad 12), .int (f 16), .int (f 17), .int (f 18), .int (f 19), .int (f 20), .int (f 21), .ref (ad 13), .ref (ad 14)]
theorem COST_at {ad : Nat → Nat} {G : Nat → ClassId} {M : Mem} : tE ad G M 1 = .inl (G 0, 36, .inl (M 1 0 0)) := rfl
theorem COST_row {ad : Nat → Nat} {G : Nat → ClassId} (f : Nat → Int32) : tR ad G 1 f = .inl (G 0, 36, .inl f) := rfl
theorem OWN_at {ad : Nat → Nat} {G : Nat → ClassId} {M : Mem} : tE ad G M 2 = .inl (G 0, 4, .inl (M 2 0 0)) := rfl
theorem OWN_row {ad : Nat → Nat} {G : Nat → ClassId} (f : Nat → Int32) : tR ad G 2 f = .inl (G 0, 4, .inl f) := rfl
theorem PLC_at {ad : Nat → Nat} {G : Nat → ClassId} {M : Mem} : tE ad G M 3 = .inl (G 0, 4, .inl (M 3 0 0)) := rfl
theorem PLC_row {ad : Nat → Nat} {G : Nat → ClassId} (f : Nat → Int32) : tR ad G 3 f = .inl (G 0, 4, .inl f) := rfl
theorem LAB_at {ad : Nat → Nat} {G : Nat → ClassId} {M : Mem} : tE ad G M 4 = .inl (G 0, 24, .inl (M 4 0 0)) := rfl
theorem LAB_row {ad : Nat → Nat} {G : Nat → ClassId} (f : Nat → Int32) : tR ad G 4 f = .inl (G 0, 24, .inl f) := rfl
theorem TLD_at {ad : Nat → Nat} {G : Nat → ClassId} {M : Mem} : tE ad G M 5 = .inl (G 0, 144, .inl (M 5 0 0)) := rfl
theorem TLD_row {ad : Nat → Nat} {G : Nat → ClassId} (f : Nat → Int32) : tR ad G 5 f = .inl (G 0, 144, .inl f) := rfl
theorem OWE_at {ad : Nat → Nat} {G : Nat → ClassId} {M : Mem} : tE ad G M 6 = .inl (G 3, 288, .inl (M 6 0 0)) := rfl
theorem OWE_row {ad : Nat → Nat} {G : Nat → ClassId} (f : Nat → Int32) : tR ad G 6 f = .inl (G 3, 288, .inl f) := rfl
theorem FROM_at {ad : Nat → Nat} {G : Nat → ClassId} {M : Mem} : tE ad G M 7 = .inl (G 0, 240, .inl (M 7 0 0)) := rfl
theorem FROM_row {ad : Nat → Nat} {G : Nat → ClassId} (f : Nat → Int32) : tR ad G 7 f = .inl (G 0, 240, .inl f) := rfl
theorem TOO_at {ad : Nat → Nat} {G : Nat → ClassId} {M : Mem} : tE ad G M 8 = .inl (G 0, 240, .inl (M 8 0 0)) := rfl
theorem TOO_row {ad : Nat → Nat} {G : Nat → ClassId} (f : Nat → Int32) : tR ad G 8 f = .inl (G 0, 240, .inl f) := rfl
theorem KIND_at {ad : Nat → Nat} {G : Nat → ClassId} {M : Mem} : tE ad G M 9 = .inl (G 0, 240, .inl (M 9 0 0)) := rfl
theorem KIND_row {ad : Nat → Nat} {G : Nat → ClassId} (f : Nat → Int32) : tR ad G 9 f = .inl (G 0, 240, .inl f) := rfl
theorem ABO_at {ad : Nat → Nat} {G : Nat → ClassId} {M : Mem} : tE ad G M 10 = .inl (G 0, 240, .inl (M 10 0 0)) := rfl
theorem ABO_row {ad : Nat → Nat} {G : Nat → ClassId} (f : Nat → Int32) : tR ad G 10 f = .inl (G 0, 240, .inl f) := rfl
theorem WHI_at {ad : Nat → Nat} {G : Nat → ClassId} {M : Mem} : tE ad G M 11 = .inl (G 0, 240, .inl (M 11 0 0)) := rfl
theorem WHI_row {ad : Nat → Nat} {G : Nat → ClassId} (f : Nat → Int32) : tR ad G 11 f = .inl (G 0, 240, .inl f) := rfl
theorem FAR_at {ad : Nat → Nat} {G : Nat → ClassId} {M : Mem} : tE ad G M 12 = .inl (G 0, 6, .inl (M 12 0 0)) := rfl
theorem FAR_row {ad : Nat → Nat} {G : Nat → ClassId} (f : Nat → Int32) : tR ad G 12 f = .inl (G 0, 6, .inl f) := rfl
theorem WHE_at {ad : Nat → Nat} {G : Nat → ClassId} {M : Mem} : tE ad G M 13 = .inl (G 0, 300, .inl (M 13 0 0)) := rfl
theorem WHE_row {ad : Nat → Nat} {G : Nat → ClassId} (f : Nat → Int32) : tR ad G 13 f = .inl (G 0, 300, .inl f) := rfl
theorem ENT_at {ad : Nat → Nat} {G : Nat → ClassId} {M : Mem} : tE ad G M 14 = .inl (G 0, 300, .inl (M 14 0 0)) := rfl
theorem ENT_row {ad : Nat → Nat} {G : Nat → ClassId} (f : Nat → Int32) : tR ad G 14 f = .inl (G 0, 300, .inl f) := rfl
end
section
abbrev b_Ways_costOf : ByteArray := prog_5_method_2_code
abbrev y_Ways_costOf : MethodName := ⟨"LabelRoads$Ways", "costOf", "(II)I"⟩
theorem d_Ways_costOf_0 : decode b_Ways_costOf 0 = .ok (.aload_n 0, 1) := by decide +kernel
theorem d_Ways_costOf_1 : decode b_Ways_costOf 1 = .ok (.getfield 17, 3) := by decide +kernel
theorem d_Ways_costOf_4 : decode b_Ways_costOf 4 = .ok (.iload_n 1, 1) := by decide +kernel
theorem d_Ways_costOf_5 : decode b_Ways_costOf 5 = .ok (.aaload, 1) := by decide +kernel
theorem d_Ways_costOf_6 : decode b_Ways_costOf 6 = .ok (.iload_n 2, 1) := by decide +kernel
theorem d_Ways_costOf_7 : decode b_Ways_costOf 7 = .ok (.iaload, 1) := by decide +kernel
theorem d_Ways_costOf_8 : decode b_Ways_costOf 8 = .ok (.ireturn, 1) := by decide +kernel
theorem k_Ways_costOf : Cond.code y_Ways_costOf b_Ways_costOf 3 (some .int) ∈ WS := ws_t 254 (by decide +kernel) (by decide +kernel)
theorem hd_Ways_costOf : y_Ways_costOf.cls = R_Ways ∧ y_Ways_costOf.cls ≠ "java/lang/invoke/MethodHandle" ∧ y_Ways_costOf.cls ≠ "java/lang/invoke/VarHandle" ∧ (parseMethodDescriptor y_Ways_costOf.desc).map (fun d => d.parameters.length) = some 2 := by decide +kernel
abbrev b_Ways_areLinked : ByteArray := prog_5_method_3_code
abbrev y_Ways_areLinked : MethodName := ⟨"LabelRoads$Ways", "areLinked", "(II)Z"⟩
theorem d_Ways_areLinked_0 : decode b_Ways_areLinked 0 = .ok (.aload_n 0, 1) := by decide +kernel
theorem d_Ways_areLinked_1 : decode b_Ways_areLinked 1 = .ok (.getfield 17, 3) := by decide +kernel
theorem d_Ways_areLinked_4 : decode b_Ways_areLinked 4 = .ok (.iload_n 1, 1) := by decide +kernel
theorem d_Ways_areLinked_5 : decode b_Ways_areLinked 5 = .ok (.aaload, 1) := by decide +kernel
theorem d_Ways_areLinked_6 : decode b_Ways_areLinked 6 = .ok (.iload_n 2, 1) := by decide +kernel
theorem d_Ways_areLinked_7 : decode b_Ways_areLinked 7 = .ok (.iaload, 1) := by decide +kernel
theorem d_Ways_areLinked_8 : decode b_Ways_areLinked 8 = .ok (.ifCond .eq (7), 3) := by decide +kernel
theorem d_Ways_areLinked_11 : decode b_Ways_areLinked 11 = .ok (.iconst 1, 1) := by decide +kernel
theorem d_Ways_areLinked_12 : decode b_Ways_areLinked 12 = .ok (.goto (4), 3) := by decide +kernel
theorem d_Ways_areLinked_15 : decode b_Ways_areLinked 15 = .ok (.iconst 0, 1) := by decide +kernel
theorem d_Ways_areLinked_16 : decode b_Ways_areLinked 16 = .ok (.ireturn, 1) := by decide +kernel
theorem k_Ways_areLinked : Cond.code y_Ways_areLinked b_Ways_areLinked 3 (some .boolean) ∈ WS := ws_t 270 (by decide +kernel) (by decide +kernel)
theorem hd_Ways_areLinked : y_Ways_areLinked.cls = R_Ways ∧ y_Ways_areLinked.cls ≠ "java/lang/invoke/MethodHandle" ∧ y_Ways_areLinked.cls ≠ "java/lang/invoke/VarHandle" ∧ (parseMethodDescriptor y_Ways_areLinked.desc).map (fun d => d.parameters.length) = some 2 := by decide +kernel
abbrev b_Ways_ownerOf : ByteArray := prog_5_method_4_code
abbrev y_Ways_ownerOf : MethodName := ⟨"LabelRoads$Ways", "ownerOf", "(I)I"⟩
theorem d_Ways_ownerOf_0 : decode b_Ways_ownerOf 0 = .ok (.aload_n 0, 1) := by decide +kernel
theorem d_Ways_ownerOf_1 : decode b_Ways_ownerOf 1 = .ok (.getfield 20, 3) := by decide +kernel
theorem d_Ways_ownerOf_4 : decode b_Ways_ownerOf 4 = .ok (.iload_n 1, 1) := by decide +kernel
theorem d_Ways_ownerOf_5 : decode b_Ways_ownerOf 5 = .ok (.iaload, 1) := by decide +kernel
theorem d_Ways_ownerOf_6 : decode b_Ways_ownerOf 6 = .ok (.ireturn, 1) := by decide +kernel
theorem k_Ways_ownerOf : Cond.code y_Ways_ownerOf b_Ways_ownerOf 2 (some .int) ∈ WS := ws_t 377 (by decide +kernel) (by decide +kernel)
theorem hd_Ways_ownerOf : y_Ways_ownerOf.cls = R_Ways ∧ y_Ways_ownerOf.cls ≠ "java/lang/invoke/MethodHandle" ∧ y_Ways_ownerOf.cls ≠ "java/lang/invoke/VarHandle" ∧ (parseMethodDescriptor y_Ways_ownerOf.desc).map (fun d => d.parameters.length) = some 1 := by decide +kernel
abbrev b_Ways_owns : ByteArray := prog_5_method_5_code
abbrev y_Ways_owns : MethodName := ⟨"LabelRoads$Ways", "owns", "(II)Z"⟩
theorem d_Ways_owns_0 : decode b_Ways_owns 0 = .ok (.aload_n 0, 1) := by decide +kernel
theorem d_Ways_owns_1 : decode b_Ways_owns 1 = .ok (.getfield 20, 3) := by decide +kernel
theorem d_Ways_owns_4 : decode b_Ways_owns 4 = .ok (.iload_n 2, 1) := by decide +kernel
theorem d_Ways_owns_5 : decode b_Ways_owns 5 = .ok (.iaload, 1) := by decide +kernel
theorem d_Ways_owns_6 : decode b_Ways_owns 6 = .ok (.iload_n 1, 1) := by decide +kernel
theorem d_Ways_owns_7 : decode b_Ways_owns 7 = .ok (.if_icmp .ne (7), 3) := by decide +kernel
theorem d_Ways_owns_10 : decode b_Ways_owns 10 = .ok (.iconst 1, 1) := by decide +kernel
theorem d_Ways_owns_11 : decode b_Ways_owns 11 = .ok (.goto (4), 3) := by decide +kernel
theorem d_Ways_owns_14 : decode b_Ways_owns 14 = .ok (.iconst 0, 1) := by decide +kernel
theorem d_Ways_owns_15 : decode b_Ways_owns 15 = .ok (.ireturn, 1) := by decide +kernel
theorem k_Ways_owns : Cond.code y_Ways_owns b_Ways_owns 3 (some .boolean) ∈ WS := ws_t 326 (by decide +kernel) (by decide +kernel)
theorem hd_Ways_owns : y_Ways_owns.cls = R_Ways ∧ y_Ways_owns.cls ≠ "java/lang/invoke/MethodHandle" ∧ y_Ways_owns.cls ≠ "java/lang/invoke/VarHandle" ∧ (parseMethodDescriptor y_Ways_owns.desc).map (fun d => d.parameters.length) = some 2 := by decide +kernel
abbrev b_Ways_distanceOf : ByteArray := prog_5_method_8_code
abbrev y_Ways_distanceOf : MethodName := ⟨"LabelRoads$Ways", "distanceOf", "(II)I"⟩
theorem d_Ways_distanceOf_0 : decode b_Ways_distanceOf 0 = .ok (.aload_n 0, 1) := by decide +kernel
theorem d_Ways_distanceOf_1 : decode b_Ways_distanceOf 1 = .ok (.getfield 30, 3) := by decide +kernel
theorem d_Ways_distanceOf_4 : decode b_Ways_distanceOf 4 = .ok (.iload_n 2, 1) := by decide +kernel
theorem d_Ways_distanceOf_5 : decode b_Ways_distanceOf 5 = .ok (.aaload, 1) := by decide +kernel
theorem d_Ways_distanceOf_6 : decode b_Ways_distanceOf 6 = .ok (.iload_n 1, 1) := by decide +kernel
theorem d_Ways_distanceOf_7 : decode b_Ways_distanceOf 7 = .ok (.iaload, 1) := by decide +kernel
theorem d_Ways_distanceOf_8 : decode b_Ways_distanceOf 8 = .ok (.istore_n 3, 1) := by decide +kernel
theorem d_Ways_distanceOf_9 : decode b_Ways_distanceOf 9 = .ok (.iload_n 3, 1) := by decide +kernel
theorem d_Ways_distanceOf_10 : decode b_Ways_distanceOf 10 = .ok (.sipush 1000, 3) := by decide +kernel
theorem d_Ways_distanceOf_13 : decode b_Ways_distanceOf 13 = .ok (.if_icmp .ne (7), 3) := by decide +kernel
theorem d_Ways_distanceOf_16 : decode b_Ways_distanceOf 16 = .ok (.iconst (-1), 1) := by decide +kernel
theorem d_Ways_distanceOf_17 : decode b_Ways_distanceOf 17 = .ok (.goto (4), 3) := by decide +kernel
theorem d_Ways_distanceOf_20 : decode b_Ways_distanceOf 20 = .ok (.iload_n 3, 1) := by decide +kernel
theorem d_Ways_distanceOf_21 : decode b_Ways_distanceOf 21 = .ok (.ireturn, 1) := by decide +kernel
theorem k_Ways_distanceOf : Cond.code y_Ways_distanceOf b_Ways_distanceOf 4 (some .int) ∈ WS := ws_t 448 (by decide +kernel) (by decide +kernel)
theorem hd_Ways_distanceOf : y_Ways_distanceOf.cls = R_Ways ∧ y_Ways_distanceOf.cls ≠ "java/lang/invoke/MethodHandle" ∧ y_Ways_distanceOf.cls ≠ "java/lang/invoke/VarHandle" ∧ (parseMethodDescriptor y_Ways_distanceOf.desc).map (fun d => d.parameters.length) = some 2 := by decide +kernel
abbrev b_Ways_nextOf : ByteArray := prog_5_method_9_code
abbrev y_Ways_nextOf : MethodName := ⟨"LabelRoads$Ways", "nextOf", "(II)I"⟩
theorem d_Ways_nextOf_0 : decode b_Ways_nextOf 0 = .ok (.aload_n 0, 1) := by decide +kernel
theorem d_Ways_nextOf_1 : decode b_Ways_nextOf 1 = .ok (.getfield 30, 3) := by decide +kernel
theorem d_Ways_nextOf_4 : decode b_Ways_nextOf 4 = .ok (.iload_n 2, 1) := by decide +kernel
theorem d_Ways_nextOf_5 : decode b_Ways_nextOf 5 = .ok (.aaload, 1) := by decide +kernel
theorem d_Ways_nextOf_6 : decode b_Ways_nextOf 6 = .ok (.astore_n 3, 1) := by decide +kernel
theorem d_Ways_nextOf_7 : decode b_Ways_nextOf 7 = .ok (.iconst 0, 1) := by decide +kernel
theorem d_Ways_nextOf_8 : decode b_Ways_nextOf 8 = .ok (.istore 4, 2) := by decide +kernel
theorem d_Ways_nextOf_10 : decode b_Ways_nextOf 10 = .ok (.iload 4, 2) := by decide +kernel
theorem d_Ways_nextOf_12 : decode b_Ways_nextOf 12 = .ok (.aload_n 0, 1) := by decide +kernel
theorem d_Ways_nextOf_13 : decode b_Ways_nextOf 13 = .ok (.getfield 9, 3) := by decide +kernel
theorem d_Ways_nextOf_16 : decode b_Ways_nextOf 16 = .ok (.if_icmp .ge (42), 3) := by decide +kernel
theorem d_Ways_nextOf_19 : decode b_Ways_nextOf 19 = .ok (.aload_n 0, 1) := by decide +kernel
theorem d_Ways_nextOf_20 : decode b_Ways_nextOf 20 = .ok (.iload_n 1, 1) := by decide +kernel
theorem d_Ways_nextOf_21 : decode b_Ways_nextOf 21 = .ok (.iload 4, 2) := by decide +kernel
theorem d_Ways_nextOf_23 : decode b_Ways_nextOf 23 = .ok (.invokevirtual 37, 3) := by decide +kernel
theorem d_Ways_nextOf_26 : decode b_Ways_nextOf 26 = .ok (.ifCond .eq (26), 3) := by decide +kernel
theorem d_Ways_nextOf_29 : decode b_Ways_nextOf 29 = .ok (.aload_n 0, 1) := by decide +kernel
theorem d_Ways_nextOf_30 : decode b_Ways_nextOf 30 = .ok (.getfield 17, 3) := by decide +kernel
theorem d_Ways_nextOf_33 : decode b_Ways_nextOf 33 = .ok (.iload_n 1, 1) := by decide +kernel
theorem d_Ways_nextOf_34 : decode b_Ways_nextOf 34 = .ok (.aaload, 1) := by decide +kernel
theorem d_Ways_nextOf_35 : decode b_Ways_nextOf 35 = .ok (.iload 4, 2) := by decide +kernel
theorem d_Ways_nextOf_37 : decode b_Ways_nextOf 37 = .ok (.iaload, 1) := by decide +kernel
theorem d_Ways_nextOf_38 : decode b_Ways_nextOf 38 = .ok (.aload_n 3, 1) := by decide +kernel
theorem d_Ways_nextOf_39 : decode b_Ways_nextOf 39 = .ok (.iload 4, 2) := by decide +kernel
theorem d_Ways_nextOf_41 : decode b_Ways_nextOf 41 = .ok (.iaload, 1) := by decide +kernel
theorem d_Ways_nextOf_42 : decode b_Ways_nextOf 42 = .ok (.iadd, 1) := by decide +kernel
theorem d_Ways_nextOf_43 : decode b_Ways_nextOf 43 = .ok (.aload_n 3, 1) := by decide +kernel
theorem d_Ways_nextOf_44 : decode b_Ways_nextOf 44 = .ok (.iload_n 1, 1) := by decide +kernel
theorem d_Ways_nextOf_45 : decode b_Ways_nextOf 45 = .ok (.iaload, 1) := by decide +kernel
theorem d_Ways_nextOf_46 : decode b_Ways_nextOf 46 = .ok (.if_icmp .ne (6), 3) := by decide +kernel
theorem d_Ways_nextOf_49 : decode b_Ways_nextOf 49 = .ok (.iload 4, 2) := by decide +kernel
theorem d_Ways_nextOf_51 : decode b_Ways_nextOf 51 = .ok (.ireturn, 1) := by decide +kernel
theorem d_Ways_nextOf_52 : decode b_Ways_nextOf 52 = .ok (.iinc 4 (1), 3) := by decide +kernel
theorem d_Ways_nextOf_55 : decode b_Ways_nextOf 55 = .ok (.goto (-45), 3) := by decide +kernel
theorem d_Ways_nextOf_58 : decode b_Ways_nextOf 58 = .ok (.iconst (-1), 1) := by decide +kernel
theorem d_Ways_nextOf_59 : decode b_Ways_nextOf 59 = .ok (.ireturn, 1) := by decide +kernel
theorem k_Ways_nextOf : Cond.code y_Ways_nextOf b_Ways_nextOf 5 (some .int) ∈ WS := ws_t 330 (by decide +kernel) (by decide +kernel)
theorem hd_Ways_nextOf : y_Ways_nextOf.cls = R_Ways ∧ y_Ways_nextOf.cls ≠ "java/lang/invoke/MethodHandle" ∧ y_Ways_nextOf.cls ≠ "java/lang/invoke/VarHandle" ∧ (parseMethodDescriptor y_Ways_nextOf.desc).map (fun d => d.parameters.length) = some 2 := by decide +kernel
abbrev b_Arr_fill : ByteArray := prog_16_method_103_code
abbrev y_Arr_fill : MethodName := ⟨"java/util/Arrays", "fill", "([II)V"⟩
theorem d_Arr_fill_0 : decode b_Arr_fill 0 = .ok (.iconst 0, 1) := by decide +kernel
theorem d_Arr_fill_1 : decode b_Arr_fill 1 = .ok (.istore_n 2, 1) := by decide +kernel
theorem d_Arr_fill_2 : decode b_Arr_fill 2 = .ok (.aload_n 0, 1) := by decide +kernel
theorem d_Arr_fill_3 : decode b_Arr_fill 3 = .ok (.arraylength, 1) := by decide +kernel
theorem d_Arr_fill_4 : decode b_Arr_fill 4 = .ok (.istore_n 3, 1) := by decide +kernel
theorem d_Arr_fill_5 : decode b_Arr_fill 5 = .ok (.iload_n 2, 1) := by decide +kernel
theorem d_Arr_fill_6 : decode b_Arr_fill 6 = .ok (.iload_n 3, 1) := by decide +kernel
theorem d_Arr_fill_7 : decode b_Arr_fill 7 = .ok (.if_icmp .ge (13), 3) := by decide +kernel
theorem d_Arr_fill_10 : decode b_Arr_fill 10 = .ok (.aload_n 0, 1) := by decide +kernel
theorem d_Arr_fill_11 : decode b_Arr_fill 11 = .ok (.iload_n 2, 1) := by decide +kernel
theorem d_Arr_fill_12 : decode b_Arr_fill 12 = .ok (.iload_n 1, 1) := by decide +kernel
theorem d_Arr_fill_13 : decode b_Arr_fill 13 = .ok (.iastore, 1) := by decide +kernel
theorem d_Arr_fill_14 : decode b_Arr_fill 14 = .ok (.iinc 2 (1), 3) := by decide +kernel
theorem d_Arr_fill_17 : decode b_Arr_fill 17 = .ok (.goto (-12), 3) := by decide +kernel
theorem d_Arr_fill_20 : decode b_Arr_fill 20 = .ok (.return_, 1) := by decide +kernel
theorem k_Arr_fill : Cond.code y_Arr_fill b_Arr_fill 4 (none) ∈ WS := ws_t 40 (by decide +kernel) (by decide +kernel)
theorem hd_Arr_fill : y_Arr_fill.cls ≠ "java/lang/invoke/MethodHandle" ∧ y_Arr_fill.cls ≠ "java/lang/invoke/VarHandle" ∧ (parseMethodDescriptor y_Arr_fill.desc).map (fun d => d.parameters.length) = some 2 := by decide +kernel
abbrev b_Ways_lengthenWays : ByteArray := prog_5_method_11_code
abbrev y_Ways_lengthenWays : MethodName := ⟨"LabelRoads$Ways", "lengthenWays", "([I)V"⟩
theorem d_Ways_lengthenWays_0 : decode b_Ways_lengthenWays 0 = .ok (.iconst 0, 1) := by decide +kernel
theorem d_Ways_lengthenWays_1 : decode b_Ways_lengthenWays 1 = .ok (.istore_n 2, 1) := by decide +kernel
theorem d_Ways_lengthenWays_2 : decode b_Ways_lengthenWays 2 = .ok (.iload_n 2, 1) := by decide +kernel
theorem d_Ways_lengthenWays_3 : decode b_Ways_lengthenWays 3 = .ok (.aload_n 0, 1) := by decide +kernel
theorem d_Ways_lengthenWays_4 : decode b_Ways_lengthenWays 4 = .ok (.getfield 9, 3) := by decide +kernel
theorem d_Ways_lengthenWays_7 : decode b_Ways_lengthenWays 7 = .ok (.if_icmp .ge (55), 3) := by decide +kernel
theorem d_Ways_lengthenWays_10 : decode b_Ways_lengthenWays 10 = .ok (.iconst 0, 1) := by decide +kernel
theorem d_Ways_lengthenWays_11 : decode b_Ways_lengthenWays 11 = .ok (.istore_n 3, 1) := by decide +kernel
theorem d_Ways_lengthenWays_12 : decode b_Ways_lengthenWays 12 = .ok (.iload_n 3, 1) := by decide +kernel
theorem d_Ways_lengthenWays_13 : decode b_Ways_lengthenWays 13 = .ok (.aload_n 0, 1) := by decide +kernel
theorem d_Ways_lengthenWays_14 : decode b_Ways_lengthenWays 14 = .ok (.getfield 9, 3) := by decide +kernel
theorem d_Ways_lengthenWays_17 : decode b_Ways_lengthenWays 17 = .ok (.if_icmp .ge (39), 3) := by decide +kernel
theorem d_Ways_lengthenWays_20 : decode b_Ways_lengthenWays 20 = .ok (.aload_n 0, 1) := by decide +kernel
theorem d_Ways_lengthenWays_21 : decode b_Ways_lengthenWays 21 = .ok (.iload_n 2, 1) := by decide +kernel
theorem d_Ways_lengthenWays_22 : decode b_Ways_lengthenWays 22 = .ok (.iload_n 3, 1) := by decide +kernel
theorem d_Ways_lengthenWays_23 : decode b_Ways_lengthenWays 23 = .ok (.invokevirtual 37, 3) := by decide +kernel
theorem d_Ways_lengthenWays_26 : decode b_Ways_lengthenWays 26 = .ok (.ifCond .eq (24), 3) := by decide +kernel
theorem d_Ways_lengthenWays_29 : decode b_Ways_lengthenWays 29 = .ok (.aload_n 1, 1) := by decide +kernel
theorem d_Ways_lengthenWays_30 : decode b_Ways_lengthenWays 30 = .ok (.iload_n 2, 1) := by decide +kernel
theorem d_Ways_lengthenWays_31 : decode b_Ways_lengthenWays 31 = .ok (.aload_n 1, 1) := by decide +kernel
theorem d_Ways_lengthenWays_32 : decode b_Ways_lengthenWays 32 = .ok (.iload_n 2, 1) := by decide +kernel
theorem d_Ways_lengthenWays_33 : decode b_Ways_lengthenWays 33 = .ok (.iaload, 1) := by decide +kernel
theorem d_Ways_lengthenWays_34 : decode b_Ways_lengthenWays 34 = .ok (.aload_n 1, 1) := by decide +kernel
theorem d_Ways_lengthenWays_35 : decode b_Ways_lengthenWays 35 = .ok (.iload_n 3, 1) := by decide +kernel
theorem d_Ways_lengthenWays_36 : decode b_Ways_lengthenWays 36 = .ok (.iaload, 1) := by decide +kernel
theorem d_Ways_lengthenWays_37 : decode b_Ways_lengthenWays 37 = .ok (.aload_n 0, 1) := by decide +kernel
theorem d_Ways_lengthenWays_38 : decode b_Ways_lengthenWays 38 = .ok (.getfield 17, 3) := by decide +kernel
theorem d_Ways_lengthenWays_41 : decode b_Ways_lengthenWays 41 = .ok (.iload_n 2, 1) := by decide +kernel
theorem d_Ways_lengthenWays_42 : decode b_Ways_lengthenWays 42 = .ok (.aaload, 1) := by decide +kernel
theorem d_Ways_lengthenWays_43 : decode b_Ways_lengthenWays 43 = .ok (.iload_n 3, 1) := by decide +kernel
theorem d_Ways_lengthenWays_44 : decode b_Ways_lengthenWays 44 = .ok (.iaload, 1) := by decide +kernel
theorem d_Ways_lengthenWays_45 : decode b_Ways_lengthenWays 45 = .ok (.iadd, 1) := by decide +kernel
theorem d_Ways_lengthenWays_46 : decode b_Ways_lengthenWays 46 = .ok (.invokestatic 45, 3) := by decide +kernel
theorem d_Ways_lengthenWays_49 : decode b_Ways_lengthenWays 49 = .ok (.iastore, 1) := by decide +kernel
theorem d_Ways_lengthenWays_50 : decode b_Ways_lengthenWays 50 = .ok (.iinc 3 (1), 3) := by decide +kernel
theorem d_Ways_lengthenWays_53 : decode b_Ways_lengthenWays 53 = .ok (.goto (-41), 3) := by decide +kernel
theorem d_Ways_lengthenWays_56 : decode b_Ways_lengthenWays 56 = .ok (.iinc 2 (1), 3) := by decide +kernel
theorem d_Ways_lengthenWays_59 : decode b_Ways_lengthenWays 59 = .ok (.goto (-57), 3) := by decide +kernel
theorem d_Ways_lengthenWays_62 : decode b_Ways_lengthenWays 62 = .ok (.return_, 1) := by decide +kernel
theorem k_Ways_lengthenWays : Cond.code y_Ways_lengthenWays b_Ways_lengthenWays 4 (none) ∈ WS := ws_t 266 (by decide +kernel) (by decide +kernel)
theorem hd_Ways_lengthenWays : y_Ways_lengthenWays.cls = R_Ways ∧ y_Ways_lengthenWays.cls ≠ "java/lang/invoke/MethodHandle" ∧ y_Ways_lengthenWays.cls ≠ "java/lang/invoke/VarHandle" ∧ (parseMethodDescriptor y_Ways_lengthenWays.desc).map (fun d => d.parameters.length) = some 1 := by decide +kernel
abbrev b_Ways_measure : ByteArray := prog_5_method_10_code
abbrev y_Ways_measure : MethodName := ⟨"LabelRoads$Ways", "measure", "(I)V"⟩
theorem d_Ways_measure_0 : decode b_Ways_measure 0 = .ok (.aload_n 0, 1) := by decide +kernel
theorem d_Ways_measure_1 : decode b_Ways_measure 1 = .ok (.getfield 30, 3) := by decide +kernel
theorem d_Ways_measure_4 : decode b_Ways_measure 4 = .ok (.iload_n 1, 1) := by decide +kernel
theorem d_Ways_measure_5 : decode b_Ways_measure 5 = .ok (.aaload, 1) := by decide +kernel
theorem d_Ways_measure_6 : decode b_Ways_measure 6 = .ok (.astore_n 2, 1) := by decide +kernel
theorem d_Ways_measure_7 : decode b_Ways_measure 7 = .ok (.aload_n 2, 1) := by decide +kernel
theorem d_Ways_measure_8 : decode b_Ways_measure 8 = .ok (.sipush 1000, 3) := by decide +kernel
theorem d_Ways_measure_11 : decode b_Ways_measure 11 = .ok (.invokestatic 24, 3) := by decide +kernel
theorem d_Ways_measure_14 : decode b_Ways_measure 14 = .ok (.aload_n 0, 1) := by decide +kernel
theorem d_Ways_measure_15 : decode b_Ways_measure 15 = .ok (.getfield 20, 3) := by decide +kernel
theorem d_Ways_measure_18 : decode b_Ways_measure 18 = .ok (.iload_n 1, 1) := by decide +kernel
theorem d_Ways_measure_19 : decode b_Ways_measure 19 = .ok (.iaload, 1) := by decide +kernel
theorem d_Ways_measure_20 : decode b_Ways_measure 20 = .ok (.iconst (-1), 1) := by decide +kernel
theorem d_Ways_measure_21 : decode b_Ways_measure 21 = .ok (.if_icmp .ne (4), 3) := by decide +kernel
theorem d_Ways_measure_24 : decode b_Ways_measure 24 = .ok (.return_, 1) := by decide +kernel
theorem d_Ways_measure_25 : decode b_Ways_measure 25 = .ok (.aload_n 2, 1) := by decide +kernel
theorem d_Ways_measure_26 : decode b_Ways_measure 26 = .ok (.aload_n 0, 1) := by decide +kernel
theorem d_Ways_measure_27 : decode b_Ways_measure 27 = .ok (.getfield 20, 3) := by decide +kernel
theorem d_Ways_measure_30 : decode b_Ways_measure 30 = .ok (.iload_n 1, 1) := by decide +kernel
theorem d_Ways_measure_31 : decode b_Ways_measure 31 = .ok (.iaload, 1) := by decide +kernel
theorem d_Ways_measure_32 : decode b_Ways_measure 32 = .ok (.iconst 0, 1) := by decide +kernel
theorem d_Ways_measure_33 : decode b_Ways_measure 33 = .ok (.iastore, 1) := by decide +kernel
theorem d_Ways_measure_34 : decode b_Ways_measure 34 = .ok (.iconst 1, 1) := by decide +kernel
theorem d_Ways_measure_35 : decode b_Ways_measure 35 = .ok (.istore_n 3, 1) := by decide +kernel
theorem d_Ways_measure_36 : decode b_Ways_measure 36 = .ok (.iload_n 3, 1) := by decide +kernel
theorem d_Ways_measure_37 : decode b_Ways_measure 37 = .ok (.aload_n 0, 1) := by decide +kernel
theorem d_Ways_measure_38 : decode b_Ways_measure 38 = .ok (.getfield 9, 3) := by decide +kernel
theorem d_Ways_measure_41 : decode b_Ways_measure 41 = .ok (.if_icmp .ge (14), 3) := by decide +kernel
theorem d_Ways_measure_44 : decode b_Ways_measure 44 = .ok (.aload_n 0, 1) := by decide +kernel
theorem d_Ways_measure_45 : decode b_Ways_measure 45 = .ok (.aload_n 2, 1) := by decide +kernel
theorem d_Ways_measure_46 : decode b_Ways_measure 46 = .ok (.invokevirtual 41, 3) := by decide +kernel
theorem d_Ways_measure_49 : decode b_Ways_measure 49 = .ok (.iinc 3 (1), 3) := by decide +kernel
theorem d_Ways_measure_52 : decode b_Ways_measure 52 = .ok (.goto (-16), 3) := by decide +kernel
theorem d_Ways_measure_55 : decode b_Ways_measure 55 = .ok (.return_, 1) := by decide +kernel
theorem k_Ways_measure : Cond.code y_Ways_measure b_Ways_measure 4 (none) ∈ WS := ws_t 262 (by decide +kernel) (by decide +kernel)
theorem hd_Ways_measure : y_Ways_measure.cls = R_Ways ∧ y_Ways_measure.cls ≠ "java/lang/invoke/MethodHandle" ∧ y_Ways_measure.cls ≠ "java/lang/invoke/VarHandle" ∧ (parseMethodDescriptor y_Ways_measure.desc).map (fun d => d.parameters.length) = some 1 := by decide +kernel
abbrev b_Ways_setCost : ByteArray := prog_5_method_6_code
abbrev y_Ways_setCost : MethodName := ⟨"LabelRoads$Ways", "setCost", "(III)V"⟩
theorem d_Ways_setCost_0 : decode b_Ways_setCost 0 = .ok (.aload_n 0, 1) := by decide +kernel
theorem d_Ways_setCost_1 : decode b_Ways_setCost 1 = .ok (.getfield 17, 3) := by decide +kernel
theorem d_Ways_setCost_4 : decode b_Ways_setCost 4 = .ok (.iload_n 1, 1) := by decide +kernel
theorem d_Ways_setCost_5 : decode b_Ways_setCost 5 = .ok (.aaload, 1) := by decide +kernel
theorem d_Ways_setCost_6 : decode b_Ways_setCost 6 = .ok (.iload_n 2, 1) := by decide +kernel
theorem d_Ways_setCost_7 : decode b_Ways_setCost 7 = .ok (.iload_n 3, 1) := by decide +kernel
theorem d_Ways_setCost_8 : decode b_Ways_setCost 8 = .ok (.iastore, 1) := by decide +kernel
theorem d_Ways_setCost_9 : decode b_Ways_setCost 9 = .ok (.aload_n 0, 1) := by decide +kernel
theorem d_Ways_setCost_10 : decode b_Ways_setCost 10 = .ok (.getfield 17, 3) := by decide +kernel
theorem d_Ways_setCost_13 : decode b_Ways_setCost 13 = .ok (.iload_n 2, 1) := by decide +kernel
theorem d_Ways_setCost_14 : decode b_Ways_setCost 14 = .ok (.aaload, 1) := by decide +kernel
theorem d_Ways_setCost_15 : decode b_Ways_setCost 15 = .ok (.iload_n 1, 1) := by decide +kernel
theorem d_Ways_setCost_16 : decode b_Ways_setCost 16 = .ok (.iload_n 3, 1) := by decide +kernel
theorem d_Ways_setCost_17 : decode b_Ways_setCost 17 = .ok (.iastore, 1) := by decide +kernel
theorem d_Ways_setCost_18 : decode b_Ways_setCost 18 = .ok (.iconst 0, 1) := by decide +kernel
theorem d_Ways_setCost_19 : decode b_Ways_setCost 19 = .ok (.istore 4, 2) := by decide +kernel
theorem d_Ways_setCost_21 : decode b_Ways_setCost 21 = .ok (.iload 4, 2) := by decide +kernel
theorem d_Ways_setCost_23 : decode b_Ways_setCost 23 = .ok (.iconst 4, 1) := by decide +kernel
theorem d_Ways_setCost_24 : decode b_Ways_setCost 24 = .ok (.if_icmp .ge (15), 3) := by decide +kernel
theorem d_Ways_setCost_27 : decode b_Ways_setCost 27 = .ok (.aload_n 0, 1) := by decide +kernel
theorem d_Ways_setCost_28 : decode b_Ways_setCost 28 = .ok (.iload 4, 2) := by decide +kernel
theorem d_Ways_setCost_30 : decode b_Ways_setCost 30 = .ok (.invokevirtual 33, 3) := by decide +kernel
theorem d_Ways_setCost_33 : decode b_Ways_setCost 33 = .ok (.iinc 4 (1), 3) := by decide +kernel
theorem d_Ways_setCost_36 : decode b_Ways_setCost 36 = .ok (.goto (-15), 3) := by decide +kernel
theorem d_Ways_setCost_39 : decode b_Ways_setCost 39 = .ok (.return_, 1) := by decide +kernel
theorem k_Ways_setCost : Cond.code y_Ways_setCost b_Ways_setCost 5 (none) ∈ WS := ws_t 258 (by decide +kernel) (by decide +kernel)
theorem hd_Ways_setCost : y_Ways_setCost.cls = R_Ways ∧ y_Ways_setCost.cls ≠ "java/lang/invoke/MethodHandle" ∧ y_Ways_setCost.cls ≠ "java/lang/invoke/VarHandle" ∧ (parseMethodDescriptor y_Ways_setCost.desc).map (fun d => d.parameters.length) = some 3 := by decide +kernel
abbrev b_Ways_setOwner : ByteArray := prog_5_method_7_code
abbrev y_Ways_setOwner : MethodName := ⟨"LabelRoads$Ways", "setOwner", "(II)V"⟩
theorem d_Ways_setOwner_0 : decode b_Ways_setOwner 0 = .ok (.aload_n 0, 1) := by decide +kernel
theorem d_Ways_setOwner_1 : decode b_Ways_setOwner 1 = .ok (.getfield 20, 3) := by decide +kernel
theorem d_Ways_setOwner_4 : decode b_Ways_setOwner 4 = .ok (.iload_n 1, 1) := by decide +kernel
theorem d_Ways_setOwner_5 : decode b_Ways_setOwner 5 = .ok (.iload_n 2, 1) := by decide +kernel
theorem d_Ways_setOwner_6 : decode b_Ways_setOwner 6 = .ok (.iastore, 1) := by decide +kernel
theorem d_Ways_setOwner_7 : decode b_Ways_setOwner 7 = .ok (.aload_n 0, 1) := by decide +kernel
theorem d_Ways_setOwner_8 : decode b_Ways_setOwner 8 = .ok (.iload_n 1, 1) := by decide +kernel
theorem d_Ways_setOwner_9 : decode b_Ways_setOwner 9 = .ok (.invokevirtual 33, 3) := by decide +kernel
theorem d_Ways_setOwner_12 : decode b_Ways_setOwner 12 = .ok (.return_, 1) := by decide +kernel
theorem k_Ways_setOwner : Cond.code y_Ways_setOwner b_Ways_setOwner 3 (none) ∈ WS := ws_t 381 (by decide +kernel) (by decide +kernel)
theorem hd_Ways_setOwner : y_Ways_setOwner.cls = R_Ways ∧ y_Ways_setOwner.cls ≠ "java/lang/invoke/MethodHandle" ∧ y_Ways_setOwner.cls ≠ "java/lang/invoke/VarHandle" ∧ (parseMethodDescriptor y_Ways_setOwner.desc).map (fun d => d.parameters.length) = some 2 := by decide +kernel
end
section
abbrev b_Mail_kindOf : ByteArray := prog_2_method_2_code
abbrev y_Mail_kindOf : MethodName := ⟨"LabelRoads$Mail", "kindOf", "(I)I"⟩
theorem d_Mail_kindOf_0 : decode b_Mail_kindOf 0 = .ok (.iload_n 0, 1) := by decide +kernel
theorem d_Mail_kindOf_1 : decode b_Mail_kindOf 1 = .ok (.bipush 16, 2) := by decide +kernel
theorem d_Mail_kindOf_3 : decode b_Mail_kindOf 3 = .ok (.ishr, 1) := by decide +kernel
theorem d_Mail_kindOf_4 : decode b_Mail_kindOf 4 = .ok (.ireturn, 1) := by decide +kernel
theorem k_Mail_kindOf : Cond.code y_Mail_kindOf b_Mail_kindOf 1 (some .int) ∈ WS := ws_t 421 (by decide +kernel) (by decide +kernel)
theorem hd_Mail_kindOf : y_Mail_kindOf.cls ≠ "java/lang/invoke/MethodHandle" ∧ y_Mail_kindOf.cls ≠ "java/lang/invoke/VarHandle" ∧ (parseMethodDescriptor y_Mail_kindOf.desc).map (fun d => d.parameters.length) = some 1 := by decide +kernel
abbrev b_Mail_fromOf : ByteArray := prog_2_method_3_code
abbrev y_Mail_fromOf : MethodName := ⟨"LabelRoads$Mail", "fromOf", "(I)I"⟩
theorem d_Mail_fromOf_0 : decode b_Mail_fromOf 0 = .ok (.iload_n 0, 1) := by decide +kernel
theorem d_Mail_fromOf_1 : decode b_Mail_fromOf 1 = .ok (.bipush 12, 2) := by decide +kernel
theorem d_Mail_fromOf_3 : decode b_Mail_fromOf 3 = .ok (.ishr, 1) := by decide +kernel
theorem d_Mail_fromOf_4 : decode b_Mail_fromOf 4 = .ok (.bipush 15, 2) := by decide +kernel
theorem d_Mail_fromOf_6 : decode b_Mail_fromOf 6 = .ok (.iand, 1) := by decide +kernel
theorem d_Mail_fromOf_7 : decode b_Mail_fromOf 7 = .ok (.ireturn, 1) := by decide +kernel
theorem k_Mail_fromOf : Cond.code y_Mail_fromOf b_Mail_fromOf 1 (some .int) ∈ WS := ws_t 282 (by decide +kernel) (by decide +kernel)
theorem hd_Mail_fromOf : y_Mail_fromOf.cls ≠ "java/lang/invoke/MethodHandle" ∧ y_Mail_fromOf.cls ≠ "java/lang/invoke/VarHandle" ∧ (parseMethodDescriptor y_Mail_fromOf.desc).map (fun d => d.parameters.length) = some 1 := by decide +kernel
abbrev b_Mail_toOf : ByteArray := prog_2_method_4_code
abbrev y_Mail_toOf : MethodName := ⟨"LabelRoads$Mail", "toOf", "(I)I"⟩
theorem d_Mail_toOf_0 : decode b_Mail_toOf 0 = .ok (.iload_n 0, 1) := by decide +kernel
theorem d_Mail_toOf_1 : decode b_Mail_toOf 1 = .ok (.bipush 8, 2) := by decide +kernel
theorem d_Mail_toOf_3 : decode b_Mail_toOf 3 = .ok (.ishr, 1) := by decide +kernel
theorem d_Mail_toOf_4 : decode b_Mail_toOf 4 = .ok (.bipush 15, 2) := by decide +kernel
theorem d_Mail_toOf_6 : decode b_Mail_toOf 6 = .ok (.iand, 1) := by decide +kernel
theorem d_Mail_toOf_7 : decode b_Mail_toOf 7 = .ok (.ireturn, 1) := by decide +kernel
theorem k_Mail_toOf : Cond.code y_Mail_toOf b_Mail_toOf 1 (some .int) ∈ WS := ws_t 285 (by decide +kernel) (by decide +kernel)
theorem hd_Mail_toOf : y_Mail_toOf.cls ≠ "java/lang/invoke/MethodHandle" ∧ y_Mail_toOf.cls ≠ "java/lang/invoke/VarHandle" ∧ (parseMethodDescriptor y_Mail_toOf.desc).map (fun d => d.parameters.length) = some 1 := by decide +kernel
abbrev b_Mail_prefixOf : ByteArray := prog_2_method_5_code
abbrev y_Mail_prefixOf : MethodName := ⟨"LabelRoads$Mail", "prefixOf", "(I)I"⟩
theorem d_Mail_prefixOf_0 : decode b_Mail_prefixOf 0 = .ok (.iload_n 0, 1) := by decide +kernel
theorem d_Mail_prefixOf_1 : decode b_Mail_prefixOf 1 = .ok (.iconst 5, 1) := by decide +kernel
theorem d_Mail_prefixOf_2 : decode b_Mail_prefixOf 2 = .ok (.ishr, 1) := by decide +kernel
theorem d_Mail_prefixOf_3 : decode b_Mail_prefixOf 3 = .ok (.bipush 7, 2) := by decide +kernel
theorem d_Mail_prefixOf_5 : decode b_Mail_prefixOf 5 = .ok (.iand, 1) := by decide +kernel
theorem d_Mail_prefixOf_6 : decode b_Mail_prefixOf 6 = .ok (.ireturn, 1) := by decide +kernel
theorem k_Mail_prefixOf : Cond.code y_Mail_prefixOf b_Mail_prefixOf 1 (some .int) ∈ WS := ws_t 415 (by decide +kernel) (by decide +kernel)
theorem hd_Mail_prefixOf : y_Mail_prefixOf.cls ≠ "java/lang/invoke/MethodHandle" ∧ y_Mail_prefixOf.cls ≠ "java/lang/invoke/VarHandle" ∧ (parseMethodDescriptor y_Mail_prefixOf.desc).map (fun d => d.parameters.length) = some 1 := by decide +kernel
abbrev b_Mail_labelOf : ByteArray := prog_2_method_6_code
abbrev y_Mail_labelOf : MethodName := ⟨"LabelRoads$Mail", "labelOf", "(I)I"⟩
theorem d_Mail_labelOf_0 : decode b_Mail_labelOf 0 = .ok (.iload_n 0, 1) := by decide +kernel
theorem d_Mail_labelOf_1 : decode b_Mail_labelOf 1 = .ok (.bipush 31, 2) := by decide +kernel
theorem d_Mail_labelOf_3 : decode b_Mail_labelOf 3 = .ok (.iand, 1) := by decide +kernel
theorem d_Mail_labelOf_4 : decode b_Mail_labelOf 4 = .ok (.ireturn, 1) := by decide +kernel
theorem k_Mail_labelOf : Cond.code y_Mail_labelOf b_Mail_labelOf 1 (some .int) ∈ WS := ws_t 418 (by decide +kernel) (by decide +kernel)
theorem hd_Mail_labelOf : y_Mail_labelOf.cls ≠ "java/lang/invoke/MethodHandle" ∧ y_Mail_labelOf.cls ≠ "java/lang/invoke/VarHandle" ∧ (parseMethodDescriptor y_Mail_labelOf.desc).map (fun d => d.parameters.length) = some 1 := by decide +kernel
abbrev b_Mail_size : ByteArray := prog_2_method_7_code
abbrev y_Mail_size : MethodName := ⟨"LabelRoads$Mail", "size", "()I"⟩
theorem d_Mail_size_0 : decode b_Mail_size 0 = .ok (.aload_n 0, 1) := by decide +kernel
theorem d_Mail_size_1 : decode b_Mail_size 1 = .ok (.getfield 15, 3) := by decide +kernel
theorem d_Mail_size_4 : decode b_Mail_size 4 = .ok (.ireturn, 1) := by decide +kernel
theorem k_Mail_size : Cond.code y_Mail_size b_Mail_size 1 (some .int) ∈ WS := ws_t 144 (by decide +kernel) (by decide +kernel)
theorem hd_Mail_size : y_Mail_size.cls = R_Mail ∧ y_Mail_size.cls ≠ "java/lang/invoke/MethodHandle" ∧ y_Mail_size.cls ≠ "java/lang/invoke/VarHandle" ∧ (parseMethodDescriptor y_Mail_size.desc).map (fun d => d.parameters.length) = some 0 := by decide +kernel
abbrev b_Mail_lostCount : ByteArray := prog_2_method_8_code
abbrev y_Mail_lostCount : MethodName := ⟨"LabelRoads$Mail", "lostCount", "()I"⟩
theorem d_Mail_lostCount_0 : decode b_Mail_lostCount 0 = .ok (.aload_n 0, 1) := by decide +kernel
theorem d_Mail_lostCount_1 : decode b_Mail_lostCount 1 = .ok (.getfield 19, 3) := by decide +kernel
theorem d_Mail_lostCount_4 : decode b_Mail_lostCount 4 = .ok (.ireturn, 1) := by decide +kernel
theorem k_Mail_lostCount : Cond.code y_Mail_lostCount b_Mail_lostCount 1 (some .int) ∈ WS := ws_t 152 (by decide +kernel) (by decide +kernel)
theorem hd_Mail_lostCount : y_Mail_lostCount.cls = R_Mail ∧ y_Mail_lostCount.cls ≠ "java/lang/invoke/MethodHandle" ∧ y_Mail_lostCount.cls ≠ "java/lang/invoke/VarHandle" ∧ (parseMethodDescriptor y_Mail_lostCount.desc).map (fun d => d.parameters.length) = some 0 := by decide +kernel
abbrev b_Mail_post : ByteArray := prog_2_method_9_code
abbrev y_Mail_post : MethodName := ⟨"LabelRoads$Mail", "post", "(IIIII)V"⟩
theorem d_Mail_post_0 : decode b_Mail_post 0 = .ok (.aload_n 0, 1) := by decide +kernel
theorem d_Mail_post_1 : decode b_Mail_post 1 = .ok (.getfield 15, 3) := by decide +kernel
theorem d_Mail_post_4 : decode b_Mail_post 4 = .ok (.sipush 240, 3) := by decide +kernel
theorem d_Mail_post_7 : decode b_Mail_post 7 = .ok (.if_icmp .ne (14), 3) := by decide +kernel
theorem d_Mail_post_10 : decode b_Mail_post 10 = .ok (.aload_n 0, 1) := by decide +kernel
theorem d_Mail_post_11 : decode b_Mail_post 11 = .ok (.dup, 1) := by decide +kernel
theorem d_Mail_post_12 : decode b_Mail_post 12 = .ok (.getfield 19, 3) := by decide +kernel
theorem d_Mail_post_15 : decode b_Mail_post 15 = .ok (.iconst 1, 1) := by decide +kernel
theorem d_Mail_post_16 : decode b_Mail_post 16 = .ok (.iadd, 1) := by decide +kernel
theorem d_Mail_post_17 : decode b_Mail_post 17 = .ok (.putfield 19, 3) := by decide +kernel
theorem d_Mail_post_20 : decode b_Mail_post 20 = .ok (.return_, 1) := by decide +kernel
theorem d_Mail_post_21 : decode b_Mail_post 21 = .ok (.aload_n 0, 1) := by decide +kernel
theorem d_Mail_post_22 : decode b_Mail_post 22 = .ok (.getfield 9, 3) := by decide +kernel
theorem d_Mail_post_25 : decode b_Mail_post 25 = .ok (.aload_n 0, 1) := by decide +kernel
theorem d_Mail_post_26 : decode b_Mail_post 26 = .ok (.getfield 15, 3) := by decide +kernel
theorem d_Mail_post_29 : decode b_Mail_post 29 = .ok (.iload_n 1, 1) := by decide +kernel
theorem d_Mail_post_30 : decode b_Mail_post 30 = .ok (.bipush 16, 2) := by decide +kernel
theorem d_Mail_post_32 : decode b_Mail_post 32 = .ok (.ishl, 1) := by decide +kernel
theorem d_Mail_post_33 : decode b_Mail_post 33 = .ok (.iload_n 2, 1) := by decide +kernel
theorem d_Mail_post_34 : decode b_Mail_post 34 = .ok (.bipush 12, 2) := by decide +kernel
theorem d_Mail_post_36 : decode b_Mail_post 36 = .ok (.ishl, 1) := by decide +kernel
theorem d_Mail_post_37 : decode b_Mail_post 37 = .ok (.ior, 1) := by decide +kernel
theorem d_Mail_post_38 : decode b_Mail_post 38 = .ok (.iload_n 3, 1) := by decide +kernel
theorem d_Mail_post_39 : decode b_Mail_post 39 = .ok (.bipush 8, 2) := by decide +kernel
theorem d_Mail_post_41 : decode b_Mail_post 41 = .ok (.ishl, 1) := by decide +kernel
theorem d_Mail_post_42 : decode b_Mail_post 42 = .ok (.ior, 1) := by decide +kernel
theorem d_Mail_post_43 : decode b_Mail_post 43 = .ok (.iload 4, 2) := by decide +kernel
theorem d_Mail_post_45 : decode b_Mail_post 45 = .ok (.iconst 5, 1) := by decide +kernel
theorem d_Mail_post_46 : decode b_Mail_post 46 = .ok (.ishl, 1) := by decide +kernel
theorem d_Mail_post_47 : decode b_Mail_post 47 = .ok (.ior, 1) := by decide +kernel
theorem d_Mail_post_48 : decode b_Mail_post 48 = .ok (.iload 5, 2) := by decide +kernel
theorem d_Mail_post_50 : decode b_Mail_post 50 = .ok (.ior, 1) := by decide +kernel
theorem d_Mail_post_51 : decode b_Mail_post 51 = .ok (.iastore, 1) := by decide +kernel
theorem d_Mail_post_52 : decode b_Mail_post 52 = .ok (.aload_n 0, 1) := by decide +kernel
theorem d_Mail_post_53 : decode b_Mail_post 53 = .ok (.dup, 1) := by decide +kernel
theorem d_Mail_post_54 : decode b_Mail_post 54 = .ok (.getfield 15, 3) := by decide +kernel
theorem d_Mail_post_57 : decode b_Mail_post 57 = .ok (.iconst 1, 1) := by decide +kernel
theorem d_Mail_post_58 : decode b_Mail_post 58 = .ok (.iadd, 1) := by decide +kernel
theorem d_Mail_post_59 : decode b_Mail_post 59 = .ok (.putfield 15, 3) := by decide +kernel
theorem d_Mail_post_62 : decode b_Mail_post 62 = .ok (.return_, 1) := by decide +kernel
theorem k_Mail_post : Cond.code y_Mail_post b_Mail_post 6 (none) ∈ WS := ws_t 306 (by decide +kernel) (by decide +kernel)
theorem hd_Mail_post : y_Mail_post.cls = R_Mail ∧ y_Mail_post.cls ≠ "java/lang/invoke/MethodHandle" ∧ y_Mail_post.cls ≠ "java/lang/invoke/VarHandle" ∧ (parseMethodDescriptor y_Mail_post.desc).map (fun d => d.parameters.length) = some 5 := by decide +kernel
abbrev b_Mail_firstBetween : ByteArray := prog_2_method_10_code
abbrev y_Mail_firstBetween : MethodName := ⟨"LabelRoads$Mail", "firstBetween", "(II)I"⟩
theorem d_Mail_firstBetween_0 : decode b_Mail_firstBetween 0 = .ok (.iconst 0, 1) := by decide +kernel
theorem d_Mail_firstBetween_1 : decode b_Mail_firstBetween 1 = .ok (.istore_n 3, 1) := by decide +kernel
theorem d_Mail_firstBetween_2 : decode b_Mail_firstBetween 2 = .ok (.iload_n 3, 1) := by decide +kernel
theorem d_Mail_firstBetween_3 : decode b_Mail_firstBetween 3 = .ok (.aload_n 0, 1) := by decide +kernel
theorem d_Mail_firstBetween_4 : decode b_Mail_firstBetween 4 = .ok (.getfield 15, 3) := by decide +kernel
theorem d_Mail_firstBetween_7 : decode b_Mail_firstBetween 7 = .ok (.if_icmp .ge (37), 3) := by decide +kernel
theorem d_Mail_firstBetween_10 : decode b_Mail_firstBetween 10 = .ok (.aload_n 0, 1) := by decide +kernel
theorem d_Mail_firstBetween_11 : decode b_Mail_firstBetween 11 = .ok (.getfield 9, 3) := by decide +kernel
theorem d_Mail_firstBetween_14 : decode b_Mail_firstBetween 14 = .ok (.iload_n 3, 1) := by decide +kernel
theorem d_Mail_firstBetween_15 : decode b_Mail_firstBetween 15 = .ok (.iaload, 1) := by decide +kernel
theorem d_Mail_firstBetween_16 : decode b_Mail_firstBetween 16 = .ok (.invokestatic 22, 3) := by decide +kernel
theorem d_Mail_firstBetween_19 : decode b_Mail_firstBetween 19 = .ok (.iload_n 1, 1) := by decide +kernel
theorem d_Mail_firstBetween_20 : decode b_Mail_firstBetween 20 = .ok (.if_icmp .ne (18), 3) := by decide +kernel
theorem d_Mail_firstBetween_23 : decode b_Mail_firstBetween 23 = .ok (.aload_n 0, 1) := by decide +kernel
theorem d_Mail_firstBetween_24 : decode b_Mail_firstBetween 24 = .ok (.getfield 9, 3) := by decide +kernel
theorem d_Mail_firstBetween_27 : decode b_Mail_firstBetween 27 = .ok (.iload_n 3, 1) := by decide +kernel
theorem d_Mail_firstBetween_28 : decode b_Mail_firstBetween 28 = .ok (.iaload, 1) := by decide +kernel
theorem d_Mail_firstBetween_29 : decode b_Mail_firstBetween 29 = .ok (.invokestatic 26, 3) := by decide +kernel
theorem d_Mail_firstBetween_32 : decode b_Mail_firstBetween 32 = .ok (.iload_n 2, 1) := by decide +kernel
theorem d_Mail_firstBetween_33 : decode b_Mail_firstBetween 33 = .ok (.if_icmp .ne (5), 3) := by decide +kernel
theorem d_Mail_firstBetween_36 : decode b_Mail_firstBetween 36 = .ok (.iload_n 3, 1) := by decide +kernel
theorem d_Mail_firstBetween_37 : decode b_Mail_firstBetween 37 = .ok (.ireturn, 1) := by decide +kernel
theorem d_Mail_firstBetween_38 : decode b_Mail_firstBetween 38 = .ok (.iinc 3 (1), 3) := by decide +kernel
theorem d_Mail_firstBetween_41 : decode b_Mail_firstBetween 41 = .ok (.goto (-39), 3) := by decide +kernel
theorem d_Mail_firstBetween_44 : decode b_Mail_firstBetween 44 = .ok (.iconst (-1), 1) := by decide +kernel
theorem d_Mail_firstBetween_45 : decode b_Mail_firstBetween 45 = .ok (.ireturn, 1) := by decide +kernel
theorem k_Mail_firstBetween : Cond.code y_Mail_firstBetween b_Mail_firstBetween 4 (some .int) ∈ WS := ws_t 399 (by decide +kernel) (by decide +kernel)
theorem hd_Mail_firstBetween : y_Mail_firstBetween.cls = R_Mail ∧ y_Mail_firstBetween.cls ≠ "java/lang/invoke/MethodHandle" ∧ y_Mail_firstBetween.cls ≠ "java/lang/invoke/VarHandle" ∧ (parseMethodDescriptor y_Mail_firstBetween.desc).map (fun d => d.parameters.length) = some 2 := by decide +kernel
abbrev b_Mail_take : ByteArray := prog_2_method_11_code
abbrev y_Mail_take : MethodName := ⟨"LabelRoads$Mail", "take", "(I)I"⟩
theorem d_Mail_take_0 : decode b_Mail_take 0 = .ok (.aload_n 0, 1) := by decide +kernel
theorem d_Mail_take_1 : decode b_Mail_take 1 = .ok (.getfield 9, 3) := by decide +kernel
theorem d_Mail_take_4 : decode b_Mail_take 4 = .ok (.iload_n 1, 1) := by decide +kernel
theorem d_Mail_take_5 : decode b_Mail_take 5 = .ok (.iaload, 1) := by decide +kernel
theorem d_Mail_take_6 : decode b_Mail_take 6 = .ok (.istore_n 2, 1) := by decide +kernel
theorem d_Mail_take_7 : decode b_Mail_take 7 = .ok (.aload_n 0, 1) := by decide +kernel
theorem d_Mail_take_8 : decode b_Mail_take 8 = .ok (.dup, 1) := by decide +kernel
theorem d_Mail_take_9 : decode b_Mail_take 9 = .ok (.getfield 15, 3) := by decide +kernel
theorem d_Mail_take_12 : decode b_Mail_take 12 = .ok (.iconst 1, 1) := by decide +kernel
theorem d_Mail_take_13 : decode b_Mail_take 13 = .ok (.isub, 1) := by decide +kernel
theorem d_Mail_take_14 : decode b_Mail_take 14 = .ok (.putfield 15, 3) := by decide +kernel
theorem d_Mail_take_17 : decode b_Mail_take 17 = .ok (.aload_n 0, 1) := by decide +kernel
theorem d_Mail_take_18 : decode b_Mail_take 18 = .ok (.getfield 9, 3) := by decide +kernel
theorem d_Mail_take_21 : decode b_Mail_take 21 = .ok (.iload_n 1, 1) := by decide +kernel
theorem d_Mail_take_22 : decode b_Mail_take 22 = .ok (.iconst 1, 1) := by decide +kernel
theorem d_Mail_take_23 : decode b_Mail_take 23 = .ok (.iadd, 1) := by decide +kernel
theorem d_Mail_take_24 : decode b_Mail_take 24 = .ok (.aload_n 0, 1) := by decide +kernel
theorem d_Mail_take_25 : decode b_Mail_take 25 = .ok (.getfield 9, 3) := by decide +kernel
theorem d_Mail_take_28 : decode b_Mail_take 28 = .ok (.iload_n 1, 1) := by decide +kernel
theorem d_Mail_take_29 : decode b_Mail_take 29 = .ok (.aload_n 0, 1) := by decide +kernel
theorem d_Mail_take_30 : decode b_Mail_take 30 = .ok (.getfield 15, 3) := by decide +kernel
theorem d_Mail_take_33 : decode b_Mail_take 33 = .ok (.iload_n 1, 1) := by decide +kernel
theorem d_Mail_take_34 : decode b_Mail_take 34 = .ok (.isub, 1) := by decide +kernel
theorem d_Mail_take_35 : decode b_Mail_take 35 = .ok (.invokestatic 29, 3) := by decide +kernel
theorem d_Mail_take_38 : decode b_Mail_take 38 = .ok (.iload_n 2, 1) := by decide +kernel
theorem d_Mail_take_39 : decode b_Mail_take 39 = .ok (.ireturn, 1) := by decide +kernel
theorem k_Mail_take : Cond.code y_Mail_take b_Mail_take 3 (some .int) ∈ WS := ws_t 403 (by decide +kernel) (by decide +kernel)
theorem hd_Mail_take : y_Mail_take.cls = R_Mail ∧ y_Mail_take.cls ≠ "java/lang/invoke/MethodHandle" ∧ y_Mail_take.cls ≠ "java/lang/invoke/VarHandle" ∧ (parseMethodDescriptor y_Mail_take.desc).map (fun d => d.parameters.length) = some 1 := by decide +kernel
abbrev b_Mail_dropBetween : ByteArray := prog_2_method_12_code
abbrev y_Mail_dropBetween : MethodName := ⟨"LabelRoads$Mail", "dropBetween", "(II)V"⟩
theorem d_Mail_dropBetween_0 : decode b_Mail_dropBetween 0 = .ok (.iconst 0, 1) := by decide +kernel
theorem d_Mail_dropBetween_1 : decode b_Mail_dropBetween 1 = .ok (.istore_n 3, 1) := by decide +kernel
theorem d_Mail_dropBetween_2 : decode b_Mail_dropBetween 2 = .ok (.iconst 0, 1) := by decide +kernel
theorem d_Mail_dropBetween_3 : decode b_Mail_dropBetween 3 = .ok (.istore 4, 2) := by decide +kernel
theorem d_Mail_dropBetween_5 : decode b_Mail_dropBetween 5 = .ok (.iload 4, 2) := by decide +kernel
theorem d_Mail_dropBetween_7 : decode b_Mail_dropBetween 7 = .ok (.aload_n 0, 1) := by decide +kernel
theorem d_Mail_dropBetween_8 : decode b_Mail_dropBetween 8 = .ok (.getfield 15, 3) := by decide +kernel
theorem d_Mail_dropBetween_11 : decode b_Mail_dropBetween 11 = .ok (.if_icmp .ge (85), 3) := by decide +kernel
theorem d_Mail_dropBetween_14 : decode b_Mail_dropBetween 14 = .ok (.aload_n 0, 1) := by decide +kernel
theorem d_Mail_dropBetween_15 : decode b_Mail_dropBetween 15 = .ok (.getfield 9, 3) := by decide +kernel
theorem d_Mail_dropBetween_18 : decode b_Mail_dropBetween 18 = .ok (.iload 4, 2) := by decide +kernel
theorem d_Mail_dropBetween_20 : decode b_Mail_dropBetween 20 = .ok (.iaload, 1) := by decide +kernel
theorem d_Mail_dropBetween_21 : decode b_Mail_dropBetween 21 = .ok (.invokestatic 22, 3) := by decide +kernel
theorem d_Mail_dropBetween_24 : decode b_Mail_dropBetween 24 = .ok (.istore 5, 2) := by decide +kernel
theorem d_Mail_dropBetween_26 : decode b_Mail_dropBetween 26 = .ok (.aload_n 0, 1) := by decide +kernel
theorem d_Mail_dropBetween_27 : decode b_Mail_dropBetween 27 = .ok (.getfield 9, 3) := by decide +kernel
theorem d_Mail_dropBetween_30 : decode b_Mail_dropBetween 30 = .ok (.iload 4, 2) := by decide +kernel
theorem d_Mail_dropBetween_32 : decode b_Mail_dropBetween 32 = .ok (.iaload, 1) := by decide +kernel
theorem d_Mail_dropBetween_33 : decode b_Mail_dropBetween 33 = .ok (.invokestatic 26, 3) := by decide +kernel
theorem d_Mail_dropBetween_36 : decode b_Mail_dropBetween 36 = .ok (.istore 6, 2) := by decide +kernel
theorem d_Mail_dropBetween_38 : decode b_Mail_dropBetween 38 = .ok (.iload 5, 2) := by decide +kernel
theorem d_Mail_dropBetween_40 : decode b_Mail_dropBetween 40 = .ok (.iload_n 1, 1) := by decide +kernel
theorem d_Mail_dropBetween_41 : decode b_Mail_dropBetween 41 = .ok (.if_icmp .ne (9), 3) := by decide +kernel
theorem d_Mail_dropBetween_44 : decode b_Mail_dropBetween 44 = .ok (.iload 6, 2) := by decide +kernel
theorem d_Mail_dropBetween_46 : decode b_Mail_dropBetween 46 = .ok (.iload_n 2, 1) := by decide +kernel
theorem d_Mail_dropBetween_47 : decode b_Mail_dropBetween 47 = .ok (.if_icmp .eq (15), 3) := by decide +kernel
theorem d_Mail_dropBetween_50 : decode b_Mail_dropBetween 50 = .ok (.iload 5, 2) := by decide +kernel
theorem d_Mail_dropBetween_52 : decode b_Mail_dropBetween 52 = .ok (.iload_n 2, 1) := by decide +kernel
theorem d_Mail_dropBetween_53 : decode b_Mail_dropBetween 53 = .ok (.if_icmp .ne (13), 3) := by decide +kernel
theorem d_Mail_dropBetween_56 : decode b_Mail_dropBetween 56 = .ok (.iload 6, 2) := by decide +kernel
theorem d_Mail_dropBetween_58 : decode b_Mail_dropBetween 58 = .ok (.iload_n 1, 1) := by decide +kernel
theorem d_Mail_dropBetween_59 : decode b_Mail_dropBetween 59 = .ok (.if_icmp .ne (7), 3) := by decide +kernel
theorem d_Mail_dropBetween_62 : decode b_Mail_dropBetween 62 = .ok (.iconst 1, 1) := by decide +kernel
theorem d_Mail_dropBetween_63 : decode b_Mail_dropBetween 63 = .ok (.goto (4), 3) := by decide +kernel
theorem d_Mail_dropBetween_66 : decode b_Mail_dropBetween 66 = .ok (.iconst 0, 1) := by decide +kernel
theorem d_Mail_dropBetween_67 : decode b_Mail_dropBetween 67 = .ok (.istore 7, 2) := by decide +kernel
theorem d_Mail_dropBetween_69 : decode b_Mail_dropBetween 69 = .ok (.iload 7, 2) := by decide +kernel
theorem d_Mail_dropBetween_71 : decode b_Mail_dropBetween 71 = .ok (.ifCond .ne (19), 3) := by decide +kernel
theorem d_Mail_dropBetween_74 : decode b_Mail_dropBetween 74 = .ok (.aload_n 0, 1) := by decide +kernel
theorem d_Mail_dropBetween_75 : decode b_Mail_dropBetween 75 = .ok (.getfield 9, 3) := by decide +kernel
theorem d_Mail_dropBetween_78 : decode b_Mail_dropBetween 78 = .ok (.iload_n 3, 1) := by decide +kernel
theorem d_Mail_dropBetween_79 : decode b_Mail_dropBetween 79 = .ok (.aload_n 0, 1) := by decide +kernel
theorem d_Mail_dropBetween_80 : decode b_Mail_dropBetween 80 = .ok (.getfield 9, 3) := by decide +kernel
theorem d_Mail_dropBetween_83 : decode b_Mail_dropBetween 83 = .ok (.iload 4, 2) := by decide +kernel
theorem d_Mail_dropBetween_85 : decode b_Mail_dropBetween 85 = .ok (.iaload, 1) := by decide +kernel
theorem d_Mail_dropBetween_86 : decode b_Mail_dropBetween 86 = .ok (.iastore, 1) := by decide +kernel
theorem d_Mail_dropBetween_87 : decode b_Mail_dropBetween 87 = .ok (.iinc 3 (1), 3) := by decide +kernel
theorem d_Mail_dropBetween_90 : decode b_Mail_dropBetween 90 = .ok (.iinc 4 (1), 3) := by decide +kernel
theorem d_Mail_dropBetween_93 : decode b_Mail_dropBetween 93 = .ok (.goto (-88), 3) := by decide +kernel
theorem d_Mail_dropBetween_96 : decode b_Mail_dropBetween 96 = .ok (.aload_n 0, 1) := by decide +kernel
theorem d_Mail_dropBetween_97 : decode b_Mail_dropBetween 97 = .ok (.iload_n 3, 1) := by decide +kernel
theorem d_Mail_dropBetween_98 : decode b_Mail_dropBetween 98 = .ok (.putfield 15, 3) := by decide +kernel
theorem d_Mail_dropBetween_101 : decode b_Mail_dropBetween 101 = .ok (.return_, 1) := by decide +kernel
theorem k_Mail_dropBetween : Cond.code y_Mail_dropBetween b_Mail_dropBetween 8 (none) ∈ WS := ws_t 279 (by decide +kernel) (by decide +kernel)
theorem hd_Mail_dropBetween : y_Mail_dropBetween.cls = R_Mail ∧ y_Mail_dropBetween.cls ≠ "java/lang/invoke/MethodHandle" ∧ y_Mail_dropBetween.cls ≠ "java/lang/invoke/VarHandle" ∧ (parseMethodDescriptor y_Mail_dropBetween.desc).map (fun d => d.parameters.length) = some 2 := by decide +kernel
end
section
abbrev b_Router_labelOf : ByteArray := prog_4_method_2_code
abbrev y_Router_labelOf : MethodName := ⟨"LabelRoads$Router", "labelOf", "(I)I"⟩
theorem d_Router_labelOf_0 : decode b_Router_labelOf 0 = .ok (.aload_n 0, 1) := by decide +kernel
theorem d_Router_labelOf_1 : decode b_Router_labelOf 1 = .ok (.getfield 9, 3) := by decide +kernel
theorem d_Router_labelOf_4 : decode b_Router_labelOf 4 = .ok (.iload_n 1, 1) := by decide +kernel
theorem d_Router_labelOf_5 : decode b_Router_labelOf 5 = .ok (.iaload, 1) := by decide +kernel
theorem d_Router_labelOf_6 : decode b_Router_labelOf 6 = .ok (.ireturn, 1) := by decide +kernel
theorem k_Router_labelOf : Cond.code y_Router_labelOf b_Router_labelOf 2 (some .int) ∈ WS := ws_t 302 (by decide +kernel) (by decide +kernel)
theorem hd_Router_labelOf : y_Router_labelOf.cls = R_Router ∧ y_Router_labelOf.cls ≠ "java/lang/invoke/MethodHandle" ∧ y_Router_labelOf.cls ≠ "java/lang/invoke/VarHandle" ∧ (parseMethodDescriptor y_Router_labelOf.desc).map (fun d => d.parameters.length) = some 1 := by decide +kernel
abbrev b_Router_setLabel : ByteArray := prog_4_method_3_code
abbrev y_Router_setLabel : MethodName := ⟨"LabelRoads$Router", "setLabel", "(II)V"⟩
theorem d_Router_setLabel_0 : decode b_Router_setLabel 0 = .ok (.aload_n 0, 1) := by decide +kernel
theorem d_Router_setLabel_1 : decode b_Router_setLabel 1 = .ok (.getfield 9, 3) := by decide +kernel
theorem d_Router_setLabel_4 : decode b_Router_setLabel 4 = .ok (.iload_n 1, 1) := by decide +kernel
theorem d_Router_setLabel_5 : decode b_Router_setLabel 5 = .ok (.iload_n 2, 1) := by decide +kernel
theorem d_Router_setLabel_6 : decode b_Router_setLabel 6 = .ok (.iastore, 1) := by decide +kernel
theorem d_Router_setLabel_7 : decode b_Router_setLabel 7 = .ok (.return_, 1) := by decide +kernel
theorem k_Router_setLabel : Cond.code y_Router_setLabel b_Router_setLabel 3 (none) ∈ WS := ws_t 350 (by decide +kernel) (by decide +kernel)
theorem hd_Router_setLabel : y_Router_setLabel.cls = R_Router ∧ y_Router_setLabel.cls ≠ "java/lang/invoke/MethodHandle" ∧ y_Router_setLabel.cls ≠ "java/lang/invoke/VarHandle" ∧ (parseMethodDescriptor y_Router_setLabel.desc).map (fun d => d.parameters.length) = some 2 := by decide +kernel
abbrev b_Router_prefixOf : ByteArray := prog_4_method_4_code
abbrev y_Router_prefixOf : MethodName := ⟨"LabelRoads$Router", "prefixOf", "(I)I"⟩
theorem d_Router_prefixOf_0 : decode b_Router_prefixOf 0 = .ok (.iconst 0, 1) := by decide +kernel
theorem d_Router_prefixOf_1 : decode b_Router_prefixOf 1 = .ok (.istore_n 2, 1) := by decide +kernel
theorem d_Router_prefixOf_2 : decode b_Router_prefixOf 2 = .ok (.iload_n 2, 1) := by decide +kernel
theorem d_Router_prefixOf_3 : decode b_Router_prefixOf 3 = .ok (.iconst 4, 1) := by decide +kernel
theorem d_Router_prefixOf_4 : decode b_Router_prefixOf 4 = .ok (.if_icmp .ge (21), 3) := by decide +kernel
theorem d_Router_prefixOf_7 : decode b_Router_prefixOf 7 = .ok (.aload_n 0, 1) := by decide +kernel
theorem d_Router_prefixOf_8 : decode b_Router_prefixOf 8 = .ok (.getfield 9, 3) := by decide +kernel
theorem d_Router_prefixOf_11 : decode b_Router_prefixOf 11 = .ok (.iload_n 2, 1) := by decide +kernel
theorem d_Router_prefixOf_12 : decode b_Router_prefixOf 12 = .ok (.iaload, 1) := by decide +kernel
theorem d_Router_prefixOf_13 : decode b_Router_prefixOf 13 = .ok (.iload_n 1, 1) := by decide +kernel
theorem d_Router_prefixOf_14 : decode b_Router_prefixOf 14 = .ok (.if_icmp .ne (5), 3) := by decide +kernel
theorem d_Router_prefixOf_17 : decode b_Router_prefixOf 17 = .ok (.iload_n 2, 1) := by decide +kernel
theorem d_Router_prefixOf_18 : decode b_Router_prefixOf 18 = .ok (.ireturn, 1) := by decide +kernel
theorem d_Router_prefixOf_19 : decode b_Router_prefixOf 19 = .ok (.iinc 2 (1), 3) := by decide +kernel
theorem d_Router_prefixOf_22 : decode b_Router_prefixOf 22 = .ok (.goto (-20), 3) := by decide +kernel
theorem d_Router_prefixOf_25 : decode b_Router_prefixOf 25 = .ok (.iconst (-1), 1) := by decide +kernel
theorem d_Router_prefixOf_26 : decode b_Router_prefixOf 26 = .ok (.ireturn, 1) := by decide +kernel
theorem k_Router_prefixOf : Cond.code y_Router_prefixOf b_Router_prefixOf 3 (some .int) ∈ WS := ws_t 554 (by decide +kernel) (by decide +kernel)
theorem hd_Router_prefixOf : y_Router_prefixOf.cls = R_Router ∧ y_Router_prefixOf.cls ≠ "java/lang/invoke/MethodHandle" ∧ y_Router_prefixOf.cls ≠ "java/lang/invoke/VarHandle" ∧ (parseMethodDescriptor y_Router_prefixOf.desc).map (fun d => d.parameters.length) = some 1 := by decide +kernel
abbrev b_Router_takenBits : ByteArray := prog_4_method_7_code
abbrev y_Router_takenBits : MethodName := ⟨"LabelRoads$Router", "takenBits", "()I"⟩
theorem d_Router_takenBits_0 : decode b_Router_takenBits 0 = .ok (.iconst 0, 1) := by decide +kernel
theorem d_Router_takenBits_1 : decode b_Router_takenBits 1 = .ok (.istore_n 1, 1) := by decide +kernel
theorem d_Router_takenBits_2 : decode b_Router_takenBits 2 = .ok (.iconst 0, 1) := by decide +kernel
theorem d_Router_takenBits_3 : decode b_Router_takenBits 3 = .ok (.istore_n 2, 1) := by decide +kernel
theorem d_Router_takenBits_4 : decode b_Router_takenBits 4 = .ok (.iload_n 2, 1) := by decide +kernel
theorem d_Router_takenBits_5 : decode b_Router_takenBits 5 = .ok (.bipush 8, 2) := by decide +kernel
theorem d_Router_takenBits_7 : decode b_Router_takenBits 7 = .ok (.if_icmp .ge (24), 3) := by decide +kernel
theorem d_Router_takenBits_10 : decode b_Router_takenBits 10 = .ok (.aload_n 0, 1) := by decide +kernel
theorem d_Router_takenBits_11 : decode b_Router_takenBits 11 = .ok (.getfield 20, 3) := by decide +kernel
theorem d_Router_takenBits_14 : decode b_Router_takenBits 14 = .ok (.iload_n 2, 1) := by decide +kernel
theorem d_Router_takenBits_15 : decode b_Router_takenBits 15 = .ok (.iaload, 1) := by decide +kernel
theorem d_Router_takenBits_16 : decode b_Router_takenBits 16 = .ok (.ifCond .eq (9), 3) := by decide +kernel
theorem d_Router_takenBits_19 : decode b_Router_takenBits 19 = .ok (.iload_n 1, 1) := by decide +kernel
theorem d_Router_takenBits_20 : decode b_Router_takenBits 20 = .ok (.iconst 1, 1) := by decide +kernel
theorem d_Router_takenBits_21 : decode b_Router_takenBits 21 = .ok (.iload_n 2, 1) := by decide +kernel
theorem d_Router_takenBits_22 : decode b_Router_takenBits 22 = .ok (.ishl, 1) := by decide +kernel
theorem d_Router_takenBits_23 : decode b_Router_takenBits 23 = .ok (.ior, 1) := by decide +kernel
theorem d_Router_takenBits_24 : decode b_Router_takenBits 24 = .ok (.istore_n 1, 1) := by decide +kernel
theorem d_Router_takenBits_25 : decode b_Router_takenBits 25 = .ok (.iinc 2 (1), 3) := by decide +kernel
theorem d_Router_takenBits_28 : decode b_Router_takenBits 28 = .ok (.goto (-24), 3) := by decide +kernel
theorem d_Router_takenBits_31 : decode b_Router_takenBits 31 = .ok (.iconst 0, 1) := by decide +kernel
theorem d_Router_takenBits_32 : decode b_Router_takenBits 32 = .ok (.istore_n 2, 1) := by decide +kernel
theorem d_Router_takenBits_33 : decode b_Router_takenBits 33 = .ok (.iload_n 2, 1) := by decide +kernel
theorem d_Router_takenBits_34 : decode b_Router_takenBits 34 = .ok (.iconst 4, 1) := by decide +kernel
theorem d_Router_takenBits_35 : decode b_Router_takenBits 35 = .ok (.if_icmp .ge (32), 3) := by decide +kernel
theorem d_Router_takenBits_38 : decode b_Router_takenBits 38 = .ok (.aload_n 0, 1) := by decide +kernel
theorem d_Router_takenBits_39 : decode b_Router_takenBits 39 = .ok (.getfield 9, 3) := by decide +kernel
theorem d_Router_takenBits_42 : decode b_Router_takenBits 42 = .ok (.iload_n 2, 1) := by decide +kernel
theorem d_Router_takenBits_43 : decode b_Router_takenBits 43 = .ok (.iaload, 1) := by decide +kernel
theorem d_Router_takenBits_44 : decode b_Router_takenBits 44 = .ok (.ifCond .eq (17), 3) := by decide +kernel
theorem d_Router_takenBits_47 : decode b_Router_takenBits 47 = .ok (.iload_n 1, 1) := by decide +kernel
theorem d_Router_takenBits_48 : decode b_Router_takenBits 48 = .ok (.iconst 1, 1) := by decide +kernel
theorem d_Router_takenBits_49 : decode b_Router_takenBits 49 = .ok (.aload_n 0, 1) := by decide +kernel
theorem d_Router_takenBits_50 : decode b_Router_takenBits 50 = .ok (.getfield 9, 3) := by decide +kernel
theorem d_Router_takenBits_53 : decode b_Router_takenBits 53 = .ok (.iload_n 2, 1) := by decide +kernel
theorem d_Router_takenBits_54 : decode b_Router_takenBits 54 = .ok (.iaload, 1) := by decide +kernel
theorem d_Router_takenBits_55 : decode b_Router_takenBits 55 = .ok (.bipush 16, 2) := by decide +kernel
theorem d_Router_takenBits_57 : decode b_Router_takenBits 57 = .ok (.isub, 1) := by decide +kernel
theorem d_Router_takenBits_58 : decode b_Router_takenBits 58 = .ok (.ishl, 1) := by decide +kernel
theorem d_Router_takenBits_59 : decode b_Router_takenBits 59 = .ok (.ior, 1) := by decide +kernel
theorem d_Router_takenBits_60 : decode b_Router_takenBits 60 = .ok (.istore_n 1, 1) := by decide +kernel
theorem d_Router_takenBits_61 : decode b_Router_takenBits 61 = .ok (.iinc 2 (1), 3) := by decide +kernel
theorem d_Router_takenBits_64 : decode b_Router_takenBits 64 = .ok (.goto (-31), 3) := by decide +kernel
theorem d_Router_takenBits_67 : decode b_Router_takenBits 67 = .ok (.iload_n 1, 1) := by decide +kernel
theorem d_Router_takenBits_68 : decode b_Router_takenBits 68 = .ok (.ireturn, 1) := by decide +kernel
theorem k_Router_takenBits : Cond.code y_Router_takenBits b_Router_takenBits 3 (some .int) ∈ WS := ws_t 346 (by decide +kernel) (by decide +kernel)
theorem hd_Router_takenBits : y_Router_takenBits.cls = R_Router ∧ y_Router_takenBits.cls ≠ "java/lang/invoke/MethodHandle" ∧ y_Router_takenBits.cls ≠ "java/lang/invoke/VarHandle" ∧ (parseMethodDescriptor y_Router_takenBits.desc).map (fun d => d.parameters.length) = some 0 := by decide +kernel
abbrev b_Router_leastFree : ByteArray := prog_4_method_5_code
abbrev y_Router_leastFree : MethodName := ⟨"LabelRoads$Router", "leastFree", "()I"⟩
theorem d_Router_leastFree_0 : decode b_Router_leastFree 0 = .ok (.aload_n 0, 1) := by decide +kernel
theorem d_Router_leastFree_1 : decode b_Router_leastFree 1 = .ok (.invokevirtual 23, 3) := by decide +kernel
theorem d_Router_leastFree_4 : decode b_Router_leastFree 4 = .ok (.istore_n 1, 1) := by decide +kernel
theorem d_Router_leastFree_5 : decode b_Router_leastFree 5 = .ok (.iconst 0, 1) := by decide +kernel
theorem d_Router_leastFree_6 : decode b_Router_leastFree 6 = .ok (.istore_n 2, 1) := by decide +kernel
theorem d_Router_leastFree_7 : decode b_Router_leastFree 7 = .ok (.iload_n 2, 1) := by decide +kernel
theorem d_Router_leastFree_8 : decode b_Router_leastFree 8 = .ok (.bipush 8, 2) := by decide +kernel
theorem d_Router_leastFree_10 : decode b_Router_leastFree 10 = .ok (.if_icmp .ge (22), 3) := by decide +kernel
theorem d_Router_leastFree_13 : decode b_Router_leastFree 13 = .ok (.iload_n 1, 1) := by decide +kernel
theorem d_Router_leastFree_14 : decode b_Router_leastFree 14 = .ok (.iload_n 2, 1) := by decide +kernel
theorem d_Router_leastFree_15 : decode b_Router_leastFree 15 = .ok (.ishr, 1) := by decide +kernel
theorem d_Router_leastFree_16 : decode b_Router_leastFree 16 = .ok (.iconst 1, 1) := by decide +kernel
theorem d_Router_leastFree_17 : decode b_Router_leastFree 17 = .ok (.iand, 1) := by decide +kernel
theorem d_Router_leastFree_18 : decode b_Router_leastFree 18 = .ok (.ifCond .ne (8), 3) := by decide +kernel
theorem d_Router_leastFree_21 : decode b_Router_leastFree 21 = .ok (.bipush 16, 2) := by decide +kernel
theorem d_Router_leastFree_23 : decode b_Router_leastFree 23 = .ok (.iload_n 2, 1) := by decide +kernel
theorem d_Router_leastFree_24 : decode b_Router_leastFree 24 = .ok (.iadd, 1) := by decide +kernel
theorem d_Router_leastFree_25 : decode b_Router_leastFree 25 = .ok (.ireturn, 1) := by decide +kernel
theorem d_Router_leastFree_26 : decode b_Router_leastFree 26 = .ok (.iinc 2 (1), 3) := by decide +kernel
theorem d_Router_leastFree_29 : decode b_Router_leastFree 29 = .ok (.goto (-22), 3) := by decide +kernel
theorem d_Router_leastFree_32 : decode b_Router_leastFree 32 = .ok (.iconst 0, 1) := by decide +kernel
theorem d_Router_leastFree_33 : decode b_Router_leastFree 33 = .ok (.ireturn, 1) := by decide +kernel
theorem k_Router_leastFree : Cond.code y_Router_leastFree b_Router_leastFree 3 (some .int) ∈ WS := ws_t 342 (by decide +kernel) (by decide +kernel)
theorem hd_Router_leastFree : y_Router_leastFree.cls = R_Router ∧ y_Router_leastFree.cls ≠ "java/lang/invoke/MethodHandle" ∧ y_Router_leastFree.cls ≠ "java/lang/invoke/VarHandle" ∧ (parseMethodDescriptor y_Router_leastFree.desc).map (fun d => d.parameters.length) = some 0 := by decide +kernel
abbrev b_Int_bitCount : ByteArray := prog_10_method_49_code
abbrev y_Int_bitCount : MethodName := ⟨"java/lang/Integer", "bitCount", "(I)I"⟩
theorem d_Int_bitCount_0 : decode b_Int_bitCount 0 = .ok (.iload_n 0, 1) := by decide +kernel
theorem d_Int_bitCount_1 : decode b_Int_bitCount 1 = .ok (.iload_n 0, 1) := by decide +kernel
theorem d_Int_bitCount_2 : decode b_Int_bitCount 2 = .ok (.iconst 1, 1) := by decide +kernel
theorem d_Int_bitCount_3 : decode b_Int_bitCount 3 = .ok (.iushr, 1) := by decide +kernel
theorem d_Int_bitCount_4 : decode b_Int_bitCount 4 = .ok (.ldc_w 265, 3) := by decide +kernel
theorem d_Int_bitCount_7 : decode b_Int_bitCount 7 = .ok (.iand, 1) := by decide +kernel
theorem d_Int_bitCount_8 : decode b_Int_bitCount 8 = .ok (.isub, 1) := by decide +kernel
theorem d_Int_bitCount_9 : decode b_Int_bitCount 9 = .ok (.istore_n 0, 1) := by decide +kernel
theorem d_Int_bitCount_10 : decode b_Int_bitCount 10 = .ok (.iload_n 0, 1) := by decide +kernel
theorem d_Int_bitCount_11 : decode b_Int_bitCount 11 = .ok (.ldc_w 266, 3) := by decide +kernel
theorem d_Int_bitCount_14 : decode b_Int_bitCount 14 = .ok (.iand, 1) := by decide +kernel
theorem d_Int_bitCount_15 : decode b_Int_bitCount 15 = .ok (.iload_n 0, 1) := by decide +kernel
theorem d_Int_bitCount_16 : decode b_Int_bitCount 16 = .ok (.iconst 2, 1) := by decide +kernel
theorem d_Int_bitCount_17 : decode b_Int_bitCount 17 = .ok (.iushr, 1) := by decide +kernel
theorem d_Int_bitCount_18 : decode b_Int_bitCount 18 = .ok (.ldc_w 266, 3) := by decide +kernel
theorem d_Int_bitCount_21 : decode b_Int_bitCount 21 = .ok (.iand, 1) := by decide +kernel
theorem d_Int_bitCount_22 : decode b_Int_bitCount 22 = .ok (.iadd, 1) := by decide +kernel
theorem d_Int_bitCount_23 : decode b_Int_bitCount 23 = .ok (.istore_n 0, 1) := by decide +kernel
theorem d_Int_bitCount_24 : decode b_Int_bitCount 24 = .ok (.iload_n 0, 1) := by decide +kernel
theorem d_Int_bitCount_25 : decode b_Int_bitCount 25 = .ok (.iload_n 0, 1) := by decide +kernel
theorem d_Int_bitCount_26 : decode b_Int_bitCount 26 = .ok (.iconst 4, 1) := by decide +kernel
theorem d_Int_bitCount_27 : decode b_Int_bitCount 27 = .ok (.iushr, 1) := by decide +kernel
theorem d_Int_bitCount_28 : decode b_Int_bitCount 28 = .ok (.iadd, 1) := by decide +kernel
theorem d_Int_bitCount_29 : decode b_Int_bitCount 29 = .ok (.ldc_w 267, 3) := by decide +kernel
theorem d_Int_bitCount_32 : decode b_Int_bitCount 32 = .ok (.iand, 1) := by decide +kernel
theorem d_Int_bitCount_33 : decode b_Int_bitCount 33 = .ok (.istore_n 0, 1) := by decide +kernel
theorem d_Int_bitCount_34 : decode b_Int_bitCount 34 = .ok (.iload_n 0, 1) := by decide +kernel
theorem d_Int_bitCount_35 : decode b_Int_bitCount 35 = .ok (.iload_n 0, 1) := by decide +kernel
theorem d_Int_bitCount_36 : decode b_Int_bitCount 36 = .ok (.bipush 8, 2) := by decide +kernel
theorem d_Int_bitCount_38 : decode b_Int_bitCount 38 = .ok (.iushr, 1) := by decide +kernel
theorem d_Int_bitCount_39 : decode b_Int_bitCount 39 = .ok (.iadd, 1) := by decide +kernel
theorem d_Int_bitCount_40 : decode b_Int_bitCount 40 = .ok (.istore_n 0, 1) := by decide +kernel
theorem d_Int_bitCount_41 : decode b_Int_bitCount 41 = .ok (.iload_n 0, 1) := by decide +kernel
theorem d_Int_bitCount_42 : decode b_Int_bitCount 42 = .ok (.iload_n 0, 1) := by decide +kernel
theorem d_Int_bitCount_43 : decode b_Int_bitCount 43 = .ok (.bipush 16, 2) := by decide +kernel
theorem d_Int_bitCount_45 : decode b_Int_bitCount 45 = .ok (.iushr, 1) := by decide +kernel
theorem d_Int_bitCount_46 : decode b_Int_bitCount 46 = .ok (.iadd, 1) := by decide +kernel
theorem d_Int_bitCount_47 : decode b_Int_bitCount 47 = .ok (.istore_n 0, 1) := by decide +kernel
theorem d_Int_bitCount_48 : decode b_Int_bitCount 48 = .ok (.iload_n 0, 1) := by decide +kernel
theorem d_Int_bitCount_49 : decode b_Int_bitCount 49 = .ok (.bipush 63, 2) := by decide +kernel
theorem d_Int_bitCount_51 : decode b_Int_bitCount 51 = .ok (.iand, 1) := by decide +kernel
theorem d_Int_bitCount_52 : decode b_Int_bitCount 52 = .ok (.ireturn, 1) := by decide +kernel
theorem k_Int_bitCount : Cond.code y_Int_bitCount b_Int_bitCount 1 (some .int) ∈ WS := ws_t 483 (by decide +kernel) (by decide +kernel)
theorem hd_Int_bitCount : y_Int_bitCount.cls ≠ "java/lang/invoke/MethodHandle" ∧ y_Int_bitCount.cls ≠ "java/lang/invoke/VarHandle" ∧ (parseMethodDescriptor y_Int_bitCount.desc).map (fun d => d.parameters.length) = some 1 := by decide +kernel
abbrev b_Router_takenCount : ByteArray := prog_4_method_6_code
abbrev y_Router_takenCount : MethodName := ⟨"LabelRoads$Router", "takenCount", "()I"⟩
theorem d_Router_takenCount_0 : decode b_Router_takenCount 0 = .ok (.aload_n 0, 1) := by decide +kernel
theorem d_Router_takenCount_1 : decode b_Router_takenCount 1 = .ok (.invokevirtual 23, 3) := by decide +kernel
theorem d_Router_takenCount_4 : decode b_Router_takenCount 4 = .ok (.invokestatic 27, 3) := by decide +kernel
theorem d_Router_takenCount_7 : decode b_Router_takenCount 7 = .ok (.ireturn, 1) := by decide +kernel
theorem k_Router_takenCount : Cond.code y_Router_takenCount b_Router_takenCount 1 (some .int) ∈ WS := ws_t 480 (by decide +kernel) (by decide +kernel)
theorem hd_Router_takenCount : y_Router_takenCount.cls = R_Router ∧ y_Router_takenCount.cls ≠ "java/lang/invoke/MethodHandle" ∧ y_Router_takenCount.cls ≠ "java/lang/invoke/VarHandle" ∧ (parseMethodDescriptor y_Router_takenCount.desc).map (fun d => d.parameters.length) = some 0 := by decide +kernel
abbrev b_Router_awaitRelease : ByteArray := prog_4_method_8_code
abbrev y_Router_awaitRelease : MethodName := ⟨"LabelRoads$Router", "awaitRelease", "(II)V"⟩
theorem d_Router_awaitRelease_0 : decode b_Router_awaitRelease 0 = .ok (.aload_n 0, 1) := by decide +kernel
theorem d_Router_awaitRelease_1 : decode b_Router_awaitRelease 1 = .ok (.getfield 20, 3) := by decide +kernel
theorem d_Router_awaitRelease_4 : decode b_Router_awaitRelease 4 = .ok (.iload_n 1, 1) := by decide +kernel
theorem d_Router_awaitRelease_5 : decode b_Router_awaitRelease 5 = .ok (.bipush 16, 2) := by decide +kernel
theorem d_Router_awaitRelease_7 : decode b_Router_awaitRelease 7 = .ok (.isub, 1) := by decide +kernel
theorem d_Router_awaitRelease_8 : decode b_Router_awaitRelease 8 = .ok (.dup2, 1) := by decide +kernel
theorem d_Router_awaitRelease_9 : decode b_Router_awaitRelease 9 = .ok (.iaload, 1) := by decide +kernel
theorem d_Router_awaitRelease_10 : decode b_Router_awaitRelease 10 = .ok (.iconst 1, 1) := by decide +kernel
theorem d_Router_awaitRelease_11 : decode b_Router_awaitRelease 11 = .ok (.iload_n 2, 1) := by decide +kernel
theorem d_Router_awaitRelease_12 : decode b_Router_awaitRelease 12 = .ok (.ishl, 1) := by decide +kernel
theorem d_Router_awaitRelease_13 : decode b_Router_awaitRelease 13 = .ok (.ior, 1) := by decide +kernel
theorem d_Router_awaitRelease_14 : decode b_Router_awaitRelease 14 = .ok (.iastore, 1) := by decide +kernel
theorem d_Router_awaitRelease_15 : decode b_Router_awaitRelease 15 = .ok (.return_, 1) := by decide +kernel
theorem k_Router_awaitRelease : Cond.code y_Router_awaitRelease b_Router_awaitRelease 3 (none) ∈ WS := ws_t 359 (by decide +kernel) (by decide +kernel)
theorem hd_Router_awaitRelease : y_Router_awaitRelease.cls = R_Router ∧ y_Router_awaitRelease.cls ≠ "java/lang/invoke/MethodHandle" ∧ y_Router_awaitRelease.cls ≠ "java/lang/invoke/VarHandle" ∧ (parseMethodDescriptor y_Router_awaitRelease.desc).map (fun d => d.parameters.length) = some 2 := by decide +kernel
abbrev b_Router_endRelease : ByteArray := prog_4_method_9_code
abbrev y_Router_endRelease : MethodName := ⟨"LabelRoads$Router", "endRelease", "(II)V"⟩
theorem d_Router_endRelease_0 : decode b_Router_endRelease 0 = .ok (.aload_n 0, 1) := by decide +kernel
theorem d_Router_endRelease_1 : decode b_Router_endRelease 1 = .ok (.getfield 20, 3) := by decide +kernel
theorem d_Router_endRelease_4 : decode b_Router_endRelease 4 = .ok (.iload_n 1, 1) := by decide +kernel
theorem d_Router_endRelease_5 : decode b_Router_endRelease 5 = .ok (.bipush 16, 2) := by decide +kernel
theorem d_Router_endRelease_7 : decode b_Router_endRelease 7 = .ok (.isub, 1) := by decide +kernel
theorem d_Router_endRelease_8 : decode b_Router_endRelease 8 = .ok (.dup2, 1) := by decide +kernel
theorem d_Router_endRelease_9 : decode b_Router_endRelease 9 = .ok (.iaload, 1) := by decide +kernel
theorem d_Router_endRelease_10 : decode b_Router_endRelease 10 = .ok (.iconst 1, 1) := by decide +kernel
theorem d_Router_endRelease_11 : decode b_Router_endRelease 11 = .ok (.iload_n 2, 1) := by decide +kernel
theorem d_Router_endRelease_12 : decode b_Router_endRelease 12 = .ok (.ishl, 1) := by decide +kernel
theorem d_Router_endRelease_13 : decode b_Router_endRelease 13 = .ok (.iconst (-1), 1) := by decide +kernel
theorem d_Router_endRelease_14 : decode b_Router_endRelease 14 = .ok (.ixor, 1) := by decide +kernel
theorem d_Router_endRelease_15 : decode b_Router_endRelease 15 = .ok (.iand, 1) := by decide +kernel
theorem d_Router_endRelease_16 : decode b_Router_endRelease 16 = .ok (.iastore, 1) := by decide +kernel
theorem d_Router_endRelease_17 : decode b_Router_endRelease 17 = .ok (.return_, 1) := by decide +kernel
theorem k_Router_endRelease : Cond.code y_Router_endRelease b_Router_endRelease 3 (none) ∈ WS := ws_t 294 (by decide +kernel) (by decide +kernel)
theorem hd_Router_endRelease : y_Router_endRelease.cls = R_Router ∧ y_Router_endRelease.cls ≠ "java/lang/invoke/MethodHandle" ∧ y_Router_endRelease.cls ≠ "java/lang/invoke/VarHandle" ∧ (parseMethodDescriptor y_Router_endRelease.desc).map (fun d => d.parameters.length) = some 2 := by decide +kernel
abbrev b_Router_toldBy : ByteArray := prog_4_method_10_code
abbrev y_Router_toldBy : MethodName := ⟨"LabelRoads$Router", "toldBy", "(II)I"⟩
theorem d_Router_toldBy_0 : decode b_Router_toldBy 0 = .ok (.aload_n 0, 1) := by decide +kernel
theorem d_Router_toldBy_1 : decode b_Router_toldBy 1 = .ok (.getfield 17, 3) := by decide +kernel
theorem d_Router_toldBy_4 : decode b_Router_toldBy 4 = .ok (.iload_n 1, 1) := by decide +kernel
theorem d_Router_toldBy_5 : decode b_Router_toldBy 5 = .ok (.aaload, 1) := by decide +kernel
theorem d_Router_toldBy_6 : decode b_Router_toldBy 6 = .ok (.iload_n 2, 1) := by decide +kernel
theorem d_Router_toldBy_7 : decode b_Router_toldBy 7 = .ok (.iaload, 1) := by decide +kernel
theorem d_Router_toldBy_8 : decode b_Router_toldBy 8 = .ok (.ireturn, 1) := by decide +kernel
theorem k_Router_toldBy : Cond.code y_Router_toldBy b_Router_toldBy 3 (some .int) ∈ WS := ws_t 334 (by decide +kernel) (by decide +kernel)
theorem hd_Router_toldBy : y_Router_toldBy.cls = R_Router ∧ y_Router_toldBy.cls ≠ "java/lang/invoke/MethodHandle" ∧ y_Router_toldBy.cls ≠ "java/lang/invoke/VarHandle" ∧ (parseMethodDescriptor y_Router_toldBy.desc).map (fun d => d.parameters.length) = some 2 := by decide +kernel
abbrev b_Router_hear : ByteArray := prog_4_method_11_code
abbrev y_Router_hear : MethodName := ⟨"LabelRoads$Router", "hear", "(III)V"⟩
theorem d_Router_hear_0 : decode b_Router_hear 0 = .ok (.aload_n 0, 1) := by decide +kernel
theorem d_Router_hear_1 : decode b_Router_hear 1 = .ok (.getfield 17, 3) := by decide +kernel
theorem d_Router_hear_4 : decode b_Router_hear 4 = .ok (.iload_n 1, 1) := by decide +kernel
theorem d_Router_hear_5 : decode b_Router_hear 5 = .ok (.aaload, 1) := by decide +kernel
theorem d_Router_hear_6 : decode b_Router_hear 6 = .ok (.iload_n 2, 1) := by decide +kernel
theorem d_Router_hear_7 : decode b_Router_hear 7 = .ok (.iload_n 3, 1) := by decide +kernel
theorem d_Router_hear_8 : decode b_Router_hear 8 = .ok (.iastore, 1) := by decide +kernel
theorem d_Router_hear_9 : decode b_Router_hear 9 = .ok (.return_, 1) := by decide +kernel
theorem k_Router_hear : Cond.code y_Router_hear b_Router_hear 4 (none) ∈ WS := ws_t 425 (by decide +kernel) (by decide +kernel)
theorem hd_Router_hear : y_Router_hear.cls = R_Router ∧ y_Router_hear.cls ≠ "java/lang/invoke/MethodHandle" ∧ y_Router_hear.cls ≠ "java/lang/invoke/VarHandle" ∧ (parseMethodDescriptor y_Router_hear.desc).map (fun d => d.parameters.length) = some 3 := by decide +kernel
abbrev b_Router_unhear : ByteArray := prog_4_method_12_code
abbrev y_Router_unhear : MethodName := ⟨"LabelRoads$Router", "unhear", "(III)V"⟩
theorem d_Router_unhear_0 : decode b_Router_unhear 0 = .ok (.aload_n 0, 1) := by decide +kernel
theorem d_Router_unhear_1 : decode b_Router_unhear 1 = .ok (.getfield 17, 3) := by decide +kernel
theorem d_Router_unhear_4 : decode b_Router_unhear 4 = .ok (.iload_n 1, 1) := by decide +kernel
theorem d_Router_unhear_5 : decode b_Router_unhear 5 = .ok (.aaload, 1) := by decide +kernel
theorem d_Router_unhear_6 : decode b_Router_unhear 6 = .ok (.iload_n 2, 1) := by decide +kernel
theorem d_Router_unhear_7 : decode b_Router_unhear 7 = .ok (.iaload, 1) := by decide +kernel
theorem d_Router_unhear_8 : decode b_Router_unhear 8 = .ok (.iload_n 3, 1) := by decide +kernel
theorem d_Router_unhear_9 : decode b_Router_unhear 9 = .ok (.if_icmp .ne (12), 3) := by decide +kernel
theorem d_Router_unhear_12 : decode b_Router_unhear 12 = .ok (.aload_n 0, 1) := by decide +kernel
theorem d_Router_unhear_13 : decode b_Router_unhear 13 = .ok (.getfield 17, 3) := by decide +kernel
theorem d_Router_unhear_16 : decode b_Router_unhear 16 = .ok (.iload_n 1, 1) := by decide +kernel
theorem d_Router_unhear_17 : decode b_Router_unhear 17 = .ok (.aaload, 1) := by decide +kernel
theorem d_Router_unhear_18 : decode b_Router_unhear 18 = .ok (.iload_n 2, 1) := by decide +kernel
theorem d_Router_unhear_19 : decode b_Router_unhear 19 = .ok (.iconst 0, 1) := by decide +kernel
theorem d_Router_unhear_20 : decode b_Router_unhear 20 = .ok (.iastore, 1) := by decide +kernel
theorem d_Router_unhear_21 : decode b_Router_unhear 21 = .ok (.return_, 1) := by decide +kernel
theorem k_Router_unhear : Cond.code y_Router_unhear b_Router_unhear 4 (none) ∈ WS := ws_t 429 (by decide +kernel) (by decide +kernel)
theorem hd_Router_unhear : y_Router_unhear.cls = R_Router ∧ y_Router_unhear.cls ≠ "java/lang/invoke/MethodHandle" ∧ y_Router_unhear.cls ≠ "java/lang/invoke/VarHandle" ∧ (parseMethodDescriptor y_Router_unhear.desc).map (fun d => d.parameters.length) = some 3 := by decide +kernel
abbrev b_Router_forget : ByteArray := prog_4_method_13_code
abbrev y_Router_forget : MethodName := ⟨"LabelRoads$Router", "forget", "(I)V"⟩
theorem d_Router_forget_0 : decode b_Router_forget 0 = .ok (.aload_n 0, 1) := by decide +kernel
theorem d_Router_forget_1 : decode b_Router_forget 1 = .ok (.getfield 17, 3) := by decide +kernel
theorem d_Router_forget_4 : decode b_Router_forget 4 = .ok (.iload_n 1, 1) := by decide +kernel
theorem d_Router_forget_5 : decode b_Router_forget 5 = .ok (.aaload, 1) := by decide +kernel
theorem d_Router_forget_6 : decode b_Router_forget 6 = .ok (.iconst 0, 1) := by decide +kernel
theorem d_Router_forget_7 : decode b_Router_forget 7 = .ok (.invokestatic 33, 3) := by decide +kernel
theorem d_Router_forget_10 : decode b_Router_forget 10 = .ok (.iconst 0, 1) := by decide +kernel
theorem d_Router_forget_11 : decode b_Router_forget 11 = .ok (.istore_n 2, 1) := by decide +kernel
theorem d_Router_forget_12 : decode b_Router_forget 12 = .ok (.iload_n 2, 1) := by decide +kernel
theorem d_Router_forget_13 : decode b_Router_forget 13 = .ok (.bipush 8, 2) := by decide +kernel
theorem d_Router_forget_15 : decode b_Router_forget 15 = .ok (.if_icmp .ge (18), 3) := by decide +kernel
theorem d_Router_forget_18 : decode b_Router_forget 18 = .ok (.aload_n 0, 1) := by decide +kernel
theorem d_Router_forget_19 : decode b_Router_forget 19 = .ok (.bipush 16, 2) := by decide +kernel
theorem d_Router_forget_21 : decode b_Router_forget 21 = .ok (.iload_n 2, 1) := by decide +kernel
theorem d_Router_forget_22 : decode b_Router_forget 22 = .ok (.iadd, 1) := by decide +kernel
theorem d_Router_forget_23 : decode b_Router_forget 23 = .ok (.iload_n 1, 1) := by decide +kernel
theorem d_Router_forget_24 : decode b_Router_forget 24 = .ok (.invokevirtual 39, 3) := by decide +kernel
theorem d_Router_forget_27 : decode b_Router_forget 27 = .ok (.iinc 2 (1), 3) := by decide +kernel
theorem d_Router_forget_30 : decode b_Router_forget 30 = .ok (.goto (-18), 3) := by decide +kernel
theorem d_Router_forget_33 : decode b_Router_forget 33 = .ok (.return_, 1) := by decide +kernel
theorem k_Router_forget : Cond.code y_Router_forget b_Router_forget 3 (none) ∈ WS := ws_t 289 (by decide +kernel) (by decide +kernel)
theorem hd_Router_forget : y_Router_forget.cls = R_Router ∧ y_Router_forget.cls ≠ "java/lang/invoke/MethodHandle" ∧ y_Router_forget.cls ≠ "java/lang/invoke/VarHandle" ∧ (parseMethodDescriptor y_Router_forget.desc).map (fun d => d.parameters.length) = some 1 := by decide +kernel
end
section
abbrev b_Packet_isForService : ByteArray := prog_3_method_5_code
abbrev y_Packet_isForService : MethodName := ⟨"LabelRoads$Packet", "isForService", "()Z"⟩
theorem d_Packet_isForService_0 : decode b_Packet_isForService 0 = .ok (.aload_n 0, 1) := by decide +kernel
theorem d_Packet_isForService_1 : decode b_Packet_isForService 1 = .ok (.getfield 22, 3) := by decide +kernel
theorem d_Packet_isForService_4 : decode b_Packet_isForService 4 = .ok (.iconst (-1), 1) := by decide +kernel
theorem d_Packet_isForService_5 : decode b_Packet_isForService 5 = .ok (.if_icmp .eq (7), 3) := by decide +kernel
theorem d_Packet_isForService_8 : decode b_Packet_isForService 8 = .ok (.iconst 1, 1) := by decide +kernel
theorem d_Packet_isForService_9 : decode b_Packet_isForService 9 = .ok (.goto (4), 3) := by decide +kernel
theorem d_Packet_isForService_12 : decode b_Packet_isForService 12 = .ok (.iconst 0, 1) := by decide +kernel
theorem d_Packet_isForService_13 : decode b_Packet_isForService 13 = .ok (.ireturn, 1) := by decide +kernel
theorem k_Packet_isForService : Cond.code y_Packet_isForService b_Packet_isForService 1 (some .boolean) ∈ WS := ws_t 501 (by decide +kernel) (by decide +kernel)
theorem hd_Packet_isForService : y_Packet_isForService.cls = R_Packet ∧ y_Packet_isForService.cls ≠ "java/lang/invoke/MethodHandle" ∧ y_Packet_isForService.cls ≠ "java/lang/invoke/VarHandle" ∧ (parseMethodDescriptor y_Packet_isForService.desc).map (fun d => d.parameters.length) = some 0 := by decide +kernel
abbrev b_Packet_isAtLastHop : ByteArray := prog_3_method_6_code
abbrev y_Packet_isAtLastHop : MethodName := ⟨"LabelRoads$Packet", "isAtLastHop", "()Z"⟩
theorem d_Packet_isAtLastHop_0 : decode b_Packet_isAtLastHop 0 = .ok (.aload_n 0, 1) := by decide +kernel
theorem d_Packet_isAtLastHop_1 : decode b_Packet_isAtLastHop 1 = .ok (.getfield 25, 3) := by decide +kernel
theorem d_Packet_isAtLastHop_4 : decode b_Packet_isAtLastHop 4 = .ok (.iconst 1, 1) := by decide +kernel
theorem d_Packet_isAtLastHop_5 : decode b_Packet_isAtLastHop 5 = .ok (.if_icmp .gt (7), 3) := by decide +kernel
theorem d_Packet_isAtLastHop_8 : decode b_Packet_isAtLastHop 8 = .ok (.iconst 1, 1) := by decide +kernel
theorem d_Packet_isAtLastHop_9 : decode b_Packet_isAtLastHop 9 = .ok (.goto (4), 3) := by decide +kernel
theorem d_Packet_isAtLastHop_12 : decode b_Packet_isAtLastHop 12 = .ok (.iconst 0, 1) := by decide +kernel
theorem d_Packet_isAtLastHop_13 : decode b_Packet_isAtLastHop 13 = .ok (.ireturn, 1) := by decide +kernel
theorem k_Packet_isAtLastHop : Cond.code y_Packet_isAtLastHop b_Packet_isAtLastHop 1 (some .boolean) ∈ WS := ws_t 546 (by decide +kernel) (by decide +kernel)
theorem hd_Packet_isAtLastHop : y_Packet_isAtLastHop.cls = R_Packet ∧ y_Packet_isAtLastHop.cls ≠ "java/lang/invoke/MethodHandle" ∧ y_Packet_isAtLastHop.cls ≠ "java/lang/invoke/VarHandle" ∧ (parseMethodDescriptor y_Packet_isAtLastHop.desc).map (fun d => d.parameters.length) = some 0 := by decide +kernel
abbrev b_Packet_targetPrefix : ByteArray := prog_3_method_7_code
abbrev y_Packet_targetPrefix : MethodName := ⟨"LabelRoads$Packet", "targetPrefix", "()I"⟩
theorem d_Packet_targetPrefix_0 : decode b_Packet_targetPrefix 0 = .ok (.aload_n 0, 1) := by decide +kernel
theorem d_Packet_targetPrefix_1 : decode b_Packet_targetPrefix 1 = .ok (.getfield 18, 3) := by decide +kernel
theorem d_Packet_targetPrefix_4 : decode b_Packet_targetPrefix 4 = .ok (.ireturn, 1) := by decide +kernel
theorem k_Packet_targetPrefix : Cond.code y_Packet_targetPrefix b_Packet_targetPrefix 1 (some .int) ∈ WS := ws_t 530 (by decide +kernel) (by decide +kernel)
theorem hd_Packet_targetPrefix : y_Packet_targetPrefix.cls = R_Packet ∧ y_Packet_targetPrefix.cls ≠ "java/lang/invoke/MethodHandle" ∧ y_Packet_targetPrefix.cls ≠ "java/lang/invoke/VarHandle" ∧ (parseMethodDescriptor y_Packet_targetPrefix.desc).map (fun d => d.parameters.length) = some 0 := by decide +kernel
abbrev b_Packet_targetService : ByteArray := prog_3_method_8_code
abbrev y_Packet_targetService : MethodName := ⟨"LabelRoads$Packet", "targetService", "()I"⟩
theorem d_Packet_targetService_0 : decode b_Packet_targetService 0 = .ok (.aload_n 0, 1) := by decide +kernel
theorem d_Packet_targetService_1 : decode b_Packet_targetService 1 = .ok (.getfield 22, 3) := by decide +kernel
theorem d_Packet_targetService_4 : decode b_Packet_targetService 4 = .ok (.ireturn, 1) := by decide +kernel
theorem k_Packet_targetService : Cond.code y_Packet_targetService b_Packet_targetService 1 (some .int) ∈ WS := ws_t 538 (by decide +kernel) (by decide +kernel)
theorem hd_Packet_targetService : y_Packet_targetService.cls = R_Packet ∧ y_Packet_targetService.cls ≠ "java/lang/invoke/MethodHandle" ∧ y_Packet_targetService.cls ≠ "java/lang/invoke/VarHandle" ∧ (parseMethodDescriptor y_Packet_targetService.desc).map (fun d => d.parameters.length) = some 0 := by decide +kernel
abbrev b_Packet_topLabel : ByteArray := prog_3_method_9_code
abbrev y_Packet_topLabel : MethodName := ⟨"LabelRoads$Packet", "topLabel", "()I"⟩
theorem d_Packet_topLabel_0 : decode b_Packet_topLabel 0 = .ok (.aload_n 0, 1) := by decide +kernel
theorem d_Packet_topLabel_1 : decode b_Packet_topLabel 1 = .ok (.getfield 28, 3) := by decide +kernel
theorem d_Packet_topLabel_4 : decode b_Packet_topLabel 4 = .ok (.ireturn, 1) := by decide +kernel
theorem k_Packet_topLabel : Cond.code y_Packet_topLabel b_Packet_topLabel 1 (some .int) ∈ WS := ws_t 521 (by decide +kernel) (by decide +kernel)
theorem hd_Packet_topLabel : y_Packet_topLabel.cls = R_Packet ∧ y_Packet_topLabel.cls ≠ "java/lang/invoke/MethodHandle" ∧ y_Packet_topLabel.cls ≠ "java/lang/invoke/VarHandle" ∧ (parseMethodDescriptor y_Packet_topLabel.desc).map (fun d => d.parameters.length) = some 0 := by decide +kernel
abbrev b_Packet_place : ByteArray := prog_3_method_10_code
abbrev y_Packet_place : MethodName := ⟨"LabelRoads$Packet", "place", "()I"⟩
theorem d_Packet_place_0 : decode b_Packet_place 0 = .ok (.aload_n 0, 1) := by decide +kernel
theorem d_Packet_place_1 : decode b_Packet_place 1 = .ok (.getfield 9, 3) := by decide +kernel
theorem d_Packet_place_4 : decode b_Packet_place 4 = .ok (.aload_n 0, 1) := by decide +kernel
theorem d_Packet_place_5 : decode b_Packet_place 5 = .ok (.getfield 31, 3) := by decide +kernel
theorem d_Packet_place_8 : decode b_Packet_place 8 = .ok (.iconst 1, 1) := by decide +kernel
theorem d_Packet_place_9 : decode b_Packet_place 9 = .ok (.isub, 1) := by decide +kernel
theorem d_Packet_place_10 : decode b_Packet_place 10 = .ok (.iaload, 1) := by decide +kernel
theorem d_Packet_place_11 : decode b_Packet_place 11 = .ok (.ireturn, 1) := by decide +kernel
theorem k_Packet_place : Cond.code y_Packet_place b_Packet_place 1 (some .int) ∈ WS := ws_t 517 (by decide +kernel) (by decide +kernel)
theorem hd_Packet_place : y_Packet_place.cls = R_Packet ∧ y_Packet_place.cls ≠ "java/lang/invoke/MethodHandle" ∧ y_Packet_place.cls ≠ "java/lang/invoke/VarHandle" ∧ (parseMethodDescriptor y_Packet_place.desc).map (fun d => d.parameters.length) = some 0 := by decide +kernel
abbrev b_Packet_placeCount : ByteArray := prog_3_method_11_code
abbrev y_Packet_placeCount : MethodName := ⟨"LabelRoads$Packet", "placeCount", "()I"⟩
theorem d_Packet_placeCount_0 : decode b_Packet_placeCount 0 = .ok (.aload_n 0, 1) := by decide +kernel
theorem d_Packet_placeCount_1 : decode b_Packet_placeCount 1 = .ok (.getfield 31, 3) := by decide +kernel
theorem d_Packet_placeCount_4 : decode b_Packet_placeCount 4 = .ok (.ireturn, 1) := by decide +kernel
theorem k_Packet_placeCount : Cond.code y_Packet_placeCount b_Packet_placeCount 1 (some .int) ∈ WS := ws_t 160 (by decide +kernel) (by decide +kernel)
theorem hd_Packet_placeCount : y_Packet_placeCount.cls = R_Packet ∧ y_Packet_placeCount.cls ≠ "java/lang/invoke/MethodHandle" ∧ y_Packet_placeCount.cls ≠ "java/lang/invoke/VarHandle" ∧ (parseMethodDescriptor y_Packet_placeCount.desc).map (fun d => d.parameters.length) = some 0 := by decide +kernel
abbrev b_Packet_placeAt : ByteArray := prog_3_method_12_code
abbrev y_Packet_placeAt : MethodName := ⟨"LabelRoads$Packet", "placeAt", "(I)I"⟩
theorem d_Packet_placeAt_0 : decode b_Packet_placeAt 0 = .ok (.aload_n 0, 1) := by decide +kernel
theorem d_Packet_placeAt_1 : decode b_Packet_placeAt 1 = .ok (.getfield 9, 3) := by decide +kernel
theorem d_Packet_placeAt_4 : decode b_Packet_placeAt 4 = .ok (.iload_n 1, 1) := by decide +kernel
theorem d_Packet_placeAt_5 : decode b_Packet_placeAt 5 = .ok (.iaload, 1) := by decide +kernel
theorem d_Packet_placeAt_6 : decode b_Packet_placeAt 6 = .ok (.ireturn, 1) := by decide +kernel
theorem k_Packet_placeAt : Cond.code y_Packet_placeAt b_Packet_placeAt 2 (some .int) ∈ WS := ws_t 590 (by decide +kernel) (by decide +kernel)
theorem hd_Packet_placeAt : y_Packet_placeAt.cls = R_Packet ∧ y_Packet_placeAt.cls ≠ "java/lang/invoke/MethodHandle" ∧ y_Packet_placeAt.cls ≠ "java/lang/invoke/VarHandle" ∧ (parseMethodDescriptor y_Packet_placeAt.desc).map (fun d => d.parameters.length) = some 1 := by decide +kernel
abbrev b_Packet_entryAt : ByteArray := prog_3_method_13_code
abbrev y_Packet_entryAt : MethodName := ⟨"LabelRoads$Packet", "entryAt", "(I)I"⟩
theorem d_Packet_entryAt_0 : decode b_Packet_entryAt 0 = .ok (.aload_n 0, 1) := by decide +kernel
theorem d_Packet_entryAt_1 : decode b_Packet_entryAt 1 = .ok (.getfield 15, 3) := by decide +kernel
theorem d_Packet_entryAt_4 : decode b_Packet_entryAt 4 = .ok (.iload_n 1, 1) := by decide +kernel
theorem d_Packet_entryAt_5 : decode b_Packet_entryAt 5 = .ok (.iaload, 1) := by decide +kernel
theorem d_Packet_entryAt_6 : decode b_Packet_entryAt 6 = .ok (.ireturn, 1) := by decide +kernel
theorem k_Packet_entryAt : Cond.code y_Packet_entryAt b_Packet_entryAt 2 (some .int) ∈ WS := ws_t 601 (by decide +kernel) (by decide +kernel)
theorem hd_Packet_entryAt : y_Packet_entryAt.cls = R_Packet ∧ y_Packet_entryAt.cls ≠ "java/lang/invoke/MethodHandle" ∧ y_Packet_entryAt.cls ≠ "java/lang/invoke/VarHandle" ∧ (parseMethodDescriptor y_Packet_entryAt.desc).map (fun d => d.parameters.length) = some 1 := by decide +kernel
abbrev b_Packet_entryOf : ByteArray := prog_3_method_14_code
abbrev y_Packet_entryOf : MethodName := ⟨"LabelRoads$Packet", "entryOf", "(IZ)I"⟩
theorem d_Packet_entryOf_0 : decode b_Packet_entryOf 0 = .ok (.sipush 4096, 3) := by decide +kernel
theorem d_Packet_entryOf_3 : decode b_Packet_entryOf 3 = .ok (.iload_n 1, 1) := by decide +kernel
theorem d_Packet_entryOf_4 : decode b_Packet_entryOf 4 = .ok (.imul, 1) := by decide +kernel
theorem d_Packet_entryOf_5 : decode b_Packet_entryOf 5 = .ok (.iload_n 2, 1) := by decide +kernel
theorem d_Packet_entryOf_6 : decode b_Packet_entryOf 6 = .ok (.ifCond .eq (9), 3) := by decide +kernel
theorem d_Packet_entryOf_9 : decode b_Packet_entryOf 9 = .ok (.sipush 256, 3) := by decide +kernel
theorem d_Packet_entryOf_12 : decode b_Packet_entryOf 12 = .ok (.goto (4), 3) := by decide +kernel
theorem d_Packet_entryOf_15 : decode b_Packet_entryOf 15 = .ok (.iconst 0, 1) := by decide +kernel
theorem d_Packet_entryOf_16 : decode b_Packet_entryOf 16 = .ok (.iadd, 1) := by decide +kernel
theorem d_Packet_entryOf_17 : decode b_Packet_entryOf 17 = .ok (.aload_n 0, 1) := by decide +kernel
theorem d_Packet_entryOf_18 : decode b_Packet_entryOf 18 = .ok (.getfield 25, 3) := by decide +kernel
theorem d_Packet_entryOf_21 : decode b_Packet_entryOf 21 = .ok (.iadd, 1) := by decide +kernel
theorem d_Packet_entryOf_22 : decode b_Packet_entryOf 22 = .ok (.ireturn, 1) := by decide +kernel
theorem k_Packet_entryOf : Cond.code y_Packet_entryOf b_Packet_entryOf 3 (some .int) ∈ WS := ws_t 505 (by decide +kernel) (by decide +kernel)
theorem hd_Packet_entryOf : y_Packet_entryOf.cls = R_Packet ∧ y_Packet_entryOf.cls ≠ "java/lang/invoke/MethodHandle" ∧ y_Packet_entryOf.cls ≠ "java/lang/invoke/VarHandle" ∧ (parseMethodDescriptor y_Packet_entryOf.desc).map (fun d => d.parameters.length) = some 2 := by decide +kernel
abbrev b_Packet_note : ByteArray := prog_3_method_15_code
abbrev y_Packet_note : MethodName := ⟨"LabelRoads$Packet", "note", "(II)V"⟩
theorem d_Packet_note_0 : decode b_Packet_note 0 = .ok (.aload_n 0, 1) := by decide +kernel
theorem d_Packet_note_1 : decode b_Packet_note 1 = .ok (.getfield 9, 3) := by decide +kernel
theorem d_Packet_note_4 : decode b_Packet_note 4 = .ok (.aload_n 0, 1) := by decide +kernel
theorem d_Packet_note_5 : decode b_Packet_note 5 = .ok (.getfield 31, 3) := by decide +kernel
theorem d_Packet_note_8 : decode b_Packet_note 8 = .ok (.iload_n 1, 1) := by decide +kernel
theorem d_Packet_note_9 : decode b_Packet_note 9 = .ok (.iastore, 1) := by decide +kernel
theorem d_Packet_note_10 : decode b_Packet_note 10 = .ok (.aload_n 0, 1) := by decide +kernel
theorem d_Packet_note_11 : decode b_Packet_note 11 = .ok (.getfield 15, 3) := by decide +kernel
theorem d_Packet_note_14 : decode b_Packet_note 14 = .ok (.aload_n 0, 1) := by decide +kernel
theorem d_Packet_note_15 : decode b_Packet_note 15 = .ok (.getfield 31, 3) := by decide +kernel
theorem d_Packet_note_18 : decode b_Packet_note 18 = .ok (.iload_n 2, 1) := by decide +kernel
theorem d_Packet_note_19 : decode b_Packet_note 19 = .ok (.iastore, 1) := by decide +kernel
theorem d_Packet_note_20 : decode b_Packet_note 20 = .ok (.aload_n 0, 1) := by decide +kernel
theorem d_Packet_note_21 : decode b_Packet_note 21 = .ok (.dup, 1) := by decide +kernel
theorem d_Packet_note_22 : decode b_Packet_note 22 = .ok (.getfield 31, 3) := by decide +kernel
theorem d_Packet_note_25 : decode b_Packet_note 25 = .ok (.iconst 1, 1) := by decide +kernel
theorem d_Packet_note_26 : decode b_Packet_note 26 = .ok (.iadd, 1) := by decide +kernel
theorem d_Packet_note_27 : decode b_Packet_note 27 = .ok (.putfield 31, 3) := by decide +kernel
theorem d_Packet_note_30 : decode b_Packet_note 30 = .ok (.return_, 1) := by decide +kernel
theorem k_Packet_note : Cond.code y_Packet_note b_Packet_note 3 (none) ∈ WS := ws_t 509 (by decide +kernel) (by decide +kernel)
theorem hd_Packet_note : y_Packet_note.cls = R_Packet ∧ y_Packet_note.cls ≠ "java/lang/invoke/MethodHandle" ∧ y_Packet_note.cls ≠ "java/lang/invoke/VarHandle" ∧ (parseMethodDescriptor y_Packet_note.desc).map (fun d => d.parameters.length) = some 2 := by decide +kernel
abbrev b_Packet_begin : ByteArray := prog_3_method_2_code
abbrev y_Packet_begin : MethodName := ⟨"LabelRoads$Packet", "begin", "(IIII)V"⟩
theorem d_Packet_begin_0 : decode b_Packet_begin 0 = .ok (.aload_n 0, 1) := by decide +kernel
theorem d_Packet_begin_1 : decode b_Packet_begin 1 = .ok (.iload_n 2, 1) := by decide +kernel
theorem d_Packet_begin_2 : decode b_Packet_begin 2 = .ok (.putfield 18, 3) := by decide +kernel
theorem d_Packet_begin_5 : decode b_Packet_begin 5 = .ok (.aload_n 0, 1) := by decide +kernel
theorem d_Packet_begin_6 : decode b_Packet_begin 6 = .ok (.iload_n 3, 1) := by decide +kernel
theorem d_Packet_begin_7 : decode b_Packet_begin 7 = .ok (.putfield 22, 3) := by decide +kernel
theorem d_Packet_begin_10 : decode b_Packet_begin 10 = .ok (.aload_n 0, 1) := by decide +kernel
theorem d_Packet_begin_11 : decode b_Packet_begin 11 = .ok (.iload 4, 2) := by decide +kernel
theorem d_Packet_begin_13 : decode b_Packet_begin 13 = .ok (.putfield 25, 3) := by decide +kernel
theorem d_Packet_begin_16 : decode b_Packet_begin 16 = .ok (.aload_n 0, 1) := by decide +kernel
theorem d_Packet_begin_17 : decode b_Packet_begin 17 = .ok (.iconst 0, 1) := by decide +kernel
theorem d_Packet_begin_18 : decode b_Packet_begin 18 = .ok (.putfield 28, 3) := by decide +kernel
theorem d_Packet_begin_21 : decode b_Packet_begin 21 = .ok (.aload_n 0, 1) := by decide +kernel
theorem d_Packet_begin_22 : decode b_Packet_begin 22 = .ok (.iconst 0, 1) := by decide +kernel
theorem d_Packet_begin_23 : decode b_Packet_begin 23 = .ok (.putfield 31, 3) := by decide +kernel
theorem d_Packet_begin_26 : decode b_Packet_begin 26 = .ok (.aload_n 0, 1) := by decide +kernel
theorem d_Packet_begin_27 : decode b_Packet_begin 27 = .ok (.iload_n 1, 1) := by decide +kernel
theorem d_Packet_begin_28 : decode b_Packet_begin 28 = .ok (.aload_n 0, 1) := by decide +kernel
theorem d_Packet_begin_29 : decode b_Packet_begin 29 = .ok (.invokevirtual 34, 3) := by decide +kernel
theorem d_Packet_begin_32 : decode b_Packet_begin 32 = .ok (.ifCond .eq (18), 3) := by decide +kernel
theorem d_Packet_begin_35 : decode b_Packet_begin 35 = .ok (.aload_n 0, 1) := by decide +kernel
theorem d_Packet_begin_36 : decode b_Packet_begin 36 = .ok (.bipush 32, 2) := by decide +kernel
theorem d_Packet_begin_38 : decode b_Packet_begin 38 = .ok (.aload_n 0, 1) := by decide +kernel
theorem d_Packet_begin_39 : decode b_Packet_begin 39 = .ok (.getfield 22, 3) := by decide +kernel
theorem d_Packet_begin_42 : decode b_Packet_begin 42 = .ok (.iadd, 1) := by decide +kernel
theorem d_Packet_begin_43 : decode b_Packet_begin 43 = .ok (.iconst 1, 1) := by decide +kernel
theorem d_Packet_begin_44 : decode b_Packet_begin 44 = .ok (.invokevirtual 38, 3) := by decide +kernel
theorem d_Packet_begin_47 : decode b_Packet_begin 47 = .ok (.goto (4), 3) := by decide +kernel
theorem d_Packet_begin_50 : decode b_Packet_begin 50 = .ok (.iconst 0, 1) := by decide +kernel
theorem d_Packet_begin_51 : decode b_Packet_begin 51 = .ok (.invokevirtual 42, 3) := by decide +kernel
theorem d_Packet_begin_54 : decode b_Packet_begin 54 = .ok (.return_, 1) := by decide +kernel
theorem k_Packet_begin : Cond.code y_Packet_begin b_Packet_begin 5 (none) ∈ WS := ws_t 497 (by decide +kernel) (by decide +kernel)
theorem hd_Packet_begin : y_Packet_begin.cls = R_Packet ∧ y_Packet_begin.cls ≠ "java/lang/invoke/MethodHandle" ∧ y_Packet_begin.cls ≠ "java/lang/invoke/VarHandle" ∧ (parseMethodDescriptor y_Packet_begin.desc).map (fun d => d.parameters.length) = some 4 := by decide +kernel
abbrev b_Packet_moveTo : ByteArray := prog_3_method_3_code
abbrev y_Packet_moveTo : MethodName := ⟨"LabelRoads$Packet", "moveTo", "(II)V"⟩
theorem d_Packet_moveTo_0 : decode b_Packet_moveTo 0 = .ok (.aload_n 0, 1) := by decide +kernel
theorem d_Packet_moveTo_1 : decode b_Packet_moveTo 1 = .ok (.dup, 1) := by decide +kernel
theorem d_Packet_moveTo_2 : decode b_Packet_moveTo 2 = .ok (.getfield 25, 3) := by decide +kernel
theorem d_Packet_moveTo_5 : decode b_Packet_moveTo 5 = .ok (.iconst 1, 1) := by decide +kernel
theorem d_Packet_moveTo_6 : decode b_Packet_moveTo 6 = .ok (.isub, 1) := by decide +kernel
theorem d_Packet_moveTo_7 : decode b_Packet_moveTo 7 = .ok (.putfield 25, 3) := by decide +kernel
theorem d_Packet_moveTo_10 : decode b_Packet_moveTo 10 = .ok (.aload_n 0, 1) := by decide +kernel
theorem d_Packet_moveTo_11 : decode b_Packet_moveTo 11 = .ok (.iload_n 2, 1) := by decide +kernel
theorem d_Packet_moveTo_12 : decode b_Packet_moveTo 12 = .ok (.putfield 28, 3) := by decide +kernel
theorem d_Packet_moveTo_15 : decode b_Packet_moveTo 15 = .ok (.aload_n 0, 1) := by decide +kernel
theorem d_Packet_moveTo_16 : decode b_Packet_moveTo 16 = .ok (.iload_n 1, 1) := by decide +kernel
theorem d_Packet_moveTo_17 : decode b_Packet_moveTo 17 = .ok (.iload_n 2, 1) := by decide +kernel
theorem d_Packet_moveTo_18 : decode b_Packet_moveTo 18 = .ok (.ifCond .ne (7), 3) := by decide +kernel
theorem d_Packet_moveTo_21 : decode b_Packet_moveTo 21 = .ok (.iconst 0, 1) := by decide +kernel
theorem d_Packet_moveTo_22 : decode b_Packet_moveTo 22 = .ok (.goto (20), 3) := by decide +kernel
theorem d_Packet_moveTo_25 : decode b_Packet_moveTo 25 = .ok (.aload_n 0, 1) := by decide +kernel
theorem d_Packet_moveTo_26 : decode b_Packet_moveTo 26 = .ok (.iload_n 2, 1) := by decide +kernel
theorem d_Packet_moveTo_27 : decode b_Packet_moveTo 27 = .ok (.aload_n 0, 1) := by decide +kernel
theorem d_Packet_moveTo_28 : decode b_Packet_moveTo 28 = .ok (.invokevirtual 34, 3) := by decide +kernel
theorem d_Packet_moveTo_31 : decode b_Packet_moveTo 31 = .ok (.ifCond .ne (7), 3) := by decide +kernel
theorem d_Packet_moveTo_34 : decode b_Packet_moveTo 34 = .ok (.iconst 1, 1) := by decide +kernel
theorem d_Packet_moveTo_35 : decode b_Packet_moveTo 35 = .ok (.goto (4), 3) := by decide +kernel
theorem d_Packet_moveTo_38 : decode b_Packet_moveTo 38 = .ok (.iconst 0, 1) := by decide +kernel
theorem d_Packet_moveTo_39 : decode b_Packet_moveTo 39 = .ok (.invokevirtual 38, 3) := by decide +kernel
theorem d_Packet_moveTo_42 : decode b_Packet_moveTo 42 = .ok (.invokevirtual 42, 3) := by decide +kernel
theorem d_Packet_moveTo_45 : decode b_Packet_moveTo 45 = .ok (.return_, 1) := by decide +kernel
theorem k_Packet_moveTo : Cond.code y_Packet_moveTo b_Packet_moveTo 3 (none) ∈ WS := ws_t 550 (by decide +kernel) (by decide +kernel)
theorem hd_Packet_moveTo : y_Packet_moveTo.cls = R_Packet ∧ y_Packet_moveTo.cls ≠ "java/lang/invoke/MethodHandle" ∧ y_Packet_moveTo.cls ≠ "java/lang/invoke/VarHandle" ∧ (parseMethodDescriptor y_Packet_moveTo.desc).map (fun d => d.parameters.length) = some 2 := by decide +kernel
abbrev b_Packet_pop : ByteArray := prog_3_method_4_code
abbrev y_Packet_pop : MethodName := ⟨"LabelRoads$Packet", "pop", "()V"⟩
theorem d_Packet_pop_0 : decode b_Packet_pop 0 = .ok (.aload_n 0, 1) := by decide +kernel
theorem d_Packet_pop_1 : decode b_Packet_pop 1 = .ok (.iconst 0, 1) := by decide +kernel
theorem d_Packet_pop_2 : decode b_Packet_pop 2 = .ok (.putfield 28, 3) := by decide +kernel
theorem d_Packet_pop_5 : decode b_Packet_pop 5 = .ok (.return_, 1) := by decide +kernel
theorem k_Packet_pop : Cond.code y_Packet_pop b_Packet_pop 1 (none) ∈ WS := ws_t 558 (by decide +kernel) (by decide +kernel)
theorem hd_Packet_pop : y_Packet_pop.cls = R_Packet ∧ y_Packet_pop.cls ≠ "java/lang/invoke/MethodHandle" ∧ y_Packet_pop.cls ≠ "java/lang/invoke/VarHandle" ∧ (parseMethodDescriptor y_Packet_pop.desc).map (fun d => d.parameters.length) = some 0 := by decide +kernel
end
section
abbrev b_LR_checkRange : ByteArray := prog_1_method_18_code
abbrev y_LR_checkRange : MethodName := ⟨"LabelRoads", "checkRange", "(III)V"⟩
theorem d_LR_checkRange_0 : decode b_LR_checkRange 0 = .ok (.iload_n 0, 1) := by decide +kernel
theorem d_LR_checkRange_1 : decode b_LR_checkRange 1 = .ok (.iload_n 1, 1) := by decide +kernel
theorem d_LR_checkRange_2 : decode b_LR_checkRange 2 = .ok (.if_icmp .lt (8), 3) := by decide +kernel
theorem d_LR_checkRange_5 : decode b_LR_checkRange 5 = .ok (.iload_n 0, 1) := by decide +kernel
theorem d_LR_checkRange_6 : decode b_LR_checkRange 6 = .ok (.iload_n 2, 1) := by decide +kernel
theorem d_LR_checkRange_7 : decode b_LR_checkRange 7 = .ok (.if_icmp .le (13), 3) := by decide +kernel
theorem d_LR_checkRange_10 : decode b_LR_checkRange 10 = .ok (.new 153, 3) := by decide +kernel
theorem d_LR_checkRange_13 : decode b_LR_checkRange 13 = .ok (.dup, 1) := by decide +kernel
theorem d_LR_checkRange_14 : decode b_LR_checkRange 14 = .ok (.ldc 155, 2) := by decide +kernel
theorem d_LR_checkRange_16 : decode b_LR_checkRange 16 = .ok (.invokespecial 157, 3) := by decide +kernel
theorem d_LR_checkRange_19 : decode b_LR_checkRange 19 = .ok (.athrow, 1) := by decide +kernel
theorem d_LR_checkRange_20 : decode b_LR_checkRange 20 = .ok (.return_, 1) := by decide +kernel
theorem k_LR_checkRange : Cond.code y_LR_checkRange b_LR_checkRange 3 (none) ∈ WS := ws_t 182 (by decide +kernel) (by decide +kernel)
theorem hd_LR_checkRange : y_LR_checkRange.cls ≠ "java/lang/invoke/MethodHandle" ∧ y_LR_checkRange.cls ≠ "java/lang/invoke/VarHandle" ∧ (parseMethodDescriptor y_LR_checkRange.desc).map (fun d => d.parameters.length) = some 3 := by decide +kernel
abbrev b_LR_checkRouter : ByteArray := prog_1_method_19_code
abbrev y_LR_checkRouter : MethodName := ⟨"LabelRoads", "checkRouter", "(I)V"⟩
theorem d_LR_checkRouter_0 : decode b_LR_checkRouter 0 = .ok (.iload_n 1, 1) := by decide +kernel
theorem d_LR_checkRouter_1 : decode b_LR_checkRouter 1 = .ok (.iconst 0, 1) := by decide +kernel
theorem d_LR_checkRouter_2 : decode b_LR_checkRouter 2 = .ok (.aload_n 0, 1) := by decide +kernel
theorem d_LR_checkRouter_3 : decode b_LR_checkRouter 3 = .ok (.getfield 18, 3) := by decide +kernel
theorem d_LR_checkRouter_6 : decode b_LR_checkRouter 6 = .ok (.iconst 1, 1) := by decide +kernel
theorem d_LR_checkRouter_7 : decode b_LR_checkRouter 7 = .ok (.isub, 1) := by decide +kernel
theorem d_LR_checkRouter_8 : decode b_LR_checkRouter 8 = .ok (.invokestatic 66, 3) := by decide +kernel
theorem d_LR_checkRouter_11 : decode b_LR_checkRouter 11 = .ok (.return_, 1) := by decide +kernel
theorem k_LR_checkRouter : Cond.code y_LR_checkRouter b_LR_checkRouter 2 (none) ∈ WS := ws_t 179 (by decide +kernel) (by decide +kernel)
theorem hd_LR_checkRouter : y_LR_checkRouter.cls = R_LR ∧ y_LR_checkRouter.cls ≠ "java/lang/invoke/MethodHandle" ∧ y_LR_checkRouter.cls ≠ "java/lang/invoke/VarHandle" ∧ (parseMethodDescriptor y_LR_checkRouter.desc).map (fun d => d.parameters.length) = some 1 := by decide +kernel
abbrev b_LR_checkRouterOrNone : ByteArray := prog_1_method_20_code
abbrev y_LR_checkRouterOrNone : MethodName := ⟨"LabelRoads", "checkRouterOrNone", "(I)V"⟩
theorem d_LR_checkRouterOrNone_0 : decode b_LR_checkRouterOrNone 0 = .ok (.iload_n 1, 1) := by decide +kernel
theorem d_LR_checkRouterOrNone_1 : decode b_LR_checkRouterOrNone 1 = .ok (.iconst (-1), 1) := by decide +kernel
theorem d_LR_checkRouterOrNone_2 : decode b_LR_checkRouterOrNone 2 = .ok (.aload_n 0, 1) := by decide +kernel
theorem d_LR_checkRouterOrNone_3 : decode b_LR_checkRouterOrNone 3 = .ok (.getfield 18, 3) := by decide +kernel
theorem d_LR_checkRouterOrNone_6 : decode b_LR_checkRouterOrNone 6 = .ok (.iconst 1, 1) := by decide +kernel
theorem d_LR_checkRouterOrNone_7 : decode b_LR_checkRouterOrNone 7 = .ok (.isub, 1) := by decide +kernel
theorem d_LR_checkRouterOrNone_8 : decode b_LR_checkRouterOrNone 8 = .ok (.invokestatic 66, 3) := by decide +kernel
theorem d_LR_checkRouterOrNone_11 : decode b_LR_checkRouterOrNone 11 = .ok (.return_, 1) := by decide +kernel
theorem k_LR_checkRouterOrNone : Cond.code y_LR_checkRouterOrNone b_LR_checkRouterOrNone 2 (none) ∈ WS := ws_t 373 (by decide +kernel) (by decide +kernel)
theorem hd_LR_checkRouterOrNone : y_LR_checkRouterOrNone.cls = R_LR ∧ y_LR_checkRouterOrNone.cls ≠ "java/lang/invoke/MethodHandle" ∧ y_LR_checkRouterOrNone.cls ≠ "java/lang/invoke/VarHandle" ∧ (parseMethodDescriptor y_LR_checkRouterOrNone.desc).map (fun d => d.parameters.length) = some 1 := by decide +kernel
abbrev b_LR_checkTwoRouters : ByteArray := prog_1_method_21_code
abbrev y_LR_checkTwoRouters : MethodName := ⟨"LabelRoads", "checkTwoRouters", "(II)V"⟩
theorem d_LR_checkTwoRouters_0 : decode b_LR_checkTwoRouters 0 = .ok (.aload_n 0, 1) := by decide +kernel
theorem d_LR_checkTwoRouters_1 : decode b_LR_checkTwoRouters 1 = .ok (.iload_n 1, 1) := by decide +kernel
theorem d_LR_checkTwoRouters_2 : decode b_LR_checkTwoRouters 2 = .ok (.invokevirtual 116, 3) := by decide +kernel
theorem d_LR_checkTwoRouters_5 : decode b_LR_checkTwoRouters 5 = .ok (.aload_n 0, 1) := by decide +kernel
theorem d_LR_checkTwoRouters_6 : decode b_LR_checkTwoRouters 6 = .ok (.iload_n 2, 1) := by decide +kernel
theorem d_LR_checkTwoRouters_7 : decode b_LR_checkTwoRouters 7 = .ok (.invokevirtual 116, 3) := by decide +kernel
theorem d_LR_checkTwoRouters_10 : decode b_LR_checkTwoRouters 10 = .ok (.iload_n 1, 1) := by decide +kernel
theorem d_LR_checkTwoRouters_11 : decode b_LR_checkTwoRouters 11 = .ok (.iload_n 2, 1) := by decide +kernel
theorem d_LR_checkTwoRouters_12 : decode b_LR_checkTwoRouters 12 = .ok (.if_icmp .ne (13), 3) := by decide +kernel
theorem d_LR_checkTwoRouters_15 : decode b_LR_checkTwoRouters 15 = .ok (.new 153, 3) := by decide +kernel
theorem d_LR_checkTwoRouters_18 : decode b_LR_checkTwoRouters 18 = .ok (.dup, 1) := by decide +kernel
theorem d_LR_checkTwoRouters_19 : decode b_LR_checkTwoRouters 19 = .ok (.ldc 160, 2) := by decide +kernel
theorem d_LR_checkTwoRouters_21 : decode b_LR_checkTwoRouters 21 = .ok (.invokespecial 157, 3) := by decide +kernel
theorem d_LR_checkTwoRouters_24 : decode b_LR_checkTwoRouters 24 = .ok (.athrow, 1) := by decide +kernel
theorem d_LR_checkTwoRouters_25 : decode b_LR_checkTwoRouters 25 = .ok (.return_, 1) := by decide +kernel
theorem k_LR_checkTwoRouters : Cond.code y_LR_checkTwoRouters b_LR_checkTwoRouters 3 (none) ∈ WS := ws_t 175 (by decide +kernel) (by decide +kernel)
theorem hd_LR_checkTwoRouters : y_LR_checkTwoRouters.cls = R_LR ∧ y_LR_checkTwoRouters.cls ≠ "java/lang/invoke/MethodHandle" ∧ y_LR_checkTwoRouters.cls ≠ "java/lang/invoke/VarHandle" ∧ (parseMethodDescriptor y_LR_checkTwoRouters.desc).map (fun d => d.parameters.length) = some 2 := by decide +kernel
abbrev b_LR_checkPrefix : ByteArray := prog_1_method_22_code
abbrev y_LR_checkPrefix : MethodName := ⟨"LabelRoads", "checkPrefix", "(I)V"⟩
theorem d_LR_checkPrefix_0 : decode b_LR_checkPrefix 0 = .ok (.iload_n 0, 1) := by decide +kernel
theorem d_LR_checkPrefix_1 : decode b_LR_checkPrefix 1 = .ok (.iconst 0, 1) := by decide +kernel
theorem d_LR_checkPrefix_2 : decode b_LR_checkPrefix 2 = .ok (.iconst 3, 1) := by decide +kernel
theorem d_LR_checkPrefix_3 : decode b_LR_checkPrefix 3 = .ok (.invokestatic 66, 3) := by decide +kernel
theorem d_LR_checkPrefix_6 : decode b_LR_checkPrefix 6 = .ok (.return_, 1) := by decide +kernel
theorem k_LR_checkPrefix : Cond.code y_LR_checkPrefix b_LR_checkPrefix 1 (none) ∈ WS := ws_t 369 (by decide +kernel) (by decide +kernel)
theorem hd_LR_checkPrefix : y_LR_checkPrefix.cls ≠ "java/lang/invoke/MethodHandle" ∧ y_LR_checkPrefix.cls ≠ "java/lang/invoke/VarHandle" ∧ (parseMethodDescriptor y_LR_checkPrefix.desc).map (fun d => d.parameters.length) = some 1 := by decide +kernel
abbrev b_LR_checkHop : ByteArray := prog_1_method_23_code
abbrev y_LR_checkHop : MethodName := ⟨"LabelRoads", "checkHop", "(I)V"⟩
theorem d_LR_checkHop_0 : decode b_LR_checkHop 0 = .ok (.iload_n 1, 1) := by decide +kernel
theorem d_LR_checkHop_1 : decode b_LR_checkHop 1 = .ok (.ifCond .lt (14), 3) := by decide +kernel
theorem d_LR_checkHop_4 : decode b_LR_checkHop 4 = .ok (.iload_n 1, 1) := by decide +kernel
theorem d_LR_checkHop_5 : decode b_LR_checkHop 5 = .ok (.aload_n 0, 1) := by decide +kernel
theorem d_LR_checkHop_6 : decode b_LR_checkHop 6 = .ok (.getfield 58, 3) := by decide +kernel
theorem d_LR_checkHop_9 : decode b_LR_checkHop 9 = .ok (.invokevirtual 141, 3) := by decide +kernel
theorem d_LR_checkHop_12 : decode b_LR_checkHop 12 = .ok (.if_icmp .lt (13), 3) := by decide +kernel
theorem d_LR_checkHop_15 : decode b_LR_checkHop 15 = .ok (.new 162, 3) := by decide +kernel
theorem d_LR_checkHop_18 : decode b_LR_checkHop 18 = .ok (.dup, 1) := by decide +kernel
theorem d_LR_checkHop_19 : decode b_LR_checkHop 19 = .ok (.ldc 164, 2) := by decide +kernel
theorem d_LR_checkHop_21 : decode b_LR_checkHop 21 = .ok (.invokespecial 166, 3) := by decide +kernel
theorem d_LR_checkHop_24 : decode b_LR_checkHop 24 = .ok (.athrow, 1) := by decide +kernel
theorem d_LR_checkHop_25 : decode b_LR_checkHop 25 = .ok (.return_, 1) := by decide +kernel
theorem k_LR_checkHop : Cond.code y_LR_checkHop b_LR_checkHop 2 (none) ∈ WS := ws_t 570 (by decide +kernel) (by decide +kernel)
theorem hd_LR_checkHop : y_LR_checkHop.cls = R_LR ∧ y_LR_checkHop.cls ≠ "java/lang/invoke/MethodHandle" ∧ y_LR_checkHop.cls ≠ "java/lang/invoke/VarHandle" ∧ (parseMethodDescriptor y_LR_checkHop.desc).map (fun d => d.parameters.length) = some 1 := by decide +kernel
abbrev b_LR_cutOff : ByteArray := prog_1_method_24_code
abbrev y_LR_cutOff : MethodName := ⟨"LabelRoads", "cutOff", "(II)V"⟩
theorem d_LR_cutOff_0 : decode b_LR_cutOff 0 = .ok (.aload_n 0, 1) := by decide +kernel
theorem d_LR_cutOff_1 : decode b_LR_cutOff 1 = .ok (.getfield 34, 3) := by decide +kernel
theorem d_LR_cutOff_4 : decode b_LR_cutOff 4 = .ok (.iload_n 1, 1) := by decide +kernel
theorem d_LR_cutOff_5 : decode b_LR_cutOff 5 = .ok (.iload_n 2, 1) := by decide +kernel
theorem d_LR_cutOff_6 : decode b_LR_cutOff 6 = .ok (.invokevirtual 167, 3) := by decide +kernel
theorem d_LR_cutOff_9 : decode b_LR_cutOff 9 = .ok (.aload_n 0, 1) := by decide +kernel
theorem d_LR_cutOff_10 : decode b_LR_cutOff 10 = .ok (.getfield 40, 3) := by decide +kernel
theorem d_LR_cutOff_13 : decode b_LR_cutOff 13 = .ok (.iload_n 1, 1) := by decide +kernel
theorem d_LR_cutOff_14 : decode b_LR_cutOff 14 = .ok (.aaload, 1) := by decide +kernel
theorem d_LR_cutOff_15 : decode b_LR_cutOff 15 = .ok (.iload_n 2, 1) := by decide +kernel
theorem d_LR_cutOff_16 : decode b_LR_cutOff 16 = .ok (.invokevirtual 170, 3) := by decide +kernel
theorem d_LR_cutOff_19 : decode b_LR_cutOff 19 = .ok (.aload_n 0, 1) := by decide +kernel
theorem d_LR_cutOff_20 : decode b_LR_cutOff 20 = .ok (.getfield 40, 3) := by decide +kernel
theorem d_LR_cutOff_23 : decode b_LR_cutOff 23 = .ok (.iload_n 2, 1) := by decide +kernel
theorem d_LR_cutOff_24 : decode b_LR_cutOff 24 = .ok (.aaload, 1) := by decide +kernel
theorem d_LR_cutOff_25 : decode b_LR_cutOff 25 = .ok (.iload_n 1, 1) := by decide +kernel
theorem d_LR_cutOff_26 : decode b_LR_cutOff 26 = .ok (.invokevirtual 170, 3) := by decide +kernel
theorem d_LR_cutOff_29 : decode b_LR_cutOff 29 = .ok (.return_, 1) := by decide +kernel
theorem k_LR_cutOff : Cond.code y_LR_cutOff b_LR_cutOff 3 (none) ∈ WS := ws_t 275 (by decide +kernel) (by decide +kernel)
theorem hd_LR_cutOff : y_LR_cutOff.cls = R_LR ∧ y_LR_cutOff.cls ≠ "java/lang/invoke/MethodHandle" ∧ y_LR_cutOff.cls ≠ "java/lang/invoke/VarHandle" ∧ (parseMethodDescriptor y_LR_cutOff.desc).map (fun d => d.parameters.length) = some 2 := by decide +kernel
abbrev b_LR_tellLabels : ByteArray := prog_1_method_25_code
abbrev y_LR_tellLabels : MethodName := ⟨"LabelRoads", "tellLabels", "(II)V"⟩
theorem d_LR_tellLabels_0 : decode b_LR_tellLabels 0 = .ok (.iconst 0, 1) := by decide +kernel
theorem d_LR_tellLabels_1 : decode b_LR_tellLabels 1 = .ok (.istore_n 3, 1) := by decide +kernel
theorem d_LR_tellLabels_2 : decode b_LR_tellLabels 2 = .ok (.iload_n 3, 1) := by decide +kernel
theorem d_LR_tellLabels_3 : decode b_LR_tellLabels 3 = .ok (.iconst 4, 1) := by decide +kernel
theorem d_LR_tellLabels_4 : decode b_LR_tellLabels 4 = .ok (.if_icmp .ge (39), 3) := by decide +kernel
theorem d_LR_tellLabels_7 : decode b_LR_tellLabels 7 = .ok (.aload_n 0, 1) := by decide +kernel
theorem d_LR_tellLabels_8 : decode b_LR_tellLabels 8 = .ok (.getfield 40, 3) := by decide +kernel
theorem d_LR_tellLabels_11 : decode b_LR_tellLabels 11 = .ok (.iload_n 1, 1) := by decide +kernel
theorem d_LR_tellLabels_12 : decode b_LR_tellLabels 12 = .ok (.aaload, 1) := by decide +kernel
theorem d_LR_tellLabels_13 : decode b_LR_tellLabels 13 = .ok (.iload_n 3, 1) := by decide +kernel
theorem d_LR_tellLabels_14 : decode b_LR_tellLabels 14 = .ok (.invokevirtual 125, 3) := by decide +kernel
theorem d_LR_tellLabels_17 : decode b_LR_tellLabels 17 = .ok (.istore 4, 2) := by decide +kernel
theorem d_LR_tellLabels_19 : decode b_LR_tellLabels 19 = .ok (.iload 4, 2) := by decide +kernel
theorem d_LR_tellLabels_21 : decode b_LR_tellLabels 21 = .ok (.ifCond .eq (16), 3) := by decide +kernel
theorem d_LR_tellLabels_24 : decode b_LR_tellLabels 24 = .ok (.aload_n 0, 1) := by decide +kernel
theorem d_LR_tellLabels_25 : decode b_LR_tellLabels 25 = .ok (.getfield 34, 3) := by decide +kernel
theorem d_LR_tellLabels_28 : decode b_LR_tellLabels 28 = .ok (.iconst 1, 1) := by decide +kernel
theorem d_LR_tellLabels_29 : decode b_LR_tellLabels 29 = .ok (.iload_n 1, 1) := by decide +kernel
theorem d_LR_tellLabels_30 : decode b_LR_tellLabels 30 = .ok (.iload_n 2, 1) := by decide +kernel
theorem d_LR_tellLabels_31 : decode b_LR_tellLabels 31 = .ok (.iload_n 3, 1) := by decide +kernel
theorem d_LR_tellLabels_32 : decode b_LR_tellLabels 32 = .ok (.iload 4, 2) := by decide +kernel
theorem d_LR_tellLabels_34 : decode b_LR_tellLabels 34 = .ok (.invokevirtual 173, 3) := by decide +kernel
theorem d_LR_tellLabels_37 : decode b_LR_tellLabels 37 = .ok (.iinc 3 (1), 3) := by decide +kernel
theorem d_LR_tellLabels_40 : decode b_LR_tellLabels 40 = .ok (.goto (-38), 3) := by decide +kernel
theorem d_LR_tellLabels_43 : decode b_LR_tellLabels 43 = .ok (.return_, 1) := by decide +kernel
theorem k_LR_tellLabels : Cond.code y_LR_tellLabels b_LR_tellLabels 5 (none) ∈ WS := ws_t 298 (by decide +kernel) (by decide +kernel)
theorem hd_LR_tellLabels : y_LR_tellLabels.cls = R_LR ∧ y_LR_tellLabels.cls ≠ "java/lang/invoke/MethodHandle" ∧ y_LR_tellLabels.cls ≠ "java/lang/invoke/VarHandle" ∧ (parseMethodDescriptor y_LR_tellLabels.desc).map (fun d => d.parameters.length) = some 2 := by decide +kernel
abbrev b_LR_isReady : ByteArray := prog_1_method_29_code
abbrev y_LR_isReady : MethodName := ⟨"LabelRoads", "isReady", "(II)Z"⟩
theorem d_LR_isReady_0 : decode b_LR_isReady 0 = .ok (.aload_n 0, 1) := by decide +kernel
theorem d_LR_isReady_1 : decode b_LR_isReady 1 = .ok (.getfield 27, 3) := by decide +kernel
theorem d_LR_isReady_4 : decode b_LR_isReady 4 = .ok (.iload_n 1, 1) := by decide +kernel
theorem d_LR_isReady_5 : decode b_LR_isReady 5 = .ok (.iload_n 2, 1) := by decide +kernel
theorem d_LR_isReady_6 : decode b_LR_isReady 6 = .ok (.invokevirtual 193, 3) := by decide +kernel
theorem d_LR_isReady_9 : decode b_LR_isReady 9 = .ok (.ifCond .eq (5), 3) := by decide +kernel
theorem d_LR_isReady_12 : decode b_LR_isReady 12 = .ok (.iconst 1, 1) := by decide +kernel
theorem d_LR_isReady_13 : decode b_LR_isReady 13 = .ok (.ireturn, 1) := by decide +kernel
theorem d_LR_isReady_14 : decode b_LR_isReady 14 = .ok (.aload_n 0, 1) := by decide +kernel
theorem d_LR_isReady_15 : decode b_LR_isReady 15 = .ok (.getfield 27, 3) := by decide +kernel
theorem d_LR_isReady_18 : decode b_LR_isReady 18 = .ok (.iload_n 1, 1) := by decide +kernel
theorem d_LR_isReady_19 : decode b_LR_isReady 19 = .ok (.iload_n 2, 1) := by decide +kernel
theorem d_LR_isReady_20 : decode b_LR_isReady 20 = .ok (.invokevirtual 122, 3) := by decide +kernel
theorem d_LR_isReady_23 : decode b_LR_isReady 23 = .ok (.istore_n 3, 1) := by decide +kernel
theorem d_LR_isReady_24 : decode b_LR_isReady 24 = .ok (.iload_n 3, 1) := by decide +kernel
theorem d_LR_isReady_25 : decode b_LR_isReady 25 = .ok (.iconst (-1), 1) := by decide +kernel
theorem d_LR_isReady_26 : decode b_LR_isReady 26 = .ok (.if_icmp .eq (21), 3) := by decide +kernel
theorem d_LR_isReady_29 : decode b_LR_isReady 29 = .ok (.aload_n 0, 1) := by decide +kernel
theorem d_LR_isReady_30 : decode b_LR_isReady 30 = .ok (.getfield 40, 3) := by decide +kernel
theorem d_LR_isReady_33 : decode b_LR_isReady 33 = .ok (.iload_n 1, 1) := by decide +kernel
theorem d_LR_isReady_34 : decode b_LR_isReady 34 = .ok (.aaload, 1) := by decide +kernel
theorem d_LR_isReady_35 : decode b_LR_isReady 35 = .ok (.iload_n 3, 1) := by decide +kernel
theorem d_LR_isReady_36 : decode b_LR_isReady 36 = .ok (.iload_n 2, 1) := by decide +kernel
theorem d_LR_isReady_37 : decode b_LR_isReady 37 = .ok (.invokevirtual 128, 3) := by decide +kernel
theorem d_LR_isReady_40 : decode b_LR_isReady 40 = .ok (.ifCond .eq (7), 3) := by decide +kernel
theorem d_LR_isReady_43 : decode b_LR_isReady 43 = .ok (.iconst 1, 1) := by decide +kernel
theorem d_LR_isReady_44 : decode b_LR_isReady 44 = .ok (.goto (4), 3) := by decide +kernel
theorem d_LR_isReady_47 : decode b_LR_isReady 47 = .ok (.iconst 0, 1) := by decide +kernel
theorem d_LR_isReady_48 : decode b_LR_isReady 48 = .ok (.ireturn, 1) := by decide +kernel
theorem k_LR_isReady : Cond.code y_LR_isReady b_LR_isReady 4 (some .boolean) ∈ WS := ws_t 322 (by decide +kernel) (by decide +kernel)
theorem hd_LR_isReady : y_LR_isReady.cls = R_LR ∧ y_LR_isReady.cls ≠ "java/lang/invoke/MethodHandle" ∧ y_LR_isReady.cls ≠ "java/lang/invoke/VarHandle" ∧ (parseMethodDescriptor y_LR_isReady.desc).map (fun d => d.parameters.length) = some 2 := by decide +kernel
abbrev b_LR_giveLabel : ByteArray := prog_1_method_30_code
abbrev y_LR_giveLabel : MethodName := ⟨"LabelRoads", "giveLabel", "(II)V"⟩
theorem d_LR_giveLabel_0 : decode b_LR_giveLabel 0 = .ok (.aload_n 0, 1) := by decide +kernel
theorem d_LR_giveLabel_1 : decode b_LR_giveLabel 1 = .ok (.getfield 40, 3) := by decide +kernel
theorem d_LR_giveLabel_4 : decode b_LR_giveLabel 4 = .ok (.iload_n 1, 1) := by decide +kernel
theorem d_LR_giveLabel_5 : decode b_LR_giveLabel 5 = .ok (.aaload, 1) := by decide +kernel
theorem d_LR_giveLabel_6 : decode b_LR_giveLabel 6 = .ok (.invokevirtual 196, 3) := by decide +kernel
theorem d_LR_giveLabel_9 : decode b_LR_giveLabel 9 = .ok (.istore_n 3, 1) := by decide +kernel
theorem d_LR_giveLabel_10 : decode b_LR_giveLabel 10 = .ok (.iload_n 3, 1) := by decide +kernel
theorem d_LR_giveLabel_11 : decode b_LR_giveLabel 11 = .ok (.ifCond .ne (4), 3) := by decide +kernel
theorem d_LR_giveLabel_14 : decode b_LR_giveLabel 14 = .ok (.return_, 1) := by decide +kernel
theorem d_LR_giveLabel_15 : decode b_LR_giveLabel 15 = .ok (.aload_n 0, 1) := by decide +kernel
theorem d_LR_giveLabel_16 : decode b_LR_giveLabel 16 = .ok (.getfield 40, 3) := by decide +kernel
theorem d_LR_giveLabel_19 : decode b_LR_giveLabel 19 = .ok (.iload_n 1, 1) := by decide +kernel
theorem d_LR_giveLabel_20 : decode b_LR_giveLabel 20 = .ok (.aaload, 1) := by decide +kernel
theorem d_LR_giveLabel_21 : decode b_LR_giveLabel 21 = .ok (.iload_n 2, 1) := by decide +kernel
theorem d_LR_giveLabel_22 : decode b_LR_giveLabel 22 = .ok (.iload_n 3, 1) := by decide +kernel
theorem d_LR_giveLabel_23 : decode b_LR_giveLabel 23 = .ok (.invokevirtual 199, 3) := by decide +kernel
theorem d_LR_giveLabel_26 : decode b_LR_giveLabel 26 = .ok (.iconst 0, 1) := by decide +kernel
theorem d_LR_giveLabel_27 : decode b_LR_giveLabel 27 = .ok (.istore 4, 2) := by decide +kernel
theorem d_LR_giveLabel_29 : decode b_LR_giveLabel 29 = .ok (.iload 4, 2) := by decide +kernel
theorem d_LR_giveLabel_31 : decode b_LR_giveLabel 31 = .ok (.aload_n 0, 1) := by decide +kernel
theorem d_LR_giveLabel_32 : decode b_LR_giveLabel 32 = .ok (.getfield 18, 3) := by decide +kernel
theorem d_LR_giveLabel_35 : decode b_LR_giveLabel 35 = .ok (.if_icmp .ge (35), 3) := by decide +kernel
theorem d_LR_giveLabel_38 : decode b_LR_giveLabel 38 = .ok (.aload_n 0, 1) := by decide +kernel
theorem d_LR_giveLabel_39 : decode b_LR_giveLabel 39 = .ok (.getfield 27, 3) := by decide +kernel
theorem d_LR_giveLabel_42 : decode b_LR_giveLabel 42 = .ok (.iload_n 1, 1) := by decide +kernel
theorem d_LR_giveLabel_43 : decode b_LR_giveLabel 43 = .ok (.iload 4, 2) := by decide +kernel
theorem d_LR_giveLabel_45 : decode b_LR_giveLabel 45 = .ok (.invokevirtual 202, 3) := by decide +kernel
theorem d_LR_giveLabel_48 : decode b_LR_giveLabel 48 = .ok (.ifCond .eq (16), 3) := by decide +kernel
theorem d_LR_giveLabel_51 : decode b_LR_giveLabel 51 = .ok (.aload_n 0, 1) := by decide +kernel
theorem d_LR_giveLabel_52 : decode b_LR_giveLabel 52 = .ok (.getfield 34, 3) := by decide +kernel
theorem d_LR_giveLabel_55 : decode b_LR_giveLabel 55 = .ok (.iconst 1, 1) := by decide +kernel
theorem d_LR_giveLabel_56 : decode b_LR_giveLabel 56 = .ok (.iload_n 1, 1) := by decide +kernel
theorem d_LR_giveLabel_57 : decode b_LR_giveLabel 57 = .ok (.iload 4, 2) := by decide +kernel
theorem d_LR_giveLabel_59 : decode b_LR_giveLabel 59 = .ok (.iload_n 2, 1) := by decide +kernel
theorem d_LR_giveLabel_60 : decode b_LR_giveLabel 60 = .ok (.iload_n 3, 1) := by decide +kernel
theorem d_LR_giveLabel_61 : decode b_LR_giveLabel 61 = .ok (.invokevirtual 173, 3) := by decide +kernel
theorem d_LR_giveLabel_64 : decode b_LR_giveLabel 64 = .ok (.iinc 4 (1), 3) := by decide +kernel
theorem d_LR_giveLabel_67 : decode b_LR_giveLabel 67 = .ok (.goto (-38), 3) := by decide +kernel
theorem d_LR_giveLabel_70 : decode b_LR_giveLabel 70 = .ok (.return_, 1) := by decide +kernel
theorem k_LR_giveLabel : Cond.code y_LR_giveLabel b_LR_giveLabel 5 (none) ∈ WS := ws_t 338 (by decide +kernel) (by decide +kernel)
theorem hd_LR_giveLabel : y_LR_giveLabel.cls = R_LR ∧ y_LR_giveLabel.cls ≠ "java/lang/invoke/MethodHandle" ∧ y_LR_giveLabel.cls ≠ "java/lang/invoke/VarHandle" ∧ (parseMethodDescriptor y_LR_giveLabel.desc).map (fun d => d.parameters.length) = some 2 := by decide +kernel
abbrev b_LR_withdrawLabel : ByteArray := prog_1_method_31_code
abbrev y_LR_withdrawLabel : MethodName := ⟨"LabelRoads", "withdrawLabel", "(II)V"⟩
theorem d_LR_withdrawLabel_0 : decode b_LR_withdrawLabel 0 = .ok (.aload_n 0, 1) := by decide +kernel
theorem d_LR_withdrawLabel_1 : decode b_LR_withdrawLabel 1 = .ok (.getfield 40, 3) := by decide +kernel
theorem d_LR_withdrawLabel_4 : decode b_LR_withdrawLabel 4 = .ok (.iload_n 1, 1) := by decide +kernel
theorem d_LR_withdrawLabel_5 : decode b_LR_withdrawLabel 5 = .ok (.aaload, 1) := by decide +kernel
theorem d_LR_withdrawLabel_6 : decode b_LR_withdrawLabel 6 = .ok (.iload_n 2, 1) := by decide +kernel
theorem d_LR_withdrawLabel_7 : decode b_LR_withdrawLabel 7 = .ok (.invokevirtual 125, 3) := by decide +kernel
theorem d_LR_withdrawLabel_10 : decode b_LR_withdrawLabel 10 = .ok (.istore_n 3, 1) := by decide +kernel
theorem d_LR_withdrawLabel_11 : decode b_LR_withdrawLabel 11 = .ok (.iconst 0, 1) := by decide +kernel
theorem d_LR_withdrawLabel_12 : decode b_LR_withdrawLabel 12 = .ok (.istore 4, 2) := by decide +kernel
theorem d_LR_withdrawLabel_14 : decode b_LR_withdrawLabel 14 = .ok (.iload 4, 2) := by decide +kernel
theorem d_LR_withdrawLabel_16 : decode b_LR_withdrawLabel 16 = .ok (.aload_n 0, 1) := by decide +kernel
theorem d_LR_withdrawLabel_17 : decode b_LR_withdrawLabel 17 = .ok (.getfield 18, 3) := by decide +kernel
theorem d_LR_withdrawLabel_20 : decode b_LR_withdrawLabel 20 = .ok (.if_icmp .ge (47), 3) := by decide +kernel
theorem d_LR_withdrawLabel_23 : decode b_LR_withdrawLabel 23 = .ok (.aload_n 0, 1) := by decide +kernel
theorem d_LR_withdrawLabel_24 : decode b_LR_withdrawLabel 24 = .ok (.getfield 27, 3) := by decide +kernel
theorem d_LR_withdrawLabel_27 : decode b_LR_withdrawLabel 27 = .ok (.iload_n 1, 1) := by decide +kernel
theorem d_LR_withdrawLabel_28 : decode b_LR_withdrawLabel 28 = .ok (.iload 4, 2) := by decide +kernel
theorem d_LR_withdrawLabel_30 : decode b_LR_withdrawLabel 30 = .ok (.invokevirtual 202, 3) := by decide +kernel
theorem d_LR_withdrawLabel_33 : decode b_LR_withdrawLabel 33 = .ok (.ifCond .eq (28), 3) := by decide +kernel
theorem d_LR_withdrawLabel_36 : decode b_LR_withdrawLabel 36 = .ok (.aload_n 0, 1) := by decide +kernel
theorem d_LR_withdrawLabel_37 : decode b_LR_withdrawLabel 37 = .ok (.getfield 34, 3) := by decide +kernel
theorem d_LR_withdrawLabel_40 : decode b_LR_withdrawLabel 40 = .ok (.iconst 2, 1) := by decide +kernel
theorem d_LR_withdrawLabel_41 : decode b_LR_withdrawLabel 41 = .ok (.iload_n 1, 1) := by decide +kernel
theorem d_LR_withdrawLabel_42 : decode b_LR_withdrawLabel 42 = .ok (.iload 4, 2) := by decide +kernel
theorem d_LR_withdrawLabel_44 : decode b_LR_withdrawLabel 44 = .ok (.iload_n 2, 1) := by decide +kernel
theorem d_LR_withdrawLabel_45 : decode b_LR_withdrawLabel 45 = .ok (.iload_n 3, 1) := by decide +kernel
theorem d_LR_withdrawLabel_46 : decode b_LR_withdrawLabel 46 = .ok (.invokevirtual 173, 3) := by decide +kernel
theorem d_LR_withdrawLabel_49 : decode b_LR_withdrawLabel 49 = .ok (.aload_n 0, 1) := by decide +kernel
theorem d_LR_withdrawLabel_50 : decode b_LR_withdrawLabel 50 = .ok (.getfield 40, 3) := by decide +kernel
theorem d_LR_withdrawLabel_53 : decode b_LR_withdrawLabel 53 = .ok (.iload_n 1, 1) := by decide +kernel
theorem d_LR_withdrawLabel_54 : decode b_LR_withdrawLabel 54 = .ok (.aaload, 1) := by decide +kernel
theorem d_LR_withdrawLabel_55 : decode b_LR_withdrawLabel 55 = .ok (.iload_n 3, 1) := by decide +kernel
theorem d_LR_withdrawLabel_56 : decode b_LR_withdrawLabel 56 = .ok (.iload 4, 2) := by decide +kernel
theorem d_LR_withdrawLabel_58 : decode b_LR_withdrawLabel 58 = .ok (.invokevirtual 205, 3) := by decide +kernel
theorem d_LR_withdrawLabel_61 : decode b_LR_withdrawLabel 61 = .ok (.iinc 4 (1), 3) := by decide +kernel
theorem d_LR_withdrawLabel_64 : decode b_LR_withdrawLabel 64 = .ok (.goto (-50), 3) := by decide +kernel
theorem d_LR_withdrawLabel_67 : decode b_LR_withdrawLabel 67 = .ok (.aload_n 0, 1) := by decide +kernel
theorem d_LR_withdrawLabel_68 : decode b_LR_withdrawLabel 68 = .ok (.getfield 40, 3) := by decide +kernel
theorem d_LR_withdrawLabel_71 : decode b_LR_withdrawLabel 71 = .ok (.iload_n 1, 1) := by decide +kernel
theorem d_LR_withdrawLabel_72 : decode b_LR_withdrawLabel 72 = .ok (.aaload, 1) := by decide +kernel
theorem d_LR_withdrawLabel_73 : decode b_LR_withdrawLabel 73 = .ok (.iload_n 2, 1) := by decide +kernel
theorem d_LR_withdrawLabel_74 : decode b_LR_withdrawLabel 74 = .ok (.iconst 0, 1) := by decide +kernel
theorem d_LR_withdrawLabel_75 : decode b_LR_withdrawLabel 75 = .ok (.invokevirtual 199, 3) := by decide +kernel
theorem d_LR_withdrawLabel_78 : decode b_LR_withdrawLabel 78 = .ok (.return_, 1) := by decide +kernel
theorem k_LR_withdrawLabel : Cond.code y_LR_withdrawLabel b_LR_withdrawLabel 5 (none) ∈ WS := ws_t 355 (by decide +kernel) (by decide +kernel)
theorem hd_LR_withdrawLabel : y_LR_withdrawLabel.cls = R_LR ∧ y_LR_withdrawLabel.cls ≠ "java/lang/invoke/MethodHandle" ∧ y_LR_withdrawLabel.cls ≠ "java/lang/invoke/VarHandle" ∧ (parseMethodDescriptor y_LR_withdrawLabel.desc).map (fun d => d.parameters.length) = some 2 := by decide +kernel
abbrev b_LR_settle : ByteArray := prog_1_method_28_code
abbrev y_LR_settle : MethodName := ⟨"LabelRoads", "settle", "(II)V"⟩
theorem d_LR_settle_0 : decode b_LR_settle 0 = .ok (.aload_n 0, 1) := by decide +kernel
theorem d_LR_settle_1 : decode b_LR_settle 1 = .ok (.iload_n 1, 1) := by decide +kernel
theorem d_LR_settle_2 : decode b_LR_settle 2 = .ok (.iload_n 2, 1) := by decide +kernel
theorem d_LR_settle_3 : decode b_LR_settle 3 = .ok (.invokevirtual 183, 3) := by decide +kernel
theorem d_LR_settle_6 : decode b_LR_settle 6 = .ok (.istore_n 3, 1) := by decide +kernel
theorem d_LR_settle_7 : decode b_LR_settle 7 = .ok (.aload_n 0, 1) := by decide +kernel
theorem d_LR_settle_8 : decode b_LR_settle 8 = .ok (.getfield 40, 3) := by decide +kernel
theorem d_LR_settle_11 : decode b_LR_settle 11 = .ok (.iload_n 1, 1) := by decide +kernel
theorem d_LR_settle_12 : decode b_LR_settle 12 = .ok (.aaload, 1) := by decide +kernel
theorem d_LR_settle_13 : decode b_LR_settle 13 = .ok (.iload_n 2, 1) := by decide +kernel
theorem d_LR_settle_14 : decode b_LR_settle 14 = .ok (.invokevirtual 125, 3) := by decide +kernel
theorem d_LR_settle_17 : decode b_LR_settle 17 = .ok (.ifCond .eq (7), 3) := by decide +kernel
theorem d_LR_settle_20 : decode b_LR_settle 20 = .ok (.iconst 1, 1) := by decide +kernel
theorem d_LR_settle_21 : decode b_LR_settle 21 = .ok (.goto (4), 3) := by decide +kernel
theorem d_LR_settle_24 : decode b_LR_settle 24 = .ok (.iconst 0, 1) := by decide +kernel
theorem d_LR_settle_25 : decode b_LR_settle 25 = .ok (.istore 4, 2) := by decide +kernel
theorem d_LR_settle_27 : decode b_LR_settle 27 = .ok (.iload_n 3, 1) := by decide +kernel
theorem d_LR_settle_28 : decode b_LR_settle 28 = .ok (.ifCond .eq (17), 3) := by decide +kernel
theorem d_LR_settle_31 : decode b_LR_settle 31 = .ok (.iload 4, 2) := by decide +kernel
theorem d_LR_settle_33 : decode b_LR_settle 33 = .ok (.ifCond .ne (12), 3) := by decide +kernel
theorem d_LR_settle_36 : decode b_LR_settle 36 = .ok (.aload_n 0, 1) := by decide +kernel
theorem d_LR_settle_37 : decode b_LR_settle 37 = .ok (.iload_n 1, 1) := by decide +kernel
theorem d_LR_settle_38 : decode b_LR_settle 38 = .ok (.iload_n 2, 1) := by decide +kernel
theorem d_LR_settle_39 : decode b_LR_settle 39 = .ok (.invokevirtual 187, 3) := by decide +kernel
theorem d_LR_settle_42 : decode b_LR_settle 42 = .ok (.goto (18), 3) := by decide +kernel
theorem d_LR_settle_45 : decode b_LR_settle 45 = .ok (.iload_n 3, 1) := by decide +kernel
theorem d_LR_settle_46 : decode b_LR_settle 46 = .ok (.ifCond .ne (14), 3) := by decide +kernel
theorem d_LR_settle_49 : decode b_LR_settle 49 = .ok (.iload 4, 2) := by decide +kernel
theorem d_LR_settle_51 : decode b_LR_settle 51 = .ok (.ifCond .eq (9), 3) := by decide +kernel
theorem d_LR_settle_54 : decode b_LR_settle 54 = .ok (.aload_n 0, 1) := by decide +kernel
theorem d_LR_settle_55 : decode b_LR_settle 55 = .ok (.iload_n 1, 1) := by decide +kernel
theorem d_LR_settle_56 : decode b_LR_settle 56 = .ok (.iload_n 2, 1) := by decide +kernel
theorem d_LR_settle_57 : decode b_LR_settle 57 = .ok (.invokevirtual 190, 3) := by decide +kernel
theorem d_LR_settle_60 : decode b_LR_settle 60 = .ok (.return_, 1) := by decide +kernel
theorem k_LR_settle : Cond.code y_LR_settle b_LR_settle 5 (none) ∈ WS := ws_t 318 (by decide +kernel) (by decide +kernel)
theorem hd_LR_settle : y_LR_settle.cls = R_LR ∧ y_LR_settle.cls ≠ "java/lang/invoke/MethodHandle" ∧ y_LR_settle.cls ≠ "java/lang/invoke/VarHandle" ∧ (parseMethodDescriptor y_LR_settle.desc).map (fun d => d.parameters.length) = some 2 := by decide +kernel
abbrev b_LR_settlePrefixes : ByteArray := prog_1_method_27_code
abbrev y_LR_settlePrefixes : MethodName := ⟨"LabelRoads", "settlePrefixes", "(I)V"⟩
theorem d_LR_settlePrefixes_0 : decode b_LR_settlePrefixes 0 = .ok (.iconst 0, 1) := by decide +kernel
theorem d_LR_settlePrefixes_1 : decode b_LR_settlePrefixes 1 = .ok (.istore_n 2, 1) := by decide +kernel
theorem d_LR_settlePrefixes_2 : decode b_LR_settlePrefixes 2 = .ok (.iload_n 2, 1) := by decide +kernel
theorem d_LR_settlePrefixes_3 : decode b_LR_settlePrefixes 3 = .ok (.iconst 4, 1) := by decide +kernel
theorem d_LR_settlePrefixes_4 : decode b_LR_settlePrefixes 4 = .ok (.if_icmp .ge (15), 3) := by decide +kernel
theorem d_LR_settlePrefixes_7 : decode b_LR_settlePrefixes 7 = .ok (.aload_n 0, 1) := by decide +kernel
theorem d_LR_settlePrefixes_8 : decode b_LR_settlePrefixes 8 = .ok (.iload_n 1, 1) := by decide +kernel
theorem d_LR_settlePrefixes_9 : decode b_LR_settlePrefixes 9 = .ok (.iload_n 2, 1) := by decide +kernel
theorem d_LR_settlePrefixes_10 : decode b_LR_settlePrefixes 10 = .ok (.invokevirtual 180, 3) := by decide +kernel
theorem d_LR_settlePrefixes_13 : decode b_LR_settlePrefixes 13 = .ok (.iinc 2 (1), 3) := by decide +kernel
theorem d_LR_settlePrefixes_16 : decode b_LR_settlePrefixes 16 = .ok (.goto (-14), 3) := by decide +kernel
theorem d_LR_settlePrefixes_19 : decode b_LR_settlePrefixes 19 = .ok (.return_, 1) := by decide +kernel
theorem k_LR_settlePrefixes : Cond.code y_LR_settlePrefixes b_LR_settlePrefixes 3 (none) ∈ WS := ws_t 314 (by decide +kernel) (by decide +kernel)
theorem hd_LR_settlePrefixes : y_LR_settlePrefixes.cls = R_LR ∧ y_LR_settlePrefixes.cls ≠ "java/lang/invoke/MethodHandle" ∧ y_LR_settlePrefixes.cls ≠ "java/lang/invoke/VarHandle" ∧ (parseMethodDescriptor y_LR_settlePrefixes.desc).map (fun d => d.parameters.length) = some 1 := by decide +kernel
abbrev b_LR_settleAll : ByteArray := prog_1_method_26_code
abbrev y_LR_settleAll : MethodName := ⟨"LabelRoads", "settleAll", "()V"⟩
theorem d_LR_settleAll_0 : decode b_LR_settleAll 0 = .ok (.iconst 0, 1) := by decide +kernel
theorem d_LR_settleAll_1 : decode b_LR_settleAll 1 = .ok (.istore_n 1, 1) := by decide +kernel
theorem d_LR_settleAll_2 : decode b_LR_settleAll 2 = .ok (.iload_n 1, 1) := by decide +kernel
theorem d_LR_settleAll_3 : decode b_LR_settleAll 3 = .ok (.aload_n 0, 1) := by decide +kernel
theorem d_LR_settleAll_4 : decode b_LR_settleAll 4 = .ok (.getfield 18, 3) := by decide +kernel
theorem d_LR_settleAll_7 : decode b_LR_settleAll 7 = .ok (.if_icmp .ge (14), 3) := by decide +kernel
theorem d_LR_settleAll_10 : decode b_LR_settleAll 10 = .ok (.aload_n 0, 1) := by decide +kernel
theorem d_LR_settleAll_11 : decode b_LR_settleAll 11 = .ok (.iload_n 1, 1) := by decide +kernel
theorem d_LR_settleAll_12 : decode b_LR_settleAll 12 = .ok (.invokevirtual 177, 3) := by decide +kernel
theorem d_LR_settleAll_15 : decode b_LR_settleAll 15 = .ok (.iinc 1 (1), 3) := by decide +kernel
theorem d_LR_settleAll_18 : decode b_LR_settleAll 18 = .ok (.goto (-16), 3) := by decide +kernel
theorem d_LR_settleAll_21 : decode b_LR_settleAll 21 = .ok (.return_, 1) := by decide +kernel
theorem k_LR_settleAll : Cond.code y_LR_settleAll b_LR_settleAll 2 (none) ∈ WS := ws_t 310 (by decide +kernel) (by decide +kernel)
theorem hd_LR_settleAll : y_LR_settleAll.cls = R_LR ∧ y_LR_settleAll.cls ≠ "java/lang/invoke/MethodHandle" ∧ y_LR_settleAll.cls ≠ "java/lang/invoke/VarHandle" ∧ (parseMethodDescriptor y_LR_settleAll.desc).map (fun d => d.parameters.length) = some 0 := by decide +kernel
abbrev b_LR_receive : ByteArray := prog_1_method_32_code
abbrev y_LR_receive : MethodName := ⟨"LabelRoads", "receive", "(I)V"⟩
theorem d_LR_receive_0 : decode b_LR_receive 0 = .ok (.iload_n 1, 1) := by decide +kernel
theorem d_LR_receive_1 : decode b_LR_receive 1 = .ok (.invokestatic 208, 3) := by decide +kernel
theorem d_LR_receive_4 : decode b_LR_receive 4 = .ok (.istore_n 2, 1) := by decide +kernel
theorem d_LR_receive_5 : decode b_LR_receive 5 = .ok (.iload_n 1, 1) := by decide +kernel
theorem d_LR_receive_6 : decode b_LR_receive 6 = .ok (.invokestatic 211, 3) := by decide +kernel
theorem d_LR_receive_9 : decode b_LR_receive 9 = .ok (.istore_n 3, 1) := by decide +kernel
theorem d_LR_receive_10 : decode b_LR_receive 10 = .ok (.iload_n 1, 1) := by decide +kernel
theorem d_LR_receive_11 : decode b_LR_receive 11 = .ok (.invokestatic 214, 3) := by decide +kernel
theorem d_LR_receive_14 : decode b_LR_receive 14 = .ok (.istore 4, 2) := by decide +kernel
theorem d_LR_receive_16 : decode b_LR_receive 16 = .ok (.iload_n 1, 1) := by decide +kernel
theorem d_LR_receive_17 : decode b_LR_receive 17 = .ok (.invokestatic 217, 3) := by decide +kernel
theorem d_LR_receive_20 : decode b_LR_receive 20 = .ok (.istore 5, 2) := by decide +kernel
theorem d_LR_receive_22 : decode b_LR_receive 22 = .ok (.iload_n 1, 1) := by decide +kernel
theorem d_LR_receive_23 : decode b_LR_receive 23 = .ok (.invokestatic 107, 3) := by decide +kernel
theorem d_LR_receive_26 : decode b_LR_receive 26 = .ok (.lookupswitch (88) #[(1, 26), (2, 50)], 26) := by decide +kernel
theorem d_LR_receive_52 : decode b_LR_receive 52 = .ok (.aload_n 0, 1) := by decide +kernel
theorem d_LR_receive_53 : decode b_LR_receive 53 = .ok (.getfield 40, 3) := by decide +kernel
theorem d_LR_receive_56 : decode b_LR_receive 56 = .ok (.iload_n 3, 1) := by decide +kernel
theorem d_LR_receive_57 : decode b_LR_receive 57 = .ok (.aaload, 1) := by decide +kernel
theorem d_LR_receive_58 : decode b_LR_receive 58 = .ok (.iload_n 2, 1) := by decide +kernel
theorem d_LR_receive_59 : decode b_LR_receive 59 = .ok (.iload 4, 2) := by decide +kernel
theorem d_LR_receive_61 : decode b_LR_receive 61 = .ok (.iload 5, 2) := by decide +kernel
theorem d_LR_receive_63 : decode b_LR_receive 63 = .ok (.invokevirtual 218, 3) := by decide +kernel
theorem d_LR_receive_66 : decode b_LR_receive 66 = .ok (.aload_n 0, 1) := by decide +kernel
theorem d_LR_receive_67 : decode b_LR_receive 67 = .ok (.iload_n 3, 1) := by decide +kernel
theorem d_LR_receive_68 : decode b_LR_receive 68 = .ok (.iload 4, 2) := by decide +kernel
theorem d_LR_receive_70 : decode b_LR_receive 70 = .ok (.invokevirtual 180, 3) := by decide +kernel
theorem d_LR_receive_73 : decode b_LR_receive 73 = .ok (.goto (58), 3) := by decide +kernel
theorem d_LR_receive_76 : decode b_LR_receive 76 = .ok (.aload_n 0, 1) := by decide +kernel
theorem d_LR_receive_77 : decode b_LR_receive 77 = .ok (.getfield 40, 3) := by decide +kernel
theorem d_LR_receive_80 : decode b_LR_receive 80 = .ok (.iload_n 3, 1) := by decide +kernel
theorem d_LR_receive_81 : decode b_LR_receive 81 = .ok (.aaload, 1) := by decide +kernel
theorem d_LR_receive_82 : decode b_LR_receive 82 = .ok (.iload_n 2, 1) := by decide +kernel
theorem d_LR_receive_83 : decode b_LR_receive 83 = .ok (.iload 4, 2) := by decide +kernel
theorem d_LR_receive_85 : decode b_LR_receive 85 = .ok (.iload 5, 2) := by decide +kernel
theorem d_LR_receive_87 : decode b_LR_receive 87 = .ok (.invokevirtual 221, 3) := by decide +kernel
theorem d_LR_receive_90 : decode b_LR_receive 90 = .ok (.aload_n 0, 1) := by decide +kernel
theorem d_LR_receive_91 : decode b_LR_receive 91 = .ok (.getfield 34, 3) := by decide +kernel
theorem d_LR_receive_94 : decode b_LR_receive 94 = .ok (.iconst 3, 1) := by decide +kernel
theorem d_LR_receive_95 : decode b_LR_receive 95 = .ok (.iload_n 3, 1) := by decide +kernel
theorem d_LR_receive_96 : decode b_LR_receive 96 = .ok (.iload_n 2, 1) := by decide +kernel
theorem d_LR_receive_97 : decode b_LR_receive 97 = .ok (.iload 4, 2) := by decide +kernel
theorem d_LR_receive_99 : decode b_LR_receive 99 = .ok (.iload 5, 2) := by decide +kernel
theorem d_LR_receive_101 : decode b_LR_receive 101 = .ok (.invokevirtual 173, 3) := by decide +kernel
theorem d_LR_receive_104 : decode b_LR_receive 104 = .ok (.aload_n 0, 1) := by decide +kernel
theorem d_LR_receive_105 : decode b_LR_receive 105 = .ok (.iload_n 3, 1) := by decide +kernel
theorem d_LR_receive_106 : decode b_LR_receive 106 = .ok (.iload 4, 2) := by decide +kernel
theorem d_LR_receive_108 : decode b_LR_receive 108 = .ok (.invokevirtual 180, 3) := by decide +kernel
theorem d_LR_receive_111 : decode b_LR_receive 111 = .ok (.goto (20), 3) := by decide +kernel
theorem d_LR_receive_114 : decode b_LR_receive 114 = .ok (.aload_n 0, 1) := by decide +kernel
theorem d_LR_receive_115 : decode b_LR_receive 115 = .ok (.getfield 40, 3) := by decide +kernel
theorem d_LR_receive_118 : decode b_LR_receive 118 = .ok (.iload_n 3, 1) := by decide +kernel
theorem d_LR_receive_119 : decode b_LR_receive 119 = .ok (.aaload, 1) := by decide +kernel
theorem d_LR_receive_120 : decode b_LR_receive 120 = .ok (.iload 5, 2) := by decide +kernel
theorem d_LR_receive_122 : decode b_LR_receive 122 = .ok (.iload_n 2, 1) := by decide +kernel
theorem d_LR_receive_123 : decode b_LR_receive 123 = .ok (.invokevirtual 224, 3) := by decide +kernel
theorem d_LR_receive_126 : decode b_LR_receive 126 = .ok (.aload_n 0, 1) := by decide +kernel
theorem d_LR_receive_127 : decode b_LR_receive 127 = .ok (.iload_n 3, 1) := by decide +kernel
theorem d_LR_receive_128 : decode b_LR_receive 128 = .ok (.invokevirtual 177, 3) := by decide +kernel
theorem d_LR_receive_131 : decode b_LR_receive 131 = .ok (.return_, 1) := by decide +kernel
theorem k_LR_receive : Cond.code y_LR_receive b_LR_receive 6 (none) ∈ WS := ws_t 410 (by decide +kernel) (by decide +kernel)
theorem hd_LR_receive : y_LR_receive.cls = R_LR ∧ y_LR_receive.cls ≠ "java/lang/invoke/MethodHandle" ∧ y_LR_receive.cls ≠ "java/lang/invoke/VarHandle" ∧ (parseMethodDescriptor y_LR_receive.desc).map (fun d => d.parameters.length) = some 1 := by decide +kernel
abbrev b_LR_goOn : ByteArray := prog_1_method_36_code
abbrev y_LR_goOn : MethodName := ⟨"LabelRoads", "goOn", "(IIZ)I"⟩
theorem d_LR_goOn_0 : decode b_LR_goOn 0 = .ok (.aload_n 0, 1) := by decide +kernel
theorem d_LR_goOn_1 : decode b_LR_goOn 1 = .ok (.getfield 27, 3) := by decide +kernel
theorem d_LR_goOn_4 : decode b_LR_goOn 4 = .ok (.iload_n 1, 1) := by decide +kernel
theorem d_LR_goOn_5 : decode b_LR_goOn 5 = .ok (.iload_n 2, 1) := by decide +kernel
theorem d_LR_goOn_6 : decode b_LR_goOn 6 = .ok (.invokevirtual 122, 3) := by decide +kernel
theorem d_LR_goOn_9 : decode b_LR_goOn 9 = .ok (.istore 4, 2) := by decide +kernel
theorem d_LR_goOn_11 : decode b_LR_goOn 11 = .ok (.iload 4, 2) := by decide +kernel
theorem d_LR_goOn_13 : decode b_LR_goOn 13 = .ok (.iconst (-1), 1) := by decide +kernel
theorem d_LR_goOn_14 : decode b_LR_goOn 14 = .ok (.if_icmp .ne (5), 3) := by decide +kernel
theorem d_LR_goOn_17 : decode b_LR_goOn 17 = .ok (.iconst 1, 1) := by decide +kernel
theorem d_LR_goOn_18 : decode b_LR_goOn 18 = .ok (.ireturn, 1) := by decide +kernel
theorem d_LR_goOn_19 : decode b_LR_goOn 19 = .ok (.aload_n 0, 1) := by decide +kernel
theorem d_LR_goOn_20 : decode b_LR_goOn 20 = .ok (.getfield 40, 3) := by decide +kernel
theorem d_LR_goOn_23 : decode b_LR_goOn 23 = .ok (.iload_n 1, 1) := by decide +kernel
theorem d_LR_goOn_24 : decode b_LR_goOn 24 = .ok (.aaload, 1) := by decide +kernel
theorem d_LR_goOn_25 : decode b_LR_goOn 25 = .ok (.iload 4, 2) := by decide +kernel
theorem d_LR_goOn_27 : decode b_LR_goOn 27 = .ok (.iload_n 2, 1) := by decide +kernel
theorem d_LR_goOn_28 : decode b_LR_goOn 28 = .ok (.invokevirtual 128, 3) := by decide +kernel
theorem d_LR_goOn_31 : decode b_LR_goOn 31 = .ok (.istore 5, 2) := by decide +kernel
theorem d_LR_goOn_33 : decode b_LR_goOn 33 = .ok (.iload_n 3, 1) := by decide +kernel
theorem d_LR_goOn_34 : decode b_LR_goOn 34 = .ok (.ifCond .eq (10), 3) := by decide +kernel
theorem d_LR_goOn_37 : decode b_LR_goOn 37 = .ok (.iload 5, 2) := by decide +kernel
theorem d_LR_goOn_39 : decode b_LR_goOn 39 = .ok (.ifCond .ne (5), 3) := by decide +kernel
theorem d_LR_goOn_42 : decode b_LR_goOn 42 = .ok (.iconst 4, 1) := by decide +kernel
theorem d_LR_goOn_43 : decode b_LR_goOn 43 = .ok (.ireturn, 1) := by decide +kernel
theorem d_LR_goOn_44 : decode b_LR_goOn 44 = .ok (.aload_n 0, 1) := by decide +kernel
theorem d_LR_goOn_45 : decode b_LR_goOn 45 = .ok (.getfield 58, 3) := by decide +kernel
theorem d_LR_goOn_48 : decode b_LR_goOn 48 = .ok (.invokevirtual 257, 3) := by decide +kernel
theorem d_LR_goOn_51 : decode b_LR_goOn 51 = .ok (.ifCond .eq (5), 3) := by decide +kernel
theorem d_LR_goOn_54 : decode b_LR_goOn 54 = .ok (.iconst 2, 1) := by decide +kernel
theorem d_LR_goOn_55 : decode b_LR_goOn 55 = .ok (.ireturn, 1) := by decide +kernel
theorem d_LR_goOn_56 : decode b_LR_goOn 56 = .ok (.aload_n 0, 1) := by decide +kernel
theorem d_LR_goOn_57 : decode b_LR_goOn 57 = .ok (.getfield 58, 3) := by decide +kernel
theorem d_LR_goOn_60 : decode b_LR_goOn 60 = .ok (.iload 4, 2) := by decide +kernel
theorem d_LR_goOn_62 : decode b_LR_goOn 62 = .ok (.iload 5, 2) := by decide +kernel
theorem d_LR_goOn_64 : decode b_LR_goOn 64 = .ok (.invokevirtual 260, 3) := by decide +kernel
theorem d_LR_goOn_67 : decode b_LR_goOn 67 = .ok (.iconst (-1), 1) := by decide +kernel
theorem d_LR_goOn_68 : decode b_LR_goOn 68 = .ok (.ireturn, 1) := by decide +kernel
theorem k_LR_goOn : Cond.code y_LR_goOn b_LR_goOn 6 (some .int) ∈ WS := ws_t 542 (by decide +kernel) (by decide +kernel)
theorem hd_LR_goOn : y_LR_goOn.cls = R_LR ∧ y_LR_goOn.cls ≠ "java/lang/invoke/MethodHandle" ∧ y_LR_goOn.cls ≠ "java/lang/invoke/VarHandle" ∧ (parseMethodDescriptor y_LR_goOn.desc).map (fun d => d.parameters.length) = some 3 := by decide +kernel
abbrev b_LR_tryService : ByteArray := prog_1_method_35_code
abbrev y_LR_tryService : MethodName := ⟨"LabelRoads", "tryService", "(I)I"⟩
theorem d_LR_tryService_0 : decode b_LR_tryService 0 = .ok (.aload_n 0, 1) := by decide +kernel
theorem d_LR_tryService_1 : decode b_LR_tryService 1 = .ok (.getfield 45, 3) := by decide +kernel
theorem d_LR_tryService_4 : decode b_LR_tryService 4 = .ok (.aload_n 0, 1) := by decide +kernel
theorem d_LR_tryService_5 : decode b_LR_tryService 5 = .ok (.getfield 58, 3) := by decide +kernel
theorem d_LR_tryService_8 : decode b_LR_tryService 8 = .ok (.invokevirtual 254, 3) := by decide +kernel
theorem d_LR_tryService_11 : decode b_LR_tryService 11 = .ok (.iaload, 1) := by decide +kernel
theorem d_LR_tryService_12 : decode b_LR_tryService 12 = .ok (.iload_n 1, 1) := by decide +kernel
theorem d_LR_tryService_13 : decode b_LR_tryService 13 = .ok (.if_icmp .ne (7), 3) := by decide +kernel
theorem d_LR_tryService_16 : decode b_LR_tryService 16 = .ok (.iconst 0, 1) := by decide +kernel
theorem d_LR_tryService_17 : decode b_LR_tryService 17 = .ok (.goto (4), 3) := by decide +kernel
theorem d_LR_tryService_20 : decode b_LR_tryService 20 = .ok (.iconst 3, 1) := by decide +kernel
theorem d_LR_tryService_21 : decode b_LR_tryService 21 = .ok (.ireturn, 1) := by decide +kernel
theorem k_LR_tryService : Cond.code y_LR_tryService b_LR_tryService 2 (some .int) ∈ WS := ws_t 534 (by decide +kernel) (by decide +kernel)
theorem hd_LR_tryService : y_LR_tryService.cls = R_LR ∧ y_LR_tryService.cls ≠ "java/lang/invoke/MethodHandle" ∧ y_LR_tryService.cls ≠ "java/lang/invoke/VarHandle" ∧ (parseMethodDescriptor y_LR_tryService.desc).map (fun d => d.parameters.length) = some 1 := by decide +kernel
abbrev b_LR_passUnlabelled : ByteArray := prog_1_method_34_code
abbrev y_LR_passUnlabelled : MethodName := ⟨"LabelRoads", "passUnlabelled", "(I)I"⟩
theorem d_LR_passUnlabelled_0 : decode b_LR_passUnlabelled 0 = .ok (.aload_n 0, 1) := by decide +kernel
theorem d_LR_passUnlabelled_1 : decode b_LR_passUnlabelled 1 = .ok (.getfield 58, 3) := by decide +kernel
theorem d_LR_passUnlabelled_4 : decode b_LR_passUnlabelled 4 = .ok (.invokevirtual 244, 3) := by decide +kernel
theorem d_LR_passUnlabelled_7 : decode b_LR_passUnlabelled 7 = .ok (.istore_n 2, 1) := by decide +kernel
theorem d_LR_passUnlabelled_8 : decode b_LR_passUnlabelled 8 = .ok (.aload_n 0, 1) := by decide +kernel
theorem d_LR_passUnlabelled_9 : decode b_LR_passUnlabelled 9 = .ok (.getfield 27, 3) := by decide +kernel
theorem d_LR_passUnlabelled_12 : decode b_LR_passUnlabelled 12 = .ok (.iload_n 1, 1) := by decide +kernel
theorem d_LR_passUnlabelled_13 : decode b_LR_passUnlabelled 13 = .ok (.aload_n 0, 1) := by decide +kernel
theorem d_LR_passUnlabelled_14 : decode b_LR_passUnlabelled 14 = .ok (.getfield 58, 3) := by decide +kernel
theorem d_LR_passUnlabelled_17 : decode b_LR_passUnlabelled 17 = .ok (.invokevirtual 251, 3) := by decide +kernel
theorem d_LR_passUnlabelled_20 : decode b_LR_passUnlabelled 20 = .ok (.invokevirtual 193, 3) := by decide +kernel
theorem d_LR_passUnlabelled_23 : decode b_LR_passUnlabelled 23 = .ok (.ifCond .eq (17), 3) := by decide +kernel
theorem d_LR_passUnlabelled_26 : decode b_LR_passUnlabelled 26 = .ok (.iload_n 2, 1) := by decide +kernel
theorem d_LR_passUnlabelled_27 : decode b_LR_passUnlabelled 27 = .ok (.ifCond .eq (11), 3) := by decide +kernel
theorem d_LR_passUnlabelled_30 : decode b_LR_passUnlabelled 30 = .ok (.aload_n 0, 1) := by decide +kernel
theorem d_LR_passUnlabelled_31 : decode b_LR_passUnlabelled 31 = .ok (.iload_n 1, 1) := by decide +kernel
theorem d_LR_passUnlabelled_32 : decode b_LR_passUnlabelled 32 = .ok (.invokevirtual 248, 3) := by decide +kernel
theorem d_LR_passUnlabelled_35 : decode b_LR_passUnlabelled 35 = .ok (.goto (4), 3) := by decide +kernel
theorem d_LR_passUnlabelled_38 : decode b_LR_passUnlabelled 38 = .ok (.iconst 0, 1) := by decide +kernel
theorem d_LR_passUnlabelled_39 : decode b_LR_passUnlabelled 39 = .ok (.ireturn, 1) := by decide +kernel
theorem d_LR_passUnlabelled_40 : decode b_LR_passUnlabelled 40 = .ok (.aload_n 0, 1) := by decide +kernel
theorem d_LR_passUnlabelled_41 : decode b_LR_passUnlabelled 41 = .ok (.iload_n 1, 1) := by decide +kernel
theorem d_LR_passUnlabelled_42 : decode b_LR_passUnlabelled 42 = .ok (.aload_n 0, 1) := by decide +kernel
theorem d_LR_passUnlabelled_43 : decode b_LR_passUnlabelled 43 = .ok (.getfield 58, 3) := by decide +kernel
theorem d_LR_passUnlabelled_46 : decode b_LR_passUnlabelled 46 = .ok (.invokevirtual 251, 3) := by decide +kernel
theorem d_LR_passUnlabelled_49 : decode b_LR_passUnlabelled 49 = .ok (.iload_n 2, 1) := by decide +kernel
theorem d_LR_passUnlabelled_50 : decode b_LR_passUnlabelled 50 = .ok (.invokevirtual 237, 3) := by decide +kernel
theorem d_LR_passUnlabelled_53 : decode b_LR_passUnlabelled 53 = .ok (.ireturn, 1) := by decide +kernel
theorem k_LR_passUnlabelled : Cond.code y_LR_passUnlabelled b_LR_passUnlabelled 3 (some .int) ∈ WS := ws_t 525 (by decide +kernel) (by decide +kernel)
theorem hd_LR_passUnlabelled : y_LR_passUnlabelled.cls = R_LR ∧ y_LR_passUnlabelled.cls ≠ "java/lang/invoke/MethodHandle" ∧ y_LR_passUnlabelled.cls ≠ "java/lang/invoke/VarHandle" ∧ (parseMethodDescriptor y_LR_passUnlabelled.desc).map (fun d => d.parameters.length) = some 1 := by decide +kernel
abbrev b_LR_passRouter : ByteArray := prog_1_method_33_code
abbrev y_LR_passRouter : MethodName := ⟨"LabelRoads", "passRouter", "()I"⟩
theorem d_LR_passRouter_0 : decode b_LR_passRouter 0 = .ok (.aload_n 0, 1) := by decide +kernel
theorem d_LR_passRouter_1 : decode b_LR_passRouter 1 = .ok (.getfield 58, 3) := by decide +kernel
theorem d_LR_passRouter_4 : decode b_LR_passRouter 4 = .ok (.invokevirtual 227, 3) := by decide +kernel
theorem d_LR_passRouter_7 : decode b_LR_passRouter 7 = .ok (.istore_n 1, 1) := by decide +kernel
theorem d_LR_passRouter_8 : decode b_LR_passRouter 8 = .ok (.aload_n 0, 1) := by decide +kernel
theorem d_LR_passRouter_9 : decode b_LR_passRouter 9 = .ok (.getfield 58, 3) := by decide +kernel
theorem d_LR_passRouter_12 : decode b_LR_passRouter 12 = .ok (.invokevirtual 230, 3) := by decide +kernel
theorem d_LR_passRouter_15 : decode b_LR_passRouter 15 = .ok (.ifCond .ne (9), 3) := by decide +kernel
theorem d_LR_passRouter_18 : decode b_LR_passRouter 18 = .ok (.aload_n 0, 1) := by decide +kernel
theorem d_LR_passRouter_19 : decode b_LR_passRouter 19 = .ok (.iload_n 1, 1) := by decide +kernel
theorem d_LR_passRouter_20 : decode b_LR_passRouter 20 = .ok (.invokevirtual 233, 3) := by decide +kernel
theorem d_LR_passRouter_23 : decode b_LR_passRouter 23 = .ok (.ireturn, 1) := by decide +kernel
theorem d_LR_passRouter_24 : decode b_LR_passRouter 24 = .ok (.aload_n 0, 1) := by decide +kernel
theorem d_LR_passRouter_25 : decode b_LR_passRouter 25 = .ok (.getfield 40, 3) := by decide +kernel
theorem d_LR_passRouter_28 : decode b_LR_passRouter 28 = .ok (.iload_n 1, 1) := by decide +kernel
theorem d_LR_passRouter_29 : decode b_LR_passRouter 29 = .ok (.aaload, 1) := by decide +kernel
theorem d_LR_passRouter_30 : decode b_LR_passRouter 30 = .ok (.aload_n 0, 1) := by decide +kernel
theorem d_LR_passRouter_31 : decode b_LR_passRouter 31 = .ok (.getfield 58, 3) := by decide +kernel
theorem d_LR_passRouter_34 : decode b_LR_passRouter 34 = .ok (.invokevirtual 230, 3) := by decide +kernel
theorem d_LR_passRouter_37 : decode b_LR_passRouter 37 = .ok (.invokevirtual 236, 3) := by decide +kernel
theorem d_LR_passRouter_40 : decode b_LR_passRouter 40 = .ok (.istore_n 2, 1) := by decide +kernel
theorem d_LR_passRouter_41 : decode b_LR_passRouter 41 = .ok (.iload_n 2, 1) := by decide +kernel
theorem d_LR_passRouter_42 : decode b_LR_passRouter 42 = .ok (.iconst (-1), 1) := by decide +kernel
theorem d_LR_passRouter_43 : decode b_LR_passRouter 43 = .ok (.if_icmp .ne (5), 3) := by decide +kernel
theorem d_LR_passRouter_46 : decode b_LR_passRouter 46 = .ok (.iconst 3, 1) := by decide +kernel
theorem d_LR_passRouter_47 : decode b_LR_passRouter 47 = .ok (.ireturn, 1) := by decide +kernel
theorem d_LR_passRouter_48 : decode b_LR_passRouter 48 = .ok (.aload_n 0, 1) := by decide +kernel
theorem d_LR_passRouter_49 : decode b_LR_passRouter 49 = .ok (.getfield 27, 3) := by decide +kernel
theorem d_LR_passRouter_52 : decode b_LR_passRouter 52 = .ok (.iload_n 1, 1) := by decide +kernel
theorem d_LR_passRouter_53 : decode b_LR_passRouter 53 = .ok (.iload_n 2, 1) := by decide +kernel
theorem d_LR_passRouter_54 : decode b_LR_passRouter 54 = .ok (.invokevirtual 193, 3) := by decide +kernel
theorem d_LR_passRouter_57 : decode b_LR_passRouter 57 = .ok (.ifCond .ne (11), 3) := by decide +kernel
theorem d_LR_passRouter_60 : decode b_LR_passRouter 60 = .ok (.aload_n 0, 1) := by decide +kernel
theorem d_LR_passRouter_61 : decode b_LR_passRouter 61 = .ok (.iload_n 1, 1) := by decide +kernel
theorem d_LR_passRouter_62 : decode b_LR_passRouter 62 = .ok (.iload_n 2, 1) := by decide +kernel
theorem d_LR_passRouter_63 : decode b_LR_passRouter 63 = .ok (.iconst 1, 1) := by decide +kernel
theorem d_LR_passRouter_64 : decode b_LR_passRouter 64 = .ok (.invokevirtual 237, 3) := by decide +kernel
theorem d_LR_passRouter_67 : decode b_LR_passRouter 67 = .ok (.ireturn, 1) := by decide +kernel
theorem d_LR_passRouter_68 : decode b_LR_passRouter 68 = .ok (.aload_n 0, 1) := by decide +kernel
theorem d_LR_passRouter_69 : decode b_LR_passRouter 69 = .ok (.getfield 58, 3) := by decide +kernel
theorem d_LR_passRouter_72 : decode b_LR_passRouter 72 = .ok (.invokevirtual 241, 3) := by decide +kernel
theorem d_LR_passRouter_75 : decode b_LR_passRouter 75 = .ok (.aload_n 0, 1) := by decide +kernel
theorem d_LR_passRouter_76 : decode b_LR_passRouter 76 = .ok (.getfield 58, 3) := by decide +kernel
theorem d_LR_passRouter_79 : decode b_LR_passRouter 79 = .ok (.invokevirtual 244, 3) := by decide +kernel
theorem d_LR_passRouter_82 : decode b_LR_passRouter 82 = .ok (.ifCond .eq (11), 3) := by decide +kernel
theorem d_LR_passRouter_85 : decode b_LR_passRouter 85 = .ok (.aload_n 0, 1) := by decide +kernel
theorem d_LR_passRouter_86 : decode b_LR_passRouter 86 = .ok (.iload_n 1, 1) := by decide +kernel
theorem d_LR_passRouter_87 : decode b_LR_passRouter 87 = .ok (.invokevirtual 248, 3) := by decide +kernel
theorem d_LR_passRouter_90 : decode b_LR_passRouter 90 = .ok (.goto (8), 3) := by decide +kernel
theorem d_LR_passRouter_93 : decode b_LR_passRouter 93 = .ok (.aload_n 0, 1) := by decide +kernel
theorem d_LR_passRouter_94 : decode b_LR_passRouter 94 = .ok (.iload_n 1, 1) := by decide +kernel
theorem d_LR_passRouter_95 : decode b_LR_passRouter 95 = .ok (.invokevirtual 233, 3) := by decide +kernel
theorem d_LR_passRouter_98 : decode b_LR_passRouter 98 = .ok (.ireturn, 1) := by decide +kernel
theorem k_LR_passRouter : Cond.code y_LR_passRouter b_LR_passRouter 3 (some .int) ∈ WS := ws_t 513 (by decide +kernel) (by decide +kernel)
theorem hd_LR_passRouter : y_LR_passRouter.cls = R_LR ∧ y_LR_passRouter.cls ≠ "java/lang/invoke/MethodHandle" ∧ y_LR_passRouter.cls ≠ "java/lang/invoke/VarHandle" ∧ (parseMethodDescriptor y_LR_passRouter.desc).map (fun d => d.parameters.length) = some 0 := by decide +kernel
abbrev b_LR_link : ByteArray := prog_1_method_2_code
abbrev y_LR_link : MethodName := ⟨"LabelRoads", "link", "(III)I"⟩
theorem d_LR_link_0 : decode b_LR_link 0 = .ok (.aload_n 0, 1) := by decide +kernel
theorem d_LR_link_1 : decode b_LR_link 1 = .ok (.iload_n 1, 1) := by decide +kernel
theorem d_LR_link_2 : decode b_LR_link 2 = .ok (.iload_n 2, 1) := by decide +kernel
theorem d_LR_link_3 : decode b_LR_link 3 = .ok (.invokevirtual 62, 3) := by decide +kernel
theorem d_LR_link_6 : decode b_LR_link 6 = .ok (.iload_n 3, 1) := by decide +kernel
theorem d_LR_link_7 : decode b_LR_link 7 = .ok (.iconst 0, 1) := by decide +kernel
theorem d_LR_link_8 : decode b_LR_link 8 = .ok (.bipush 15, 2) := by decide +kernel
theorem d_LR_link_10 : decode b_LR_link 10 = .ok (.invokestatic 66, 3) := by decide +kernel
theorem d_LR_link_13 : decode b_LR_link 13 = .ok (.aload_n 0, 1) := by decide +kernel
theorem d_LR_link_14 : decode b_LR_link 14 = .ok (.getfield 27, 3) := by decide +kernel
theorem d_LR_link_17 : decode b_LR_link 17 = .ok (.iload_n 1, 1) := by decide +kernel
theorem d_LR_link_18 : decode b_LR_link 18 = .ok (.iload_n 2, 1) := by decide +kernel
theorem d_LR_link_19 : decode b_LR_link 19 = .ok (.invokevirtual 70, 3) := by decide +kernel
theorem d_LR_link_22 : decode b_LR_link 22 = .ok (.istore 4, 2) := by decide +kernel
theorem d_LR_link_24 : decode b_LR_link 24 = .ok (.iload_n 3, 1) := by decide +kernel
theorem d_LR_link_25 : decode b_LR_link 25 = .ok (.iload 4, 2) := by decide +kernel
theorem d_LR_link_27 : decode b_LR_link 27 = .ok (.if_icmp .ne (6), 3) := by decide +kernel
theorem d_LR_link_30 : decode b_LR_link 30 = .ok (.iload 4, 2) := by decide +kernel
theorem d_LR_link_32 : decode b_LR_link 32 = .ok (.ireturn, 1) := by decide +kernel
theorem d_LR_link_33 : decode b_LR_link 33 = .ok (.aload_n 0, 1) := by decide +kernel
theorem d_LR_link_34 : decode b_LR_link 34 = .ok (.getfield 27, 3) := by decide +kernel
theorem d_LR_link_37 : decode b_LR_link 37 = .ok (.iload_n 1, 1) := by decide +kernel
theorem d_LR_link_38 : decode b_LR_link 38 = .ok (.iload_n 2, 1) := by decide +kernel
theorem d_LR_link_39 : decode b_LR_link 39 = .ok (.iload_n 3, 1) := by decide +kernel
theorem d_LR_link_40 : decode b_LR_link 40 = .ok (.invokevirtual 73, 3) := by decide +kernel
theorem d_LR_link_43 : decode b_LR_link 43 = .ok (.iload_n 3, 1) := by decide +kernel
theorem d_LR_link_44 : decode b_LR_link 44 = .ok (.ifCond .ne (12), 3) := by decide +kernel
theorem d_LR_link_47 : decode b_LR_link 47 = .ok (.aload_n 0, 1) := by decide +kernel
theorem d_LR_link_48 : decode b_LR_link 48 = .ok (.iload_n 1, 1) := by decide +kernel
theorem d_LR_link_49 : decode b_LR_link 49 = .ok (.iload_n 2, 1) := by decide +kernel
theorem d_LR_link_50 : decode b_LR_link 50 = .ok (.invokevirtual 76, 3) := by decide +kernel
theorem d_LR_link_53 : decode b_LR_link 53 = .ok (.goto (36), 3) := by decide +kernel
theorem d_LR_link_56 : decode b_LR_link 56 = .ok (.iload 4, 2) := by decide +kernel
theorem d_LR_link_58 : decode b_LR_link 58 = .ok (.ifCond .ne (31), 3) := by decide +kernel
theorem d_LR_link_61 : decode b_LR_link 61 = .ok (.aload_n 0, 1) := by decide +kernel
theorem d_LR_link_62 : decode b_LR_link 62 = .ok (.iload_n 1, 1) := by decide +kernel
theorem d_LR_link_63 : decode b_LR_link 63 = .ok (.iload_n 2, 1) := by decide +kernel
theorem d_LR_link_64 : decode b_LR_link 64 = .ok (.invokestatic 9, 3) := by decide +kernel
theorem d_LR_link_67 : decode b_LR_link 67 = .ok (.iload_n 1, 1) := by decide +kernel
theorem d_LR_link_68 : decode b_LR_link 68 = .ok (.iload_n 2, 1) := by decide +kernel
theorem d_LR_link_69 : decode b_LR_link 69 = .ok (.invokestatic 15, 3) := by decide +kernel
theorem d_LR_link_72 : decode b_LR_link 72 = .ok (.invokevirtual 79, 3) := by decide +kernel
theorem d_LR_link_75 : decode b_LR_link 75 = .ok (.aload_n 0, 1) := by decide +kernel
theorem d_LR_link_76 : decode b_LR_link 76 = .ok (.iload_n 1, 1) := by decide +kernel
theorem d_LR_link_77 : decode b_LR_link 77 = .ok (.iload_n 2, 1) := by decide +kernel
theorem d_LR_link_78 : decode b_LR_link 78 = .ok (.invokestatic 15, 3) := by decide +kernel
theorem d_LR_link_81 : decode b_LR_link 81 = .ok (.iload_n 1, 1) := by decide +kernel
theorem d_LR_link_82 : decode b_LR_link 82 = .ok (.iload_n 2, 1) := by decide +kernel
theorem d_LR_link_83 : decode b_LR_link 83 = .ok (.invokestatic 9, 3) := by decide +kernel
theorem d_LR_link_86 : decode b_LR_link 86 = .ok (.invokevirtual 79, 3) := by decide +kernel
theorem d_LR_link_89 : decode b_LR_link 89 = .ok (.aload_n 0, 1) := by decide +kernel
theorem d_LR_link_90 : decode b_LR_link 90 = .ok (.invokevirtual 82, 3) := by decide +kernel
theorem d_LR_link_93 : decode b_LR_link 93 = .ok (.iload 4, 2) := by decide +kernel
theorem d_LR_link_95 : decode b_LR_link 95 = .ok (.ireturn, 1) := by decide +kernel
theorem k_LR_link : Cond.code y_LR_link b_LR_link 5 (some .int) ∈ WS := ws_t 171 (by decide +kernel) (by decide +kernel)
theorem hd_LR_link : y_LR_link.cls = R_LR ∧ y_LR_link.cls ≠ "java/lang/invoke/MethodHandle" ∧ y_LR_link.cls ≠ "java/lang/invoke/VarHandle" ∧ (parseMethodDescriptor y_LR_link.desc).map (fun d => d.parameters.length) = some 3 := by decide +kernel
abbrev b_LR_own : ByteArray := prog_1_method_3_code
abbrev y_LR_own : MethodName := ⟨"LabelRoads", "own", "(II)I"⟩
theorem d_LR_own_0 : decode b_LR_own 0 = .ok (.iload_n 1, 1) := by decide +kernel
theorem d_LR_own_1 : decode b_LR_own 1 = .ok (.invokestatic 85, 3) := by decide +kernel
theorem d_LR_own_4 : decode b_LR_own 4 = .ok (.aload_n 0, 1) := by decide +kernel
theorem d_LR_own_5 : decode b_LR_own 5 = .ok (.iload_n 2, 1) := by decide +kernel
theorem d_LR_own_6 : decode b_LR_own 6 = .ok (.invokevirtual 88, 3) := by decide +kernel
theorem d_LR_own_9 : decode b_LR_own 9 = .ok (.aload_n 0, 1) := by decide +kernel
theorem d_LR_own_10 : decode b_LR_own 10 = .ok (.getfield 27, 3) := by decide +kernel
theorem d_LR_own_13 : decode b_LR_own 13 = .ok (.iload_n 1, 1) := by decide +kernel
theorem d_LR_own_14 : decode b_LR_own 14 = .ok (.invokevirtual 91, 3) := by decide +kernel
theorem d_LR_own_17 : decode b_LR_own 17 = .ok (.istore_n 3, 1) := by decide +kernel
theorem d_LR_own_18 : decode b_LR_own 18 = .ok (.iload_n 2, 1) := by decide +kernel
theorem d_LR_own_19 : decode b_LR_own 19 = .ok (.iload_n 3, 1) := by decide +kernel
theorem d_LR_own_20 : decode b_LR_own 20 = .ok (.if_icmp .eq (16), 3) := by decide +kernel
theorem d_LR_own_23 : decode b_LR_own 23 = .ok (.aload_n 0, 1) := by decide +kernel
theorem d_LR_own_24 : decode b_LR_own 24 = .ok (.getfield 27, 3) := by decide +kernel
theorem d_LR_own_27 : decode b_LR_own 27 = .ok (.iload_n 1, 1) := by decide +kernel
theorem d_LR_own_28 : decode b_LR_own 28 = .ok (.iload_n 2, 1) := by decide +kernel
theorem d_LR_own_29 : decode b_LR_own 29 = .ok (.invokevirtual 95, 3) := by decide +kernel
theorem d_LR_own_32 : decode b_LR_own 32 = .ok (.aload_n 0, 1) := by decide +kernel
theorem d_LR_own_33 : decode b_LR_own 33 = .ok (.invokevirtual 82, 3) := by decide +kernel
theorem d_LR_own_36 : decode b_LR_own 36 = .ok (.iload_n 3, 1) := by decide +kernel
theorem d_LR_own_37 : decode b_LR_own 37 = .ok (.ireturn, 1) := by decide +kernel
theorem k_LR_own : Cond.code y_LR_own b_LR_own 4 (some .int) ∈ WS := ws_t 366 (by decide +kernel) (by decide +kernel)
theorem hd_LR_own : y_LR_own.cls = R_LR ∧ y_LR_own.cls ≠ "java/lang/invoke/MethodHandle" ∧ y_LR_own.cls ≠ "java/lang/invoke/VarHandle" ∧ (parseMethodDescriptor y_LR_own.desc).map (fun d => d.parameters.length) = some 2 := by decide +kernel
abbrev b_LR_serve : ByteArray := prog_1_method_4_code
abbrev y_LR_serve : MethodName := ⟨"LabelRoads", "serve", "(II)I"⟩
theorem d_LR_serve_0 : decode b_LR_serve 0 = .ok (.iload_n 1, 1) := by decide +kernel
theorem d_LR_serve_1 : decode b_LR_serve 1 = .ok (.iconst 0, 1) := by decide +kernel
theorem d_LR_serve_2 : decode b_LR_serve 2 = .ok (.iconst 3, 1) := by decide +kernel
theorem d_LR_serve_3 : decode b_LR_serve 3 = .ok (.invokestatic 66, 3) := by decide +kernel
theorem d_LR_serve_6 : decode b_LR_serve 6 = .ok (.aload_n 0, 1) := by decide +kernel
theorem d_LR_serve_7 : decode b_LR_serve 7 = .ok (.iload_n 2, 1) := by decide +kernel
theorem d_LR_serve_8 : decode b_LR_serve 8 = .ok (.invokevirtual 88, 3) := by decide +kernel
theorem d_LR_serve_11 : decode b_LR_serve 11 = .ok (.aload_n 0, 1) := by decide +kernel
theorem d_LR_serve_12 : decode b_LR_serve 12 = .ok (.getfield 45, 3) := by decide +kernel
theorem d_LR_serve_15 : decode b_LR_serve 15 = .ok (.iload_n 1, 1) := by decide +kernel
theorem d_LR_serve_16 : decode b_LR_serve 16 = .ok (.iaload, 1) := by decide +kernel
theorem d_LR_serve_17 : decode b_LR_serve 17 = .ok (.istore_n 3, 1) := by decide +kernel
theorem d_LR_serve_18 : decode b_LR_serve 18 = .ok (.aload_n 0, 1) := by decide +kernel
theorem d_LR_serve_19 : decode b_LR_serve 19 = .ok (.getfield 45, 3) := by decide +kernel
theorem d_LR_serve_22 : decode b_LR_serve 22 = .ok (.iload_n 1, 1) := by decide +kernel
theorem d_LR_serve_23 : decode b_LR_serve 23 = .ok (.iload_n 2, 1) := by decide +kernel
theorem d_LR_serve_24 : decode b_LR_serve 24 = .ok (.iastore, 1) := by decide +kernel
theorem d_LR_serve_25 : decode b_LR_serve 25 = .ok (.iload_n 3, 1) := by decide +kernel
theorem d_LR_serve_26 : decode b_LR_serve 26 = .ok (.ireturn, 1) := by decide +kernel
theorem k_LR_serve : Cond.code y_LR_serve b_LR_serve 4 (some .int) ∈ WS := ws_t 388 (by decide +kernel) (by decide +kernel)
theorem hd_LR_serve : y_LR_serve.cls = R_LR ∧ y_LR_serve.cls ≠ "java/lang/invoke/MethodHandle" ∧ y_LR_serve.cls ≠ "java/lang/invoke/VarHandle" ∧ (parseMethodDescriptor y_LR_serve.desc).map (fun d => d.parameters.length) = some 2 := by decide +kernel
abbrev b_LR_step : ByteArray := prog_1_method_5_code
abbrev y_LR_step : MethodName := ⟨"LabelRoads", "step", "(II)I"⟩
theorem d_LR_step_0 : decode b_LR_step 0 = .ok (.aload_n 0, 1) := by decide +kernel
theorem d_LR_step_1 : decode b_LR_step 1 = .ok (.iload_n 1, 1) := by decide +kernel
theorem d_LR_step_2 : decode b_LR_step 2 = .ok (.iload_n 2, 1) := by decide +kernel
theorem d_LR_step_3 : decode b_LR_step 3 = .ok (.invokevirtual 62, 3) := by decide +kernel
theorem d_LR_step_6 : decode b_LR_step 6 = .ok (.aload_n 0, 1) := by decide +kernel
theorem d_LR_step_7 : decode b_LR_step 7 = .ok (.getfield 34, 3) := by decide +kernel
theorem d_LR_step_10 : decode b_LR_step 10 = .ok (.iload_n 1, 1) := by decide +kernel
theorem d_LR_step_11 : decode b_LR_step 11 = .ok (.iload_n 2, 1) := by decide +kernel
theorem d_LR_step_12 : decode b_LR_step 12 = .ok (.invokevirtual 98, 3) := by decide +kernel
theorem d_LR_step_15 : decode b_LR_step 15 = .ok (.istore_n 3, 1) := by decide +kernel
theorem d_LR_step_16 : decode b_LR_step 16 = .ok (.iload_n 3, 1) := by decide +kernel
theorem d_LR_step_17 : decode b_LR_step 17 = .ok (.iconst (-1), 1) := by decide +kernel
theorem d_LR_step_18 : decode b_LR_step 18 = .ok (.if_icmp .ne (5), 3) := by decide +kernel
theorem d_LR_step_21 : decode b_LR_step 21 = .ok (.iconst 0, 1) := by decide +kernel
theorem d_LR_step_22 : decode b_LR_step 22 = .ok (.ireturn, 1) := by decide +kernel
theorem d_LR_step_23 : decode b_LR_step 23 = .ok (.aload_n 0, 1) := by decide +kernel
theorem d_LR_step_24 : decode b_LR_step 24 = .ok (.getfield 34, 3) := by decide +kernel
theorem d_LR_step_27 : decode b_LR_step 27 = .ok (.iload_n 3, 1) := by decide +kernel
theorem d_LR_step_28 : decode b_LR_step 28 = .ok (.invokevirtual 101, 3) := by decide +kernel
theorem d_LR_step_31 : decode b_LR_step 31 = .ok (.istore 4, 2) := by decide +kernel
theorem d_LR_step_33 : decode b_LR_step 33 = .ok (.aload_n 0, 1) := by decide +kernel
theorem d_LR_step_34 : decode b_LR_step 34 = .ok (.iload 4, 2) := by decide +kernel
theorem d_LR_step_36 : decode b_LR_step 36 = .ok (.invokevirtual 104, 3) := by decide +kernel
theorem d_LR_step_39 : decode b_LR_step 39 = .ok (.iload 4, 2) := by decide +kernel
theorem d_LR_step_41 : decode b_LR_step 41 = .ok (.invokestatic 107, 3) := by decide +kernel
theorem d_LR_step_44 : decode b_LR_step 44 = .ok (.ireturn, 1) := by decide +kernel
theorem k_LR_step : Cond.code y_LR_step b_LR_step 5 (some .int) ∈ WS := ws_t 395 (by decide +kernel) (by decide +kernel)
theorem hd_LR_step : y_LR_step.cls = R_LR ∧ y_LR_step.cls ≠ "java/lang/invoke/MethodHandle" ∧ y_LR_step.cls ≠ "java/lang/invoke/VarHandle" ∧ (parseMethodDescriptor y_LR_step.desc).map (fun d => d.parameters.length) = some 2 := by decide +kernel
abbrev b_LR_run : ByteArray := prog_1_method_6_code
abbrev y_LR_run : MethodName := ⟨"LabelRoads", "run", "(I)I"⟩
theorem d_LR_run_0 : decode b_LR_run 0 = .ok (.iload_n 1, 1) := by decide +kernel
theorem d_LR_run_1 : decode b_LR_run 1 = .ok (.iconst 0, 1) := by decide +kernel
theorem d_LR_run_2 : decode b_LR_run 2 = .ok (.sipush 400, 3) := by decide +kernel
theorem d_LR_run_5 : decode b_LR_run 5 = .ok (.invokestatic 66, 3) := by decide +kernel
theorem d_LR_run_8 : decode b_LR_run 8 = .ok (.iconst 0, 1) := by decide +kernel
theorem d_LR_run_9 : decode b_LR_run 9 = .ok (.istore_n 2, 1) := by decide +kernel
theorem d_LR_run_10 : decode b_LR_run 10 = .ok (.iload_n 2, 1) := by decide +kernel
theorem d_LR_run_11 : decode b_LR_run 11 = .ok (.iload_n 1, 1) := by decide +kernel
theorem d_LR_run_12 : decode b_LR_run 12 = .ok (.if_icmp .ge (31), 3) := by decide +kernel
theorem d_LR_run_15 : decode b_LR_run 15 = .ok (.aload_n 0, 1) := by decide +kernel
theorem d_LR_run_16 : decode b_LR_run 16 = .ok (.getfield 34, 3) := by decide +kernel
theorem d_LR_run_19 : decode b_LR_run 19 = .ok (.invokevirtual 110, 3) := by decide +kernel
theorem d_LR_run_22 : decode b_LR_run 22 = .ok (.ifCond .le (21), 3) := by decide +kernel
theorem d_LR_run_25 : decode b_LR_run 25 = .ok (.aload_n 0, 1) := by decide +kernel
theorem d_LR_run_26 : decode b_LR_run 26 = .ok (.aload_n 0, 1) := by decide +kernel
theorem d_LR_run_27 : decode b_LR_run 27 = .ok (.getfield 34, 3) := by decide +kernel
theorem d_LR_run_30 : decode b_LR_run 30 = .ok (.iconst 0, 1) := by decide +kernel
theorem d_LR_run_31 : decode b_LR_run 31 = .ok (.invokevirtual 101, 3) := by decide +kernel
theorem d_LR_run_34 : decode b_LR_run 34 = .ok (.invokevirtual 104, 3) := by decide +kernel
theorem d_LR_run_37 : decode b_LR_run 37 = .ok (.iinc 2 (1), 3) := by decide +kernel
theorem d_LR_run_40 : decode b_LR_run 40 = .ok (.goto (-30), 3) := by decide +kernel
theorem d_LR_run_43 : decode b_LR_run 43 = .ok (.iload_n 2, 1) := by decide +kernel
theorem d_LR_run_44 : decode b_LR_run 44 = .ok (.ireturn, 1) := by decide +kernel
theorem k_LR_run : Cond.code y_LR_run b_LR_run 3 (some .int) ∈ WS := ws_t 437 (by decide +kernel) (by decide +kernel)
theorem hd_LR_run : y_LR_run.cls = R_LR ∧ y_LR_run.cls ≠ "java/lang/invoke/MethodHandle" ∧ y_LR_run.cls ≠ "java/lang/invoke/VarHandle" ∧ (parseMethodDescriptor y_LR_run.desc).map (fun d => d.parameters.length) = some 1 := by decide +kernel
abbrev b_LR_waiting : ByteArray := prog_1_method_7_code
abbrev y_LR_waiting : MethodName := ⟨"LabelRoads", "waiting", "()I"⟩
theorem d_LR_waiting_0 : decode b_LR_waiting 0 = .ok (.aload_n 0, 1) := by decide +kernel
theorem d_LR_waiting_1 : decode b_LR_waiting 1 = .ok (.getfield 34, 3) := by decide +kernel
theorem d_LR_waiting_4 : decode b_LR_waiting 4 = .ok (.invokevirtual 110, 3) := by decide +kernel
theorem d_LR_waiting_7 : decode b_LR_waiting 7 = .ok (.ireturn, 1) := by decide +kernel
theorem k_LR_waiting : Cond.code y_LR_waiting b_LR_waiting 1 (some .int) ∈ WS := ws_t 140 (by decide +kernel) (by decide +kernel)
theorem hd_LR_waiting : y_LR_waiting.cls = R_LR ∧ y_LR_waiting.cls ≠ "java/lang/invoke/MethodHandle" ∧ y_LR_waiting.cls ≠ "java/lang/invoke/VarHandle" ∧ (parseMethodDescriptor y_LR_waiting.desc).map (fun d => d.parameters.length) = some 0 := by decide +kernel
abbrev b_LR_lost : ByteArray := prog_1_method_8_code
abbrev y_LR_lost : MethodName := ⟨"LabelRoads", "lost", "()I"⟩
theorem d_LR_lost_0 : decode b_LR_lost 0 = .ok (.aload_n 0, 1) := by decide +kernel
theorem d_LR_lost_1 : decode b_LR_lost 1 = .ok (.getfield 34, 3) := by decide +kernel
theorem d_LR_lost_4 : decode b_LR_lost 4 = .ok (.invokevirtual 113, 3) := by decide +kernel
theorem d_LR_lost_7 : decode b_LR_lost 7 = .ok (.ireturn, 1) := by decide +kernel
theorem k_LR_lost : Cond.code y_LR_lost b_LR_lost 1 (some .int) ∈ WS := ws_t 148 (by decide +kernel) (by decide +kernel)
theorem hd_LR_lost : y_LR_lost.cls = R_LR ∧ y_LR_lost.cls ≠ "java/lang/invoke/MethodHandle" ∧ y_LR_lost.cls ≠ "java/lang/invoke/VarHandle" ∧ (parseMethodDescriptor y_LR_lost.desc).map (fun d => d.parameters.length) = some 0 := by decide +kernel
abbrev b_LR_distance : ByteArray := prog_1_method_9_code
abbrev y_LR_distance : MethodName := ⟨"LabelRoads", "distance", "(II)I"⟩
theorem d_LR_distance_0 : decode b_LR_distance 0 = .ok (.aload_n 0, 1) := by decide +kernel
theorem d_LR_distance_1 : decode b_LR_distance 1 = .ok (.iload_n 1, 1) := by decide +kernel
theorem d_LR_distance_2 : decode b_LR_distance 2 = .ok (.invokevirtual 116, 3) := by decide +kernel
theorem d_LR_distance_5 : decode b_LR_distance 5 = .ok (.iload_n 2, 1) := by decide +kernel
theorem d_LR_distance_6 : decode b_LR_distance 6 = .ok (.invokestatic 85, 3) := by decide +kernel
theorem d_LR_distance_9 : decode b_LR_distance 9 = .ok (.aload_n 0, 1) := by decide +kernel
theorem d_LR_distance_10 : decode b_LR_distance 10 = .ok (.getfield 27, 3) := by decide +kernel
theorem d_LR_distance_13 : decode b_LR_distance 13 = .ok (.iload_n 1, 1) := by decide +kernel
theorem d_LR_distance_14 : decode b_LR_distance 14 = .ok (.iload_n 2, 1) := by decide +kernel
theorem d_LR_distance_15 : decode b_LR_distance 15 = .ok (.invokevirtual 119, 3) := by decide +kernel
theorem d_LR_distance_18 : decode b_LR_distance 18 = .ok (.ireturn, 1) := by decide +kernel
theorem k_LR_distance : Cond.code y_LR_distance b_LR_distance 3 (some .int) ∈ WS := ws_t 444 (by decide +kernel) (by decide +kernel)
theorem hd_LR_distance : y_LR_distance.cls = R_LR ∧ y_LR_distance.cls ≠ "java/lang/invoke/MethodHandle" ∧ y_LR_distance.cls ≠ "java/lang/invoke/VarHandle" ∧ (parseMethodDescriptor y_LR_distance.desc).map (fun d => d.parameters.length) = some 2 := by decide +kernel
abbrev b_LR_next : ByteArray := prog_1_method_10_code
abbrev y_LR_next : MethodName := ⟨"LabelRoads", "next", "(II)I"⟩
theorem d_LR_next_0 : decode b_LR_next 0 = .ok (.aload_n 0, 1) := by decide +kernel
theorem d_LR_next_1 : decode b_LR_next 1 = .ok (.iload_n 1, 1) := by decide +kernel
theorem d_LR_next_2 : decode b_LR_next 2 = .ok (.invokevirtual 116, 3) := by decide +kernel
theorem d_LR_next_5 : decode b_LR_next 5 = .ok (.iload_n 2, 1) := by decide +kernel
theorem d_LR_next_6 : decode b_LR_next 6 = .ok (.invokestatic 85, 3) := by decide +kernel
theorem d_LR_next_9 : decode b_LR_next 9 = .ok (.aload_n 0, 1) := by decide +kernel
theorem d_LR_next_10 : decode b_LR_next 10 = .ok (.getfield 27, 3) := by decide +kernel
theorem d_LR_next_13 : decode b_LR_next 13 = .ok (.iload_n 1, 1) := by decide +kernel
theorem d_LR_next_14 : decode b_LR_next 14 = .ok (.iload_n 2, 1) := by decide +kernel
theorem d_LR_next_15 : decode b_LR_next 15 = .ok (.invokevirtual 122, 3) := by decide +kernel
theorem d_LR_next_18 : decode b_LR_next 18 = .ok (.ireturn, 1) := by decide +kernel
theorem k_LR_next : Cond.code y_LR_next b_LR_next 3 (some .int) ∈ WS := ws_t 455 (by decide +kernel) (by decide +kernel)
theorem hd_LR_next : y_LR_next.cls = R_LR ∧ y_LR_next.cls ≠ "java/lang/invoke/MethodHandle" ∧ y_LR_next.cls ≠ "java/lang/invoke/VarHandle" ∧ (parseMethodDescriptor y_LR_next.desc).map (fun d => d.parameters.length) = some 2 := by decide +kernel
abbrev b_LR_label : ByteArray := prog_1_method_11_code
abbrev y_LR_label : MethodName := ⟨"LabelRoads", "label", "(II)I"⟩
theorem d_LR_label_0 : decode b_LR_label 0 = .ok (.aload_n 0, 1) := by decide +kernel
theorem d_LR_label_1 : decode b_LR_label 1 = .ok (.iload_n 1, 1) := by decide +kernel
theorem d_LR_label_2 : decode b_LR_label 2 = .ok (.invokevirtual 116, 3) := by decide +kernel
theorem d_LR_label_5 : decode b_LR_label 5 = .ok (.iload_n 2, 1) := by decide +kernel
theorem d_LR_label_6 : decode b_LR_label 6 = .ok (.invokestatic 85, 3) := by decide +kernel
theorem d_LR_label_9 : decode b_LR_label 9 = .ok (.aload_n 0, 1) := by decide +kernel
theorem d_LR_label_10 : decode b_LR_label 10 = .ok (.getfield 40, 3) := by decide +kernel
theorem d_LR_label_13 : decode b_LR_label 13 = .ok (.iload_n 1, 1) := by decide +kernel
theorem d_LR_label_14 : decode b_LR_label 14 = .ok (.aaload, 1) := by decide +kernel
theorem d_LR_label_15 : decode b_LR_label 15 = .ok (.iload_n 2, 1) := by decide +kernel
theorem d_LR_label_16 : decode b_LR_label 16 = .ok (.invokevirtual 125, 3) := by decide +kernel
theorem d_LR_label_19 : decode b_LR_label 19 = .ok (.ireturn, 1) := by decide +kernel
theorem k_LR_label : Cond.code y_LR_label b_LR_label 3 (some .int) ∈ WS := ws_t 462 (by decide +kernel) (by decide +kernel)
theorem hd_LR_label : y_LR_label.cls = R_LR ∧ y_LR_label.cls ≠ "java/lang/invoke/MethodHandle" ∧ y_LR_label.cls ≠ "java/lang/invoke/VarHandle" ∧ (parseMethodDescriptor y_LR_label.desc).map (fun d => d.parameters.length) = some 2 := by decide +kernel
abbrev b_LR_told : ByteArray := prog_1_method_12_code
abbrev y_LR_told : MethodName := ⟨"LabelRoads", "told", "(III)I"⟩
theorem d_LR_told_0 : decode b_LR_told 0 = .ok (.aload_n 0, 1) := by decide +kernel
theorem d_LR_told_1 : decode b_LR_told 1 = .ok (.iload_n 1, 1) := by decide +kernel
theorem d_LR_told_2 : decode b_LR_told 2 = .ok (.iload_n 2, 1) := by decide +kernel
theorem d_LR_told_3 : decode b_LR_told 3 = .ok (.invokevirtual 62, 3) := by decide +kernel
theorem d_LR_told_6 : decode b_LR_told 6 = .ok (.iload_n 3, 1) := by decide +kernel
theorem d_LR_told_7 : decode b_LR_told 7 = .ok (.invokestatic 85, 3) := by decide +kernel
theorem d_LR_told_10 : decode b_LR_told 10 = .ok (.aload_n 0, 1) := by decide +kernel
theorem d_LR_told_11 : decode b_LR_told 11 = .ok (.getfield 40, 3) := by decide +kernel
theorem d_LR_told_14 : decode b_LR_told 14 = .ok (.iload_n 1, 1) := by decide +kernel
theorem d_LR_told_15 : decode b_LR_told 15 = .ok (.aaload, 1) := by decide +kernel
theorem d_LR_told_16 : decode b_LR_told 16 = .ok (.iload_n 2, 1) := by decide +kernel
theorem d_LR_told_17 : decode b_LR_told 17 = .ok (.iload_n 3, 1) := by decide +kernel
theorem d_LR_told_18 : decode b_LR_told 18 = .ok (.invokevirtual 128, 3) := by decide +kernel
theorem d_LR_told_21 : decode b_LR_told 21 = .ok (.ireturn, 1) := by decide +kernel
theorem k_LR_told : Cond.code y_LR_told b_LR_told 4 (some .int) ∈ WS := ws_t 469 (by decide +kernel) (by decide +kernel)
theorem hd_LR_told : y_LR_told.cls = R_LR ∧ y_LR_told.cls ≠ "java/lang/invoke/MethodHandle" ∧ y_LR_told.cls ≠ "java/lang/invoke/VarHandle" ∧ (parseMethodDescriptor y_LR_told.desc).map (fun d => d.parameters.length) = some 3 := by decide +kernel
abbrev b_LR_taken : ByteArray := prog_1_method_13_code
abbrev y_LR_taken : MethodName := ⟨"LabelRoads", "taken", "(I)I"⟩
theorem d_LR_taken_0 : decode b_LR_taken 0 = .ok (.aload_n 0, 1) := by decide +kernel
theorem d_LR_taken_1 : decode b_LR_taken 1 = .ok (.iload_n 1, 1) := by decide +kernel
theorem d_LR_taken_2 : decode b_LR_taken 2 = .ok (.invokevirtual 116, 3) := by decide +kernel
theorem d_LR_taken_5 : decode b_LR_taken 5 = .ok (.aload_n 0, 1) := by decide +kernel
theorem d_LR_taken_6 : decode b_LR_taken 6 = .ok (.getfield 40, 3) := by decide +kernel
theorem d_LR_taken_9 : decode b_LR_taken 9 = .ok (.iload_n 1, 1) := by decide +kernel
theorem d_LR_taken_10 : decode b_LR_taken 10 = .ok (.aaload, 1) := by decide +kernel
theorem d_LR_taken_11 : decode b_LR_taken 11 = .ok (.invokevirtual 131, 3) := by decide +kernel
theorem d_LR_taken_14 : decode b_LR_taken 14 = .ok (.ireturn, 1) := by decide +kernel
theorem k_LR_taken : Cond.code y_LR_taken b_LR_taken 2 (some .int) ∈ WS := ws_t 476 (by decide +kernel) (by decide +kernel)
theorem hd_LR_taken : y_LR_taken.cls = R_LR ∧ y_LR_taken.cls ≠ "java/lang/invoke/MethodHandle" ∧ y_LR_taken.cls ≠ "java/lang/invoke/VarHandle" ∧ (parseMethodDescriptor y_LR_taken.desc).map (fun d => d.parameters.length) = some 1 := by decide +kernel
abbrev b_LR_send : ByteArray := prog_1_method_14_code
abbrev y_LR_send : MethodName := ⟨"LabelRoads", "send", "(IIII)I"⟩
theorem d_LR_send_0 : decode b_LR_send 0 = .ok (.aload_n 0, 1) := by decide +kernel
theorem d_LR_send_1 : decode b_LR_send 1 = .ok (.iload_n 1, 1) := by decide +kernel
theorem d_LR_send_2 : decode b_LR_send 2 = .ok (.invokevirtual 116, 3) := by decide +kernel
theorem d_LR_send_5 : decode b_LR_send 5 = .ok (.iload_n 2, 1) := by decide +kernel
theorem d_LR_send_6 : decode b_LR_send 6 = .ok (.invokestatic 85, 3) := by decide +kernel
theorem d_LR_send_9 : decode b_LR_send 9 = .ok (.iload_n 3, 1) := by decide +kernel
theorem d_LR_send_10 : decode b_LR_send 10 = .ok (.iconst (-1), 1) := by decide +kernel
theorem d_LR_send_11 : decode b_LR_send 11 = .ok (.iconst 3, 1) := by decide +kernel
theorem d_LR_send_12 : decode b_LR_send 12 = .ok (.invokestatic 66, 3) := by decide +kernel
theorem d_LR_send_15 : decode b_LR_send 15 = .ok (.iload 4, 2) := by decide +kernel
theorem d_LR_send_17 : decode b_LR_send 17 = .ok (.iconst 1, 1) := by decide +kernel
theorem d_LR_send_18 : decode b_LR_send 18 = .ok (.sipush 255, 3) := by decide +kernel
theorem d_LR_send_21 : decode b_LR_send 21 = .ok (.invokestatic 66, 3) := by decide +kernel
theorem d_LR_send_24 : decode b_LR_send 24 = .ok (.aload_n 0, 1) := by decide +kernel
theorem d_LR_send_25 : decode b_LR_send 25 = .ok (.getfield 58, 3) := by decide +kernel
theorem d_LR_send_28 : decode b_LR_send 28 = .ok (.iload_n 1, 1) := by decide +kernel
theorem d_LR_send_29 : decode b_LR_send 29 = .ok (.iload_n 2, 1) := by decide +kernel
theorem d_LR_send_30 : decode b_LR_send 30 = .ok (.iload_n 3, 1) := by decide +kernel
theorem d_LR_send_31 : decode b_LR_send 31 = .ok (.iload 4, 2) := by decide +kernel
theorem d_LR_send_33 : decode b_LR_send 33 = .ok (.invokevirtual 134, 3) := by decide +kernel
theorem d_LR_send_36 : decode b_LR_send 36 = .ok (.iconst 0, 1) := by decide +kernel
theorem d_LR_send_37 : decode b_LR_send 37 = .ok (.istore 5, 2) := by decide +kernel
theorem d_LR_send_39 : decode b_LR_send 39 = .ok (.iload 5, 2) := by decide +kernel
theorem d_LR_send_41 : decode b_LR_send 41 = .ok (.iload 4, 2) := by decide +kernel
theorem d_LR_send_43 : decode b_LR_send 43 = .ok (.if_icmp .ge (24), 3) := by decide +kernel
theorem d_LR_send_46 : decode b_LR_send 46 = .ok (.aload_n 0, 1) := by decide +kernel
theorem d_LR_send_47 : decode b_LR_send 47 = .ok (.invokevirtual 138, 3) := by decide +kernel
theorem d_LR_send_50 : decode b_LR_send 50 = .ok (.istore 6, 2) := by decide +kernel
theorem d_LR_send_52 : decode b_LR_send 52 = .ok (.iload 6, 2) := by decide +kernel
theorem d_LR_send_54 : decode b_LR_send 54 = .ok (.iconst (-1), 1) := by decide +kernel
theorem d_LR_send_55 : decode b_LR_send 55 = .ok (.if_icmp .eq (6), 3) := by decide +kernel
theorem d_LR_send_58 : decode b_LR_send 58 = .ok (.iload 6, 2) := by decide +kernel
theorem d_LR_send_60 : decode b_LR_send 60 = .ok (.ireturn, 1) := by decide +kernel
theorem d_LR_send_61 : decode b_LR_send 61 = .ok (.iinc 5 (1), 3) := by decide +kernel
theorem d_LR_send_64 : decode b_LR_send 64 = .ok (.goto (-25), 3) := by decide +kernel
theorem d_LR_send_67 : decode b_LR_send 67 = .ok (.iconst 2, 1) := by decide +kernel
theorem d_LR_send_68 : decode b_LR_send 68 = .ok (.ireturn, 1) := by decide +kernel
theorem k_LR_send : Cond.code y_LR_send b_LR_send 7 (some .int) ∈ WS := ws_t 493 (by decide +kernel) (by decide +kernel)
theorem hd_LR_send : y_LR_send.cls = R_LR ∧ y_LR_send.cls ≠ "java/lang/invoke/MethodHandle" ∧ y_LR_send.cls ≠ "java/lang/invoke/VarHandle" ∧ (parseMethodDescriptor y_LR_send.desc).map (fun d => d.parameters.length) = some 4 := by decide +kernel
abbrev b_LR_hops : ByteArray := prog_1_method_15_code
abbrev y_LR_hops : MethodName := ⟨"LabelRoads", "hops", "()I"⟩
theorem d_LR_hops_0 : decode b_LR_hops 0 = .ok (.aload_n 0, 1) := by decide +kernel
theorem d_LR_hops_1 : decode b_LR_hops 1 = .ok (.getfield 58, 3) := by decide +kernel
theorem d_LR_hops_4 : decode b_LR_hops 4 = .ok (.invokevirtual 141, 3) := by decide +kernel
theorem d_LR_hops_7 : decode b_LR_hops 7 = .ok (.ireturn, 1) := by decide +kernel
theorem k_LR_hops : Cond.code y_LR_hops b_LR_hops 1 (some .int) ∈ WS := ws_t 156 (by decide +kernel) (by decide +kernel)
theorem hd_LR_hops : y_LR_hops.cls = R_LR ∧ y_LR_hops.cls ≠ "java/lang/invoke/MethodHandle" ∧ y_LR_hops.cls ≠ "java/lang/invoke/VarHandle" ∧ (parseMethodDescriptor y_LR_hops.desc).map (fun d => d.parameters.length) = some 0 := by decide +kernel
abbrev b_LR_hop : ByteArray := prog_1_method_16_code
abbrev y_LR_hop : MethodName := ⟨"LabelRoads", "hop", "(I)I"⟩
theorem d_LR_hop_0 : decode b_LR_hop 0 = .ok (.aload_n 0, 1) := by decide +kernel
theorem d_LR_hop_1 : decode b_LR_hop 1 = .ok (.iload_n 1, 1) := by decide +kernel
theorem d_LR_hop_2 : decode b_LR_hop 2 = .ok (.invokevirtual 144, 3) := by decide +kernel
theorem d_LR_hop_5 : decode b_LR_hop 5 = .ok (.aload_n 0, 1) := by decide +kernel
theorem d_LR_hop_6 : decode b_LR_hop 6 = .ok (.getfield 58, 3) := by decide +kernel
theorem d_LR_hop_9 : decode b_LR_hop 9 = .ok (.iload_n 1, 1) := by decide +kernel
theorem d_LR_hop_10 : decode b_LR_hop 10 = .ok (.invokevirtual 147, 3) := by decide +kernel
theorem d_LR_hop_13 : decode b_LR_hop 13 = .ok (.ireturn, 1) := by decide +kernel
theorem k_LR_hop : Cond.code y_LR_hop b_LR_hop 2 (some .int) ∈ WS := ws_t 566 (by decide +kernel) (by decide +kernel)
theorem hd_LR_hop : y_LR_hop.cls = R_LR ∧ y_LR_hop.cls ≠ "java/lang/invoke/MethodHandle" ∧ y_LR_hop.cls ≠ "java/lang/invoke/VarHandle" ∧ (parseMethodDescriptor y_LR_hop.desc).map (fun d => d.parameters.length) = some 1 := by decide +kernel
abbrev b_LR_entry : ByteArray := prog_1_method_17_code
abbrev y_LR_entry : MethodName := ⟨"LabelRoads", "entry", "(I)I"⟩
theorem d_LR_entry_0 : decode b_LR_entry 0 = .ok (.aload_n 0, 1) := by decide +kernel
theorem d_LR_entry_1 : decode b_LR_entry 1 = .ok (.iload_n 1, 1) := by decide +kernel
theorem d_LR_entry_2 : decode b_LR_entry 2 = .ok (.invokevirtual 144, 3) := by decide +kernel
theorem d_LR_entry_5 : decode b_LR_entry 5 = .ok (.aload_n 0, 1) := by decide +kernel
theorem d_LR_entry_6 : decode b_LR_entry 6 = .ok (.getfield 58, 3) := by decide +kernel
theorem d_LR_entry_9 : decode b_LR_entry 9 = .ok (.iload_n 1, 1) := by decide +kernel
theorem d_LR_entry_10 : decode b_LR_entry 10 = .ok (.invokevirtual 150, 3) := by decide +kernel
theorem d_LR_entry_13 : decode b_LR_entry 13 = .ok (.ireturn, 1) := by decide +kernel
theorem k_LR_entry : Cond.code y_LR_entry b_LR_entry 2 (some .int) ∈ WS := ws_t 597 (by decide +kernel) (by decide +kernel)
theorem hd_LR_entry : y_LR_entry.cls = R_LR ∧ y_LR_entry.cls ≠ "java/lang/invoke/MethodHandle" ∧ y_LR_entry.cls ≠ "java/lang/invoke/VarHandle" ∧ (parseMethodDescriptor y_LR_entry.desc).map (fun d => d.parameters.length) = some 1 := by decide +kernel
end
section
theorem in_LR : ∀ w ∈ u_ws R_LR F_LR 6, w ∈ WS := by decide +kernel
theorem in_Mail : ∀ w ∈ u_ws R_Mail F_Mail 3, w ∈ WS := by decide +kernel
theorem in_Packet : ∀ w ∈ u_ws R_Packet F_Packet 7, w ∈ WS := by decide +kernel
theorem in_Router : ∀ w ∈ u_ws R_Router F_Router 3, w ∈ WS := by decide +kernel
theorem in_Ways : ∀ w ∈ u_ws R_Ways F_Ways 4, w ∈ WS := by decide +kernel
theorem kc_Int_265 : Cond.constant "java/lang/Integer" 265 1431655765 ∈ WS := ws_t 484 (by decide +kernel) (by decide +kernel)
theorem kc_Int_266 : Cond.constant "java/lang/Integer" 266 858993459 ∈ WS := ws_t 485 (by decide +kernel) (by decide +kernel)
theorem kc_Int_267 : Cond.constant "java/lang/Integer" 267 252645135 ∈ WS := ws_t 486 (by decide +kernel) (by decide +kernel)
theorem fl_Mail_15 : Cond.fieldLink "LabelRoads$Mail" 15 "LabelRoads$Mail" "count" "I" ∈ WS := ws_t 62 (by decide +kernel) (by decide +kernel)
theorem fl_Mail_19 : Cond.fieldLink "LabelRoads$Mail" 19 "LabelRoads$Mail" "lostOnes" "I" ∈ WS := ws_t 63 (by decide +kernel) (by decide +kernel)
theorem fl_Mail_9 : Cond.fieldLink "LabelRoads$Mail" 9 "LabelRoads$Mail" "messages" "[I" ∈ WS := ws_t 61 (by decide +kernel) (by decide +kernel)
theorem fl_Packet_15 : Cond.fieldLink "LabelRoads$Packet" 15 "LabelRoads$Packet" "entries" "[I" ∈ WS := ws_t 97 (by decide +kernel) (by decide +kernel)
theorem fl_Packet_18 : Cond.fieldLink "LabelRoads$Packet" 18 "LabelRoads$Packet" "prefix" "I" ∈ WS := ws_t 99 (by decide +kernel) (by decide +kernel)
theorem fl_Packet_22 : Cond.fieldLink "LabelRoads$Packet" 22 "LabelRoads$Packet" "service" "I" ∈ WS := ws_t 100 (by decide +kernel) (by decide +kernel)
theorem fl_Packet_25 : Cond.fieldLink "LabelRoads$Packet" 25 "LabelRoads$Packet" "ttl" "I" ∈ WS := ws_t 101 (by decide +kernel) (by decide +kernel)
theorem fl_Packet_28 : Cond.fieldLink "LabelRoads$Packet" 28 "LabelRoads$Packet" "top" "I" ∈ WS := ws_t 102 (by decide +kernel) (by decide +kernel)
theorem fl_Packet_31 : Cond.fieldLink "LabelRoads$Packet" 31 "LabelRoads$Packet" "count" "I" ∈ WS := ws_t 98 (by decide +kernel) (by decide +kernel)
theorem fl_Packet_9 : Cond.fieldLink "LabelRoads$Packet" 9 "LabelRoads$Packet" "trail" "[I" ∈ WS := ws_t 96 (by decide +kernel) (by decide +kernel)
theorem fl_Router_17 : Cond.fieldLink "LabelRoads$Router" 17 "LabelRoads$Router" "toldLabels" "[[I" ∈ WS := ws_t 80 (by decide +kernel) (by decide +kernel)
theorem fl_Router_20 : Cond.fieldLink "LabelRoads$Router" 20 "LabelRoads$Router" "awaited" "[I" ∈ WS := ws_t 81 (by decide +kernel) (by decide +kernel)
theorem fl_Router_9 : Cond.fieldLink "LabelRoads$Router" 9 "LabelRoads$Router" "labels" "[I" ∈ WS := ws_t 79 (by decide +kernel) (by decide +kernel)
theorem fl_Ways_17 : Cond.fieldLink "LabelRoads$Ways" 17 "LabelRoads$Ways" "costs" "[[I" ∈ WS := ws_t 42 (by decide +kernel) (by decide +kernel)
theorem fl_Ways_20 : Cond.fieldLink "LabelRoads$Ways" 20 "LabelRoads$Ways" "owners" "[I" ∈ WS := ws_t 43 (by decide +kernel) (by decide +kernel)
theorem fl_Ways_30 : Cond.fieldLink "LabelRoads$Ways" 30 "LabelRoads$Ways" "distances" "[[I" ∈ WS := ws_t 44 (by decide +kernel) (by decide +kernel)
theorem fl_Ways_9 : Cond.fieldLink "LabelRoads$Ways" 9 "LabelRoads$Ways" "size" "I" ∈ WS := ws_t 41 (by decide +kernel) (by decide +kernel)
theorem fl_LR_18 : Cond.fieldLink "LabelRoads" 18 "LabelRoads" "size" "I" ∈ WS := ws_t 118 (by decide +kernel) (by decide +kernel)
theorem fl_LR_27 : Cond.fieldLink "LabelRoads" 27 "LabelRoads" "ways" "LLabelRoads$Ways;" ∈ WS := ws_t 119 (by decide +kernel) (by decide +kernel)
theorem fl_LR_34 : Cond.fieldLink "LabelRoads" 34 "LabelRoads" "mail" "LLabelRoads$Mail;" ∈ WS := ws_t 120 (by decide +kernel) (by decide +kernel)
theorem fl_LR_40 : Cond.fieldLink "LabelRoads" 40 "LabelRoads" "routers" "[LLabelRoads$Router;" ∈ WS := ws_t 121 (by decide +kernel) (by decide +kernel)
theorem fl_LR_45 : Cond.fieldLink "LabelRoads" 45 "LabelRoads" "places" "[I" ∈ WS := ws_t 122 (by decide +kernel) (by decide +kernel)
theorem fl_LR_58 : Cond.fieldLink "LabelRoads" 58 "LabelRoads" "packet" "LLabelRoads$Packet;" ∈ WS := ws_t 123 (by decide +kernel) (by decide +kernel)
theorem ml_Mail_29 : Cond.methodLink "LabelRoads$Mail" 29 arraycopyName ∈ WS := ws_t 404 (by decide +kernel) (by decide +kernel)
theorem ac_nat : Cond.native arraycopyName ∈ WS := ws_t 406 (by decide +kernel) (by decide +kernel)
theorem ac_st : Cond.static arraycopyName ∈ WS := ws_t 405 (by decide +kernel) (by decide +kernel)
theorem ac_ini : Cond.initialized "java/lang/System" ∈ WS := ws_t 13 (by decide +kernel) (by decide +kernel)
theorem ml_Ways_45 : Cond.methodLink "LabelRoads$Ways" 45 Lib.Math.min.name ∈ WS := ws_t 271 (by decide +kernel) (by decide +kernel)
theorem ma_smin : Cond.static Lib.Math.min.name ∈ WS := ws_t 25 (by decide +kernel) (by decide +kernel)
theorem ma_cmin : Cond.code Lib.Math.min.name Lib.Math.min.code 2 (some .int) ∈ WS := ws_t 26 (by decide +kernel) (by decide +kernel)
theorem ma_ini : Cond.initialized "java/lang/Math" ∈ WS := ws_t 2 (by decide +kernel) (by decide +kernel)
theorem ml_LR_15 : Cond.methodLink "LabelRoads" 15 Lib.Math.max.name ∈ WS := ws_t 27 (by decide +kernel) (by decide +kernel)
theorem ma_smax : Cond.static Lib.Math.max.name ∈ WS := ws_t 28 (by decide +kernel) (by decide +kernel)
theorem ma_cmax : Cond.code Lib.Math.max.name Lib.Math.max.code 2 (some .int) ∈ WS := ws_t 29 (by decide +kernel) (by decide +kernel)
theorem ml_LR_9 : Cond.methodLink "LabelRoads" 9 Lib.Math.min.name ∈ WS := ws_t 24 (by decide +kernel) (by decide +kernel)
theorem g_Mail_22 : GoodIn WS (va_wsS "LabelRoads$Mail" 22 y_Mail_fromOf (wc y_Mail_fromOf b_Mail_fromOf 1 (some .int))) := wt_good (ws_t 280 (by decide +kernel) (by decide +kernel)) (ws_t 281 (by decide +kernel) (by decide +kernel)) (ws_t 5 (by decide +kernel) (by decide +kernel)) k_Mail_fromOf
theorem g_Mail_26 : GoodIn WS (va_wsS "LabelRoads$Mail" 26 y_Mail_toOf (wc y_Mail_toOf b_Mail_toOf 1 (some .int))) := wt_good (ws_t 283 (by decide +kernel) (by decide +kernel)) (ws_t 284 (by decide +kernel) (by decide +kernel)) (ws_t 5 (by decide +kernel) (by decide +kernel)) k_Mail_toOf
theorem g_Packet_34 : GoodIn WS (wsV "LabelRoads$Packet" 34 R_Packet y_Packet_isForService (wc y_Packet_isForService b_Packet_isForService 1 (some .boolean))) := wv_good (ws_t 498 (by decide +kernel) (by decide +kernel)) (ws_t 499 (by decide +kernel) (by decide +kernel)) (ws_t 500 (by decide +kernel) (by decide +kernel)) (ws_t 7 (by decide +kernel) (by decide +kernel)) k_Packet_isForService
theorem g_Packet_38 : GoodIn WS (wsV "LabelRoads$Packet" 38 R_Packet y_Packet_entryOf (wc y_Packet_entryOf b_Packet_entryOf 3 (some .int))) := wv_good (ws_t 502 (by decide +kernel) (by decide +kernel)) (ws_t 504 (by decide +kernel) (by decide +kernel)) (ws_p (q := (y_Packet_entryOf, 7)) 16 (by decide +kernel)) (ws_t 7 (by decide +kernel) (by decide +kernel)) k_Packet_entryOf
theorem g_Packet_42 : GoodIn WS (wsV "LabelRoads$Packet" 42 R_Packet y_Packet_note (wc y_Packet_note b_Packet_note 3 (none))) := wv_good (ws_t 506 (by decide +kernel) (by decide +kernel)) (ws_t 508 (by decide +kernel) (by decide +kernel)) (ws_p (q := (y_Packet_note, 7)) 17 (by decide +kernel)) (ws_t 7 (by decide +kernel) (by decide +kernel)) k_Packet_note
theorem g_Router_23 : GoodIn WS (wsV "LabelRoads$Router" 23 R_Router y_Router_takenBits (wc y_Router_takenBits b_Router_takenBits 3 (some .int))) := wv_good (ws_t 343 (by decide +kernel) (by decide +kernel)) (ws_t 345 (by decide +kernel) (by decide +kernel)) (ws_p (q := (y_Router_takenBits, 3)) 12 (by decide +kernel)) (ws_t 6 (by decide +kernel) (by decide +kernel)) k_Router_takenBits
theorem g_Router_27 : GoodIn WS (va_wsS "LabelRoads$Router" 27 y_Int_bitCount (wc y_Int_bitCount b_Int_bitCount 1 (some .int))) := wt_good (ws_t 481 (by decide +kernel) (by decide +kernel)) (ws_t 482 (by decide +kernel) (by decide +kernel)) (ws_t 14 (by decide +kernel) (by decide +kernel)) k_Int_bitCount
theorem g_Router_33 : GoodIn WS (va_wsS "LabelRoads$Router" 33 y_Arr_fill (wc y_Arr_fill b_Arr_fill 4 (none))) := wt_good (ws_t 290 (by decide +kernel) (by decide +kernel)) (ws_t 39 (by decide +kernel) (by decide +kernel)) (ws_t 4 (by decide +kernel) (by decide +kernel)) k_Arr_fill
theorem g_Router_39 : GoodIn WS (wsV "LabelRoads$Router" 39 R_Router y_Router_endRelease (wc y_Router_endRelease b_Router_endRelease 3 (none))) := wv_good (ws_t 291 (by decide +kernel) (by decide +kernel)) (ws_t 292 (by decide +kernel) (by decide +kernel)) (ws_t 293 (by decide +kernel) (by decide +kernel)) (ws_t 6 (by decide +kernel) (by decide +kernel)) k_Router_endRelease
theorem g_Ways_24 : GoodIn WS (va_wsS "LabelRoads$Ways" 24 y_Arr_fill (wc y_Arr_fill b_Arr_fill 4 (none))) := wt_good (ws_t 38 (by decide +kernel) (by decide +kernel)) (ws_t 39 (by decide +kernel) (by decide +kernel)) (ws_t 4 (by decide +kernel) (by decide +kernel)) k_Arr_fill
theorem g_Ways_33 : GoodIn WS (wsV "LabelRoads$Ways" 33 R_Ways y_Ways_measure (wc y_Ways_measure b_Ways_measure 4 (none))) := wv_good (ws_t 259 (by decide +kernel) (by decide +kernel)) (ws_t 261 (by decide +kernel) (by decide +kernel)) (ws_p (q := (y_Ways_measure, 4)) 3 (by decide +kernel)) (ws_t 3 (by decide +kernel) (by decide +kernel)) k_Ways_measure
theorem g_Ways_37 : GoodIn WS (wsV "LabelRoads$Ways" 37 R_Ways y_Ways_areLinked (wc y_Ways_areLinked b_Ways_areLinked 3 (some .boolean))) := wv_good (ws_t 267 (by decide +kernel) (by decide +kernel)) (ws_t 268 (by decide +kernel) (by decide +kernel)) (ws_t 269 (by decide +kernel) (by decide +kernel)) (ws_t 3 (by decide +kernel) (by decide +kernel)) k_Ways_areLinked
theorem g_Ways_41 : GoodIn WS (wsV "LabelRoads$Ways" 41 R_Ways y_Ways_lengthenWays (wc y_Ways_lengthenWays b_Ways_lengthenWays 4 (none))) := wv_good (ws_t 263 (by decide +kernel) (by decide +kernel)) (ws_t 265 (by decide +kernel) (by decide +kernel)) (ws_p (q := (y_Ways_lengthenWays, 4)) 4 (by decide +kernel)) (ws_t 3 (by decide +kernel) (by decide +kernel)) k_Ways_lengthenWays
theorem g_LR_101 : GoodIn WS (wsV "LabelRoads" 101 R_Mail y_Mail_take (wc y_Mail_take b_Mail_take 3 (some .int))) := wv_good (ws_t 400 (by decide +kernel) (by decide +kernel)) (ws_t 401 (by decide +kernel) (by decide +kernel)) (ws_t 402 (by decide +kernel) (by decide +kernel)) (ws_t 5 (by decide +kernel) (by decide +kernel)) k_Mail_take
theorem g_LR_104 : GoodIn WS (wsV "LabelRoads" 104 R_LR y_LR_receive (wc y_LR_receive b_LR_receive 6 (none))) := wv_good (ws_t 407 (by decide +kernel) (by decide +kernel)) (ws_t 409 (by decide +kernel) (by decide +kernel)) (ws_p (q := (y_LR_receive, 6)) 15 (by decide +kernel)) (ws_t 1 (by decide +kernel) (by decide +kernel)) k_LR_receive
theorem g_LR_107 : GoodIn WS (va_wsS "LabelRoads" 107 y_Mail_kindOf (wc y_Mail_kindOf b_Mail_kindOf 1 (some .int))) := wt_good (ws_t 419 (by decide +kernel) (by decide +kernel)) (ws_t 420 (by decide +kernel) (by decide +kernel)) (ws_t 5 (by decide +kernel) (by decide +kernel)) k_Mail_kindOf
theorem g_LR_110 : GoodIn WS (wsV "LabelRoads" 110 R_Mail y_Mail_size (wc y_Mail_size b_Mail_size 1 (some .int))) := wv_good (ws_t 141 (by decide +kernel) (by decide +kernel)) (ws_t 142 (by decide +kernel) (by decide +kernel)) (ws_t 143 (by decide +kernel) (by decide +kernel)) (ws_t 5 (by decide +kernel) (by decide +kernel)) k_Mail_size
theorem g_LR_113 : GoodIn WS (wsV "LabelRoads" 113 R_Mail y_Mail_lostCount (wc y_Mail_lostCount b_Mail_lostCount 1 (some .int))) := wv_good (ws_t 149 (by decide +kernel) (by decide +kernel)) (ws_t 150 (by decide +kernel) (by decide +kernel)) (ws_t 151 (by decide +kernel) (by decide +kernel)) (ws_t 5 (by decide +kernel) (by decide +kernel)) k_Mail_lostCount
theorem g_LR_116 : GoodIn WS (wsV "LabelRoads" 116 R_LR y_LR_checkRouter (wc y_LR_checkRouter b_LR_checkRouter 2 (none))) := wv_good (ws_t 176 (by decide +kernel) (by decide +kernel)) (ws_t 178 (by decide +kernel) (by decide +kernel)) (ws_p (q := (y_LR_checkRouter, 6)) 1 (by decide +kernel)) (ws_t 1 (by decide +kernel) (by decide +kernel)) k_LR_checkRouter
theorem g_LR_119 : GoodIn WS (wsV "LabelRoads" 119 R_Ways y_Ways_distanceOf (wc y_Ways_distanceOf b_Ways_distanceOf 4 (some .int))) := wv_good (ws_t 445 (by decide +kernel) (by decide +kernel)) (ws_t 446 (by decide +kernel) (by decide +kernel)) (ws_t 447 (by decide +kernel) (by decide +kernel)) (ws_t 3 (by decide +kernel) (by decide +kernel)) k_Ways_distanceOf
theorem g_LR_122 : GoodIn WS (wsV "LabelRoads" 122 R_Ways y_Ways_nextOf (wc y_Ways_nextOf b_Ways_nextOf 5 (some .int))) := wv_good (ws_t 327 (by decide +kernel) (by decide +kernel)) (ws_t 328 (by decide +kernel) (by decide +kernel)) (ws_t 329 (by decide +kernel) (by decide +kernel)) (ws_t 3 (by decide +kernel) (by decide +kernel)) k_Ways_nextOf
theorem g_LR_125 : GoodIn WS (wsV "LabelRoads" 125 R_Router y_Router_labelOf (wc y_Router_labelOf b_Router_labelOf 2 (some .int))) := wv_good (ws_t 299 (by decide +kernel) (by decide +kernel)) (ws_t 300 (by decide +kernel) (by decide +kernel)) (ws_t 301 (by decide +kernel) (by decide +kernel)) (ws_t 6 (by decide +kernel) (by decide +kernel)) k_Router_labelOf
theorem g_LR_128 : GoodIn WS (wsV "LabelRoads" 128 R_Router y_Router_toldBy (wc y_Router_toldBy b_Router_toldBy 3 (some .int))) := wv_good (ws_t 331 (by decide +kernel) (by decide +kernel)) (ws_t 332 (by decide +kernel) (by decide +kernel)) (ws_t 333 (by decide +kernel) (by decide +kernel)) (ws_t 6 (by decide +kernel) (by decide +kernel)) k_Router_toldBy
theorem g_LR_131 : GoodIn WS (wsV "LabelRoads" 131 R_Router y_Router_takenCount (wc y_Router_takenCount b_Router_takenCount 1 (some .int))) := wv_good (ws_t 477 (by decide +kernel) (by decide +kernel)) (ws_t 478 (by decide +kernel) (by decide +kernel)) (ws_t 479 (by decide +kernel) (by decide +kernel)) (ws_t 6 (by decide +kernel) (by decide +kernel)) k_Router_takenCount
theorem g_LR_134 : GoodIn WS (wsV "LabelRoads" 134 R_Packet y_Packet_begin (wc y_Packet_begin b_Packet_begin 5 (none))) := wv_good (ws_t 494 (by decide +kernel) (by decide +kernel)) (ws_t 495 (by decide +kernel) (by decide +kernel)) (ws_t 496 (by decide +kernel) (by decide +kernel)) (ws_t 7 (by decide +kernel) (by decide +kernel)) k_Packet_begin
theorem g_LR_138 : GoodIn WS (wsV "LabelRoads" 138 R_LR y_LR_passRouter (wc y_LR_passRouter b_LR_passRouter 3 (some .int))) := wv_good (ws_t 510 (by decide +kernel) (by decide +kernel)) (ws_t 512 (by decide +kernel) (by decide +kernel)) (ws_p (q := (y_LR_passRouter, 6)) 18 (by decide +kernel)) (ws_t 1 (by decide +kernel) (by decide +kernel)) k_LR_passRouter
theorem g_LR_141 : GoodIn WS (wsV "LabelRoads" 141 R_Packet y_Packet_placeCount (wc y_Packet_placeCount b_Packet_placeCount 1 (some .int))) := wv_good (ws_t 157 (by decide +kernel) (by decide +kernel)) (ws_t 158 (by decide +kernel) (by decide +kernel)) (ws_t 159 (by decide +kernel) (by decide +kernel)) (ws_t 7 (by decide +kernel) (by decide +kernel)) k_Packet_placeCount
theorem g_LR_144 : GoodIn WS (wsV "LabelRoads" 144 R_LR y_LR_checkHop (wc y_LR_checkHop b_LR_checkHop 2 (none))) := wv_good (ws_t 567 (by decide +kernel) (by decide +kernel)) (ws_t 569 (by decide +kernel) (by decide +kernel)) (ws_p (q := (y_LR_checkHop, 6)) 22 (by decide +kernel)) (ws_t 1 (by decide +kernel) (by decide +kernel)) k_LR_checkHop
theorem g_LR_147 : GoodIn WS (wsV "LabelRoads" 147 R_Packet y_Packet_placeAt (wc y_Packet_placeAt b_Packet_placeAt 2 (some .int))) := wv_good (ws_t 587 (by decide +kernel) (by decide +kernel)) (ws_t 588 (by decide +kernel) (by decide +kernel)) (ws_t 589 (by decide +kernel) (by decide +kernel)) (ws_t 7 (by decide +kernel) (by decide +kernel)) k_Packet_placeAt
theorem g_LR_150 : GoodIn WS (wsV "LabelRoads" 150 R_Packet y_Packet_entryAt (wc y_Packet_entryAt b_Packet_entryAt 2 (some .int))) := wv_good (ws_t 598 (by decide +kernel) (by decide +kernel)) (ws_t 599 (by decide +kernel) (by decide +kernel)) (ws_t 600 (by decide +kernel) (by decide +kernel)) (ws_t 7 (by decide +kernel) (by decide +kernel)) k_Packet_entryAt
theorem g_LR_167 : GoodIn WS (wsV "LabelRoads" 167 R_Mail y_Mail_dropBetween (wc y_Mail_dropBetween b_Mail_dropBetween 8 (none))) := wv_good (ws_t 276 (by decide +kernel) (by decide +kernel)) (ws_t 277 (by decide +kernel) (by decide +kernel)) (ws_t 278 (by decide +kernel) (by decide +kernel)) (ws_t 5 (by decide +kernel) (by decide +kernel)) k_Mail_dropBetween
theorem g_LR_170 : GoodIn WS (wsV "LabelRoads" 170 R_Router y_Router_forget (wc y_Router_forget b_Router_forget 3 (none))) := wv_good (ws_t 286 (by decide +kernel) (by decide +kernel)) (ws_t 287 (by decide +kernel) (by decide +kernel)) (ws_t 288 (by decide +kernel) (by decide +kernel)) (ws_t 6 (by decide +kernel) (by decide +kernel)) k_Router_forget
theorem g_LR_173 : GoodIn WS (wsV "LabelRoads" 173 R_Mail y_Mail_post (wc y_Mail_post b_Mail_post 6 (none))) := wv_good (ws_t 303 (by decide +kernel) (by decide +kernel)) (ws_t 304 (by decide +kernel) (by decide +kernel)) (ws_t 305 (by decide +kernel) (by decide +kernel)) (ws_t 5 (by decide +kernel) (by decide +kernel)) k_Mail_post
theorem g_LR_177 : GoodIn WS (wsV "LabelRoads" 177 R_LR y_LR_settlePrefixes (wc y_LR_settlePrefixes b_LR_settlePrefixes 3 (none))) := wv_good (ws_t 311 (by decide +kernel) (by decide +kernel)) (ws_t 313 (by decide +kernel) (by decide +kernel)) (ws_p (q := (y_LR_settlePrefixes, 6)) 8 (by decide +kernel)) (ws_t 1 (by decide +kernel) (by decide +kernel)) k_LR_settlePrefixes
theorem g_LR_180 : GoodIn WS (wsV "LabelRoads" 180 R_LR y_LR_settle (wc y_LR_settle b_LR_settle 5 (none))) := wv_good (ws_t 315 (by decide +kernel) (by decide +kernel)) (ws_t 317 (by decide +kernel) (by decide +kernel)) (ws_p (q := (y_LR_settle, 6)) 9 (by decide +kernel)) (ws_t 1 (by decide +kernel) (by decide +kernel)) k_LR_settle
theorem g_LR_183 : GoodIn WS (wsV "LabelRoads" 183 R_LR y_LR_isReady (wc y_LR_isReady b_LR_isReady 4 (some .boolean))) := wv_good (ws_t 319 (by decide +kernel) (by decide +kernel)) (ws_t 321 (by decide +kernel) (by decide +kernel)) (ws_p (q := (y_LR_isReady, 6)) 10 (by decide +kernel)) (ws_t 1 (by decide +kernel) (by decide +kernel)) k_LR_isReady
theorem g_LR_187 : GoodIn WS (wsV "LabelRoads" 187 R_LR y_LR_giveLabel (wc y_LR_giveLabel b_LR_giveLabel 5 (none))) := wv_good (ws_t 335 (by decide +kernel) (by decide +kernel)) (ws_t 337 (by decide +kernel) (by decide +kernel)) (ws_p (q := (y_LR_giveLabel, 6)) 11 (by decide +kernel)) (ws_t 1 (by decide +kernel) (by decide +kernel)) k_LR_giveLabel
theorem g_LR_190 : GoodIn WS (wsV "LabelRoads" 190 R_LR y_LR_withdrawLabel (wc y_LR_withdrawLabel b_LR_withdrawLabel 5 (none))) := wv_good (ws_t 352 (by decide +kernel) (by decide +kernel)) (ws_t 354 (by decide +kernel) (by decide +kernel)) (ws_p (q := (y_LR_withdrawLabel, 6)) 13 (by decide +kernel)) (ws_t 1 (by decide +kernel) (by decide +kernel)) k_LR_withdrawLabel
theorem g_LR_193 : GoodIn WS (wsV "LabelRoads" 193 R_Ways y_Ways_owns (wc y_Ways_owns b_Ways_owns 3 (some .boolean))) := wv_good (ws_t 323 (by decide +kernel) (by decide +kernel)) (ws_t 324 (by decide +kernel) (by decide +kernel)) (ws_t 325 (by decide +kernel) (by decide +kernel)) (ws_t 3 (by decide +kernel) (by decide +kernel)) k_Ways_owns
theorem g_LR_196 : GoodIn WS (wsV "LabelRoads" 196 R_Router y_Router_leastFree (wc y_Router_leastFree b_Router_leastFree 3 (some .int))) := wv_good (ws_t 339 (by decide +kernel) (by decide +kernel)) (ws_t 340 (by decide +kernel) (by decide +kernel)) (ws_t 341 (by decide +kernel) (by decide +kernel)) (ws_t 6 (by decide +kernel) (by decide +kernel)) k_Router_leastFree
theorem g_LR_199 : GoodIn WS (wsV "LabelRoads" 199 R_Router y_Router_setLabel (wc y_Router_setLabel b_Router_setLabel 3 (none))) := wv_good (ws_t 347 (by decide +kernel) (by decide +kernel)) (ws_t 348 (by decide +kernel) (by decide +kernel)) (ws_t 349 (by decide +kernel) (by decide +kernel)) (ws_t 6 (by decide +kernel) (by decide +kernel)) k_Router_setLabel
theorem g_LR_202 : GoodIn WS (wsV "LabelRoads" 202 R_Ways y_Ways_areLinked (wc y_Ways_areLinked b_Ways_areLinked 3 (some .boolean))) := wv_good (ws_t 351 (by decide +kernel) (by decide +kernel)) (ws_t 268 (by decide +kernel) (by decide +kernel)) (ws_t 269 (by decide +kernel) (by decide +kernel)) (ws_t 3 (by decide +kernel) (by decide +kernel)) k_Ways_areLinked
theorem g_LR_205 : GoodIn WS (wsV "LabelRoads" 205 R_Router y_Router_awaitRelease (wc y_Router_awaitRelease b_Router_awaitRelease 3 (none))) := wv_good (ws_t 356 (by decide +kernel) (by decide +kernel)) (ws_t 357 (by decide +kernel) (by decide +kernel)) (ws_t 358 (by decide +kernel) (by decide +kernel)) (ws_t 6 (by decide +kernel) (by decide +kernel)) k_Router_awaitRelease
theorem g_LR_208 : GoodIn WS (va_wsS "LabelRoads" 208 y_Mail_fromOf (wc y_Mail_fromOf b_Mail_fromOf 1 (some .int))) := wt_good (ws_t 411 (by decide +kernel) (by decide +kernel)) (ws_t 281 (by decide +kernel) (by decide +kernel)) (ws_t 5 (by decide +kernel) (by decide +kernel)) k_Mail_fromOf
theorem g_LR_211 : GoodIn WS (va_wsS "LabelRoads" 211 y_Mail_toOf (wc y_Mail_toOf b_Mail_toOf 1 (some .int))) := wt_good (ws_t 412 (by decide +kernel) (by decide +kernel)) (ws_t 284 (by decide +kernel) (by decide +kernel)) (ws_t 5 (by decide +kernel) (by decide +kernel)) k_Mail_toOf
theorem g_LR_214 : GoodIn WS (va_wsS "LabelRoads" 214 y_Mail_prefixOf (wc y_Mail_prefixOf b_Mail_prefixOf 1 (some .int))) := wt_good (ws_t 413 (by decide +kernel) (by decide +kernel)) (ws_t 414 (by decide +kernel) (by decide +kernel)) (ws_t 5 (by decide +kernel) (by decide +kernel)) k_Mail_prefixOf
theorem g_LR_217 : GoodIn WS (va_wsS "LabelRoads" 217 y_Mail_labelOf (wc y_Mail_labelOf b_Mail_labelOf 1 (some .int))) := wt_good (ws_t 416 (by decide +kernel) (by decide +kernel)) (ws_t 417 (by decide +kernel) (by decide +kernel)) (ws_t 5 (by decide +kernel) (by decide +kernel)) k_Mail_labelOf
theorem g_LR_218 : GoodIn WS (wsV "LabelRoads" 218 R_Router y_Router_hear (wc y_Router_hear b_Router_hear 4 (none))) := wv_good (ws_t 422 (by decide +kernel) (by decide +kernel)) (ws_t 423 (by decide +kernel) (by decide +kernel)) (ws_t 424 (by decide +kernel) (by decide +kernel)) (ws_t 6 (by decide +kernel) (by decide +kernel)) k_Router_hear
theorem g_LR_221 : GoodIn WS (wsV "LabelRoads" 221 R_Router y_Router_unhear (wc y_Router_unhear b_Router_unhear 4 (none))) := wv_good (ws_t 426 (by decide +kernel) (by decide +kernel)) (ws_t 427 (by decide +kernel) (by decide +kernel)) (ws_t 428 (by decide +kernel) (by decide +kernel)) (ws_t 6 (by decide +kernel) (by decide +kernel)) k_Router_unhear
theorem g_LR_224 : GoodIn WS (wsV "LabelRoads" 224 R_Router y_Router_endRelease (wc y_Router_endRelease b_Router_endRelease 3 (none))) := wv_good (ws_t 430 (by decide +kernel) (by decide +kernel)) (ws_t 292 (by decide +kernel) (by decide +kernel)) (ws_t 293 (by decide +kernel) (by decide +kernel)) (ws_t 6 (by decide +kernel) (by decide +kernel)) k_Router_endRelease
theorem g_LR_227 : GoodIn WS (wsV "LabelRoads" 227 R_Packet y_Packet_place (wc y_Packet_place b_Packet_place 1 (some .int))) := wv_good (ws_t 514 (by decide +kernel) (by decide +kernel)) (ws_t 515 (by decide +kernel) (by decide +kernel)) (ws_t 516 (by decide +kernel) (by decide +kernel)) (ws_t 7 (by decide +kernel) (by decide +kernel)) k_Packet_place
theorem g_LR_230 : GoodIn WS (wsV "LabelRoads" 230 R_Packet y_Packet_topLabel (wc y_Packet_topLabel b_Packet_topLabel 1 (some .int))) := wv_good (ws_t 518 (by decide +kernel) (by decide +kernel)) (ws_t 519 (by decide +kernel) (by decide +kernel)) (ws_t 520 (by decide +kernel) (by decide +kernel)) (ws_t 7 (by decide +kernel) (by decide +kernel)) k_Packet_topLabel
theorem g_LR_233 : GoodIn WS (wsV "LabelRoads" 233 R_LR y_LR_passUnlabelled (wc y_LR_passUnlabelled b_LR_passUnlabelled 3 (some .int))) := wv_good (ws_t 522 (by decide +kernel) (by decide +kernel)) (ws_t 524 (by decide +kernel) (by decide +kernel)) (ws_p (q := (y_LR_passUnlabelled, 6)) 19 (by decide +kernel)) (ws_t 1 (by decide +kernel) (by decide +kernel)) k_LR_passUnlabelled
theorem g_LR_236 : GoodIn WS (wsV "LabelRoads" 236 R_Router y_Router_prefixOf (wc y_Router_prefixOf b_Router_prefixOf 3 (some .int))) := wv_good (ws_t 551 (by decide +kernel) (by decide +kernel)) (ws_t 552 (by decide +kernel) (by decide +kernel)) (ws_t 553 (by decide +kernel) (by decide +kernel)) (ws_t 6 (by decide +kernel) (by decide +kernel)) k_Router_prefixOf
theorem g_LR_237 : GoodIn WS (wsV "LabelRoads" 237 R_LR y_LR_goOn (wc y_LR_goOn b_LR_goOn 6 (some .int))) := wv_good (ws_t 539 (by decide +kernel) (by decide +kernel)) (ws_t 541 (by decide +kernel) (by decide +kernel)) (ws_p (q := (y_LR_goOn, 6)) 21 (by decide +kernel)) (ws_t 1 (by decide +kernel) (by decide +kernel)) k_LR_goOn
theorem g_LR_241 : GoodIn WS (wsV "LabelRoads" 241 R_Packet y_Packet_pop (wc y_Packet_pop b_Packet_pop 1 (none))) := wv_good (ws_t 555 (by decide +kernel) (by decide +kernel)) (ws_t 556 (by decide +kernel) (by decide +kernel)) (ws_t 557 (by decide +kernel) (by decide +kernel)) (ws_t 7 (by decide +kernel) (by decide +kernel)) k_Packet_pop
theorem g_LR_244 : GoodIn WS (wsV "LabelRoads" 244 R_Packet y_Packet_isForService (wc y_Packet_isForService b_Packet_isForService 1 (some .boolean))) := wv_good (ws_t 526 (by decide +kernel) (by decide +kernel)) (ws_t 499 (by decide +kernel) (by decide +kernel)) (ws_t 500 (by decide +kernel) (by decide +kernel)) (ws_t 7 (by decide +kernel) (by decide +kernel)) k_Packet_isForService
theorem g_LR_248 : GoodIn WS (wsV "LabelRoads" 248 R_LR y_LR_tryService (wc y_LR_tryService b_LR_tryService 2 (some .int))) := wv_good (ws_t 531 (by decide +kernel) (by decide +kernel)) (ws_t 533 (by decide +kernel) (by decide +kernel)) (ws_p (q := (y_LR_tryService, 6)) 20 (by decide +kernel)) (ws_t 1 (by decide +kernel) (by decide +kernel)) k_LR_tryService
theorem g_LR_251 : GoodIn WS (wsV "LabelRoads" 251 R_Packet y_Packet_targetPrefix (wc y_Packet_targetPrefix b_Packet_targetPrefix 1 (some .int))) := wv_good (ws_t 527 (by decide +kernel) (by decide +kernel)) (ws_t 528 (by decide +kernel) (by decide +kernel)) (ws_t 529 (by decide +kernel) (by decide +kernel)) (ws_t 7 (by decide +kernel) (by decide +kernel)) k_Packet_targetPrefix
theorem g_LR_254 : GoodIn WS (wsV "LabelRoads" 254 R_Packet y_Packet_targetService (wc y_Packet_targetService b_Packet_targetService 1 (some .int))) := wv_good (ws_t 535 (by decide +kernel) (by decide +kernel)) (ws_t 536 (by decide +kernel) (by decide +kernel)) (ws_t 537 (by decide +kernel) (by decide +kernel)) (ws_t 7 (by decide +kernel) (by decide +kernel)) k_Packet_targetService
theorem g_LR_257 : GoodIn WS (wsV "LabelRoads" 257 R_Packet y_Packet_isAtLastHop (wc y_Packet_isAtLastHop b_Packet_isAtLastHop 1 (some .boolean))) := wv_good (ws_t 543 (by decide +kernel) (by decide +kernel)) (ws_t 544 (by decide +kernel) (by decide +kernel)) (ws_t 545 (by decide +kernel) (by decide +kernel)) (ws_t 7 (by decide +kernel) (by decide +kernel)) k_Packet_isAtLastHop
theorem g_LR_260 : GoodIn WS (wsV "LabelRoads" 260 R_Packet y_Packet_moveTo (wc y_Packet_moveTo b_Packet_moveTo 3 (none))) := wv_good (ws_t 547 (by decide +kernel) (by decide +kernel)) (ws_t 548 (by decide +kernel) (by decide +kernel)) (ws_t 549 (by decide +kernel) (by decide +kernel)) (ws_t 7 (by decide +kernel) (by decide +kernel)) k_Packet_moveTo
theorem g_LR_62 : GoodIn WS (wsV "LabelRoads" 62 R_LR y_LR_checkTwoRouters (wc y_LR_checkTwoRouters b_LR_checkTwoRouters 3 (none))) := wv_good (ws_t 172 (by decide +kernel) (by decide +kernel)) (ws_t 174 (by decide +kernel) (by decide +kernel)) (ws_p (q := (y_LR_checkTwoRouters, 6)) 0 (by decide +kernel)) (ws_t 1 (by decide +kernel) (by decide +kernel)) k_LR_checkTwoRouters
theorem g_LR_66 : GoodIn WS (va_wsS "LabelRoads" 66 y_LR_checkRange (wc y_LR_checkRange b_LR_checkRange 3 (none))) := wt_good (ws_t 180 (by decide +kernel) (by decide +kernel)) (ws_t 181 (by decide +kernel) (by decide +kernel)) (ws_t 1 (by decide +kernel) (by decide +kernel)) k_LR_checkRange
theorem g_LR_70 : GoodIn WS (wsV "LabelRoads" 70 R_Ways y_Ways_costOf (wc y_Ways_costOf b_Ways_costOf 3 (some .int))) := wv_good (ws_t 251 (by decide +kernel) (by decide +kernel)) (ws_t 252 (by decide +kernel) (by decide +kernel)) (ws_t 253 (by decide +kernel) (by decide +kernel)) (ws_t 3 (by decide +kernel) (by decide +kernel)) k_Ways_costOf
theorem g_LR_73 : GoodIn WS (wsV "LabelRoads" 73 R_Ways y_Ways_setCost (wc y_Ways_setCost b_Ways_setCost 5 (none))) := wv_good (ws_t 255 (by decide +kernel) (by decide +kernel)) (ws_t 256 (by decide +kernel) (by decide +kernel)) (ws_t 257 (by decide +kernel) (by decide +kernel)) (ws_t 3 (by decide +kernel) (by decide +kernel)) k_Ways_setCost
theorem g_LR_76 : GoodIn WS (wsV "LabelRoads" 76 R_LR y_LR_cutOff (wc y_LR_cutOff b_LR_cutOff 3 (none))) := wv_good (ws_t 272 (by decide +kernel) (by decide +kernel)) (ws_t 274 (by decide +kernel) (by decide +kernel)) (ws_p (q := (y_LR_cutOff, 6)) 5 (by decide +kernel)) (ws_t 1 (by decide +kernel) (by decide +kernel)) k_LR_cutOff
theorem g_LR_79 : GoodIn WS (wsV "LabelRoads" 79 R_LR y_LR_tellLabels (wc y_LR_tellLabels b_LR_tellLabels 5 (none))) := wv_good (ws_t 295 (by decide +kernel) (by decide +kernel)) (ws_t 297 (by decide +kernel) (by decide +kernel)) (ws_p (q := (y_LR_tellLabels, 6)) 6 (by decide +kernel)) (ws_t 1 (by decide +kernel) (by decide +kernel)) k_LR_tellLabels
theorem g_LR_82 : GoodIn WS (wsV "LabelRoads" 82 R_LR y_LR_settleAll (wc y_LR_settleAll b_LR_settleAll 2 (none))) := wv_good (ws_t 307 (by decide +kernel) (by decide +kernel)) (ws_t 309 (by decide +kernel) (by decide +kernel)) (ws_p (q := (y_LR_settleAll, 6)) 7 (by decide +kernel)) (ws_t 1 (by decide +kernel) (by decide +kernel)) k_LR_settleAll
theorem g_LR_85 : GoodIn WS (va_wsS "LabelRoads" 85 y_LR_checkPrefix (wc y_LR_checkPrefix b_LR_checkPrefix 1 (none))) := wt_good (ws_t 367 (by decide +kernel) (by decide +kernel)) (ws_t 368 (by decide +kernel) (by decide +kernel)) (ws_t 1 (by decide +kernel) (by decide +kernel)) k_LR_checkPrefix
theorem g_LR_88 : GoodIn WS (wsV "LabelRoads" 88 R_LR y_LR_checkRouterOrNone (wc y_LR_checkRouterOrNone b_LR_checkRouterOrNone 2 (none))) := wv_good (ws_t 370 (by decide +kernel) (by decide +kernel)) (ws_t 372 (by decide +kernel) (by decide +kernel)) (ws_p (q := (y_LR_checkRouterOrNone, 6)) 14 (by decide +kernel)) (ws_t 1 (by decide +kernel) (by decide +kernel)) k_LR_checkRouterOrNone
theorem g_LR_91 : GoodIn WS (wsV "LabelRoads" 91 R_Ways y_Ways_ownerOf (wc y_Ways_ownerOf b_Ways_ownerOf 2 (some .int))) := wv_good (ws_t 374 (by decide +kernel) (by decide +kernel)) (ws_t 375 (by decide +kernel) (by decide +kernel)) (ws_t 376 (by decide +kernel) (by decide +kernel)) (ws_t 3 (by decide +kernel) (by decide +kernel)) k_Ways_ownerOf
theorem g_LR_95 : GoodIn WS (wsV "LabelRoads" 95 R_Ways y_Ways_setOwner (wc y_Ways_setOwner b_Ways_setOwner 3 (none))) := wv_good (ws_t 378 (by decide +kernel) (by decide +kernel)) (ws_t 379 (by decide +kernel) (by decide +kernel)) (ws_t 380 (by decide +kernel) (by decide +kernel)) (ws_t 3 (by decide +kernel) (by decide +kernel)) k_Ways_setOwner
theorem g_LR_98 : GoodIn WS (wsV "LabelRoads" 98 R_Mail y_Mail_firstBetween (wc y_Mail_firstBetween b_Mail_firstBetween 4 (some .int))) := wv_good (ws_t 396 (by decide +kernel) (by decide +kernel)) (ws_t 397 (by decide +kernel) (by decide +kernel)) (ws_t 398 (by decide +kernel) (by decide +kernel)) (ws_t 5 (by decide +kernel) (by decide +kernel)) k_Mail_firstBetween
end
section
def f_Ways_costOf (n : Nat) (a : Int32) (b : Int32) (M : Mem) : Option (Int32) :=
  (ix a n).bind fun j5 => (ix b n).bind fun j7 => some (M 16 j5 0 j7)
abbrev rm_Ways_costOf : Room := { frames := 0, cells := 0, slots := 0, locals := 0 }
set_option maxHeartbeats 4000000 in
set_option maxRecDepth 100000 in
theorem c_Ways_costOf {l : Launch} {D : va_G} {n : Nat} {ad : Nat → Nat} {G : Nat → ClassId} {a : Int32} {b : Int32}  {M : Mem} {x : Int32} (hf : f_Ways_costOf n a b M = some x) : Met l y_Ways_costOf (wc y_Ways_costOf b_Ways_costOf 3 (some .int)) rm_Ways_costOf (va_Pc [.ref (ad 1), .int a, .int b] (cB D n ad G M)) (rd_Q (some (.int x))) 0 0 (fun _ => False) := by
  refine k_met (by decide) (Nat.le_of_ble_eq_true rfl) ?_
  intro p e s m args below meth c S hr hlk hB ls hl
  obtain ⟨hx, hb, hml, hown, hts⟩ := id S
  obtain ⟨hP, hK, hA0⟩ := hB
  have hA := wl_own hA0
  have hl : lv_has ls 3 [(0, .ref (ad 1)), (1, .int a), (2, .int b)] := hl
  unfold f_Ways_costOf at hf
  refine lv_aload_n hx hb d_Ways_costOf_0 rfl (lv_at hl 0 rfl) ?_
  refine va_get (D := D) (ci := 1) (v := .ref (ad 2)) (C := R_Ways) (T := F_Ways) (N := 4) hx hb hts in_Ways hown hK hP 1 (wl_to (Ways_lt) (Ways_at)) rfl 1 (by decide) (hts _ fl_Ways_17) (fun _ h => h) rfl d_Ways_costOf_1 ?_
  refine lv_iload_n hx hb d_Ways_costOf_4 rfl (lv_at hl 1 rfl) ?_
  obtain ⟨j5, hj5, hf⟩ := ob hf
  refine k_rald hx hb hK hP 2 1 (CO_lt) (CO_at) rfl hj5 rfl d_Ways_costOf_5 ?_
  refine lv_iload_n hx hb d_Ways_costOf_6 rfl (lv_at hl 2 rfl) ?_
  obtain ⟨j7, hj7, hf⟩ := ob hf
  refine k_iald hx hb hK hP (16 + 11 * j5 + 0) 0 (CR_lt (ix_lt hj5)) (CR_at (ix_lt hj5)) rfl hj7 d_Ways_costOf_7 ?_
  cases hf
  exact r_iret hx hb hr hlk d_Ways_costOf_8
def f_Ways_areLinked (n : Nat) (a : Int32) (b : Int32) (M : Mem) : Option (Int32) :=
  (ix a n).bind fun j5 => (ix b n).bind fun j7 => if (M 16 j5 0 j7) = 0 then (some 0) else (some 1)
abbrev rm_Ways_areLinked : Room := { frames := 0, cells := 0, slots := 0, locals := 0 }
set_option maxHeartbeats 4000000 in
set_option maxRecDepth 100000 in
theorem c_Ways_areLinked {l : Launch} {D : va_G} {n : Nat} {ad : Nat → Nat} {G : Nat → ClassId} {a : Int32} {b : Int32}  {M : Mem} {x : Int32} (hf : f_Ways_areLinked n a b M = some x) : Met l y_Ways_areLinked (wc y_Ways_areLinked b_Ways_areLinked 3 (some .boolean)) rm_Ways_areLinked (va_Pc [.ref (ad 1), .int a, .int b] (cB D n ad G M)) (rd_Q (some (.int x))) 0 0 (fun _ => False) := by
  refine k_met (by decide) (Nat.le_of_ble_eq_true rfl) ?_
  intro p e s m args below meth c S hr hlk hB ls hl
  obtain ⟨hx, hb, hml, hown, hts⟩ := id S
  obtain ⟨hP, hK, hA0⟩ := hB
  have hA := wl_own hA0
  have hl : lv_has ls 3 [(0, .ref (ad 1)), (1, .int a), (2, .int b)] := hl
  unfold f_Ways_areLinked at hf
  refine lv_aload_n hx hb d_Ways_areLinked_0 rfl (lv_at hl 0 rfl) ?_
  refine va_get (D := D) (ci := 1) (v := .ref (ad 2)) (C := R_Ways) (T := F_Ways) (N := 4) hx hb hts in_Ways hown hK hP 1 (wl_to (Ways_lt) (Ways_at)) rfl 1 (by decide) (hts _ fl_Ways_17) (fun _ h => h) rfl d_Ways_areLinked_1 ?_
  refine lv_iload_n hx hb d_Ways_areLinked_4 rfl (lv_at hl 1 rfl) ?_
  obtain ⟨j5, hj5, hf⟩ := ob hf
  refine k_rald hx hb hK hP 2 1 (CO_lt) (CO_at) rfl hj5 rfl d_Ways_areLinked_5 ?_
  refine lv_iload_n hx hb d_Ways_areLinked_6 rfl (lv_at hl 2 rfl) ?_
  obtain ⟨j7, hj7, hf⟩ := ob hf
  refine k_iald hx hb hK hP (16 + 11 * j5 + 0) 0 (CR_lt (ix_lt hj5)) (CR_at (ix_lt hj5)) rfl hj7 d_Ways_areLinked_7 ?_
  refine lv_if_eq (tgt := 15) hx hb d_Ways_areLinked_8 (by decide) (fun h8 => ?_) (fun h8 => ?_)
  · rw [if_pos h8] at hf
    refine lv_iconst (v := 0) hx hb d_Ways_areLinked_15 (by decide) ?_
    cases hf
    exact r_zret hx hb hr hlk (by decide) d_Ways_areLinked_16
  · rw [if_neg h8] at hf
    refine lv_iconst (v := 1) hx hb d_Ways_areLinked_11 (by decide) ?_
    refine lv_goto (tgt := 16) hx hb d_Ways_areLinked_12 (by decide) ?_
    cases hf
    exact r_zret hx hb hr hlk (by decide) d_Ways_areLinked_16
def f_Ways_ownerOf (n : Nat) (a : Int32) (M : Mem) : Option (Int32) :=
  (ix a 4).bind fun j5 => some (M 3 0 0 j5)
abbrev rm_Ways_ownerOf : Room := { frames := 0, cells := 0, slots := 0, locals := 0 }
set_option maxHeartbeats 4000000 in
set_option maxRecDepth 100000 in
theorem c_Ways_ownerOf {l : Launch} {D : va_G} {n : Nat} {ad : Nat → Nat} {G : Nat → ClassId} {a : Int32}  {M : Mem} {x : Int32} (hf : f_Ways_ownerOf n a M = some x) : Met l y_Ways_ownerOf (wc y_Ways_ownerOf b_Ways_ownerOf 2 (some .int)) rm_Ways_ownerOf (va_Pc [.ref (ad 1), .int a] (cB D n ad G M)) (rd_Q (some (.int x))) 0 0 (fun _ => False) := by
  refine k_met (by decide) (Nat.le_of_ble_eq_true rfl) ?_
  intro p e s m args below meth c S hr hlk hB ls hl
  obtain ⟨hx, hb, hml, hown, hts⟩ := id S
  obtain ⟨hP, hK, hA0⟩ := hB
  have hA := wl_own hA0
  have hl : lv_has ls 2 [(0, .ref (ad 1)), (1, .int a)] := hl
  unfold f_Ways_ownerOf at hf
  refine lv_aload_n hx hb d_Ways_ownerOf_0 rfl (lv_at hl 0 rfl) ?_
  refine va_get (D := D) (ci := 1) (v := .ref (ad 3)) (C := R_Ways) (T := F_Ways) (N := 4) hx hb hts in_Ways hown hK hP 1 (wl_to (Ways_lt) (Ways_at)) rfl 2 (by decide) (hts _ fl_Ways_20) (fun _ h => h) rfl d_Ways_ownerOf_1 ?_
  refine lv_iload_n hx hb d_Ways_ownerOf_4 rfl (lv_at hl 1 rfl) ?_
  obtain ⟨j5, hj5, hf⟩ := ob hf
  refine k_iald hx hb hK hP 3 0 (OW_lt) (OW_at) rfl hj5 d_Ways_ownerOf_5 ?_
  cases hf
  exact r_iret hx hb hr hlk d_Ways_ownerOf_6
def f_Ways_owns (n : Nat) (a : Int32) (b : Int32) (M : Mem) : Option (Int32) :=
  (ix b 4).bind fun j5 => if (M 3 0 0 j5) = a then (some 1) else (some 0)
abbrev rm_Ways_owns : Room := { frames := 0, cells := 0, slots := 0, locals := 0 }
set_option maxHeartbeats 4000000 in
set_option maxRecDepth 100000 in
theorem c_Ways_owns {l : Launch} {D : va_G} {n : Nat} {ad : Nat → Nat} {G : Nat → ClassId} {a : Int32} {b : Int32}  {M : Mem} {x : Int32} (hf : f_Ways_owns n a b M = some x) : Met l y_Ways_owns (wc y_Ways_owns b_Ways_owns 3 (some .boolean)) rm_Ways_owns (va_Pc [.ref (ad 1), .int a, .int b] (cB D n ad G M)) (rd_Q (some (.int x))) 0 0 (fun _ => False) := by
  refine k_met (by decide) (Nat.le_of_ble_eq_true rfl) ?_
  intro p e s m args below meth c S hr hlk hB ls hl
  obtain ⟨hx, hb, hml, hown, hts⟩ := id S
  obtain ⟨hP, hK, hA0⟩ := hB
  have hA := wl_own hA0
  have hl : lv_has ls 3 [(0, .ref (ad 1)), (1, .int a), (2, .int b)] := hl
  unfold f_Ways_owns at hf
  refine lv_aload_n hx hb d_Ways_owns_0 rfl (lv_at hl 0 rfl) ?_
  refine va_get (D := D) (ci := 1) (v := .ref (ad 3)) (C := R_Ways) (T := F_Ways) (N := 4) hx hb hts in_Ways hown hK hP 1 (wl_to (Ways_lt) (Ways_at)) rfl 2 (by decide) (hts _ fl_Ways_20) (fun _ h => h) rfl d_Ways_owns_1 ?_
  refine lv_iload_n hx hb d_Ways_owns_4 rfl (lv_at hl 2 rfl) ?_
  obtain ⟨j5, hj5, hf⟩ := ob hf
  refine k_iald hx hb hK hP 3 0 (OW_lt) (OW_at) rfl hj5 d_Ways_owns_5 ?_
  refine lv_iload_n hx hb d_Ways_owns_6 rfl (lv_at hl 1 rfl) ?_
  refine lv_icmp_ne (tgt := 14) hx hb d_Ways_owns_7 (by decide) (fun h7 => ?_) (fun h7 => ?_)
  · rw [if_neg h7] at hf
    refine lv_iconst (v := 0) hx hb d_Ways_owns_14 (by decide) ?_
    cases hf
    exact r_zret hx hb hr hlk (by decide) d_Ways_owns_15
  · rw [if_pos h7] at hf
    refine lv_iconst (v := 1) hx hb d_Ways_owns_10 (by decide) ?_
    refine lv_goto (tgt := 15) hx hb d_Ways_owns_11 (by decide) ?_
    cases hf
    exact r_zret hx hb hr hlk (by decide) d_Ways_owns_15
def f_Ways_distanceOf (n : Nat) (a : Int32) (b : Int32) (M : Mem) : Option (Int32) :=
  (ix b 4).bind fun j5 => (ix a n).bind fun j7 => if (M 12 j5 0 j7) = 1000 then (some (-1)) else (some (M 12 j5 0 j7))
abbrev rm_Ways_distanceOf : Room := { frames := 0, cells := 0, slots := 0, locals := 0 }
set_option maxHeartbeats 4000000 in
set_option maxRecDepth 100000 in
theorem c_Ways_distanceOf {l : Launch} {D : va_G} {n : Nat} {ad : Nat → Nat} {G : Nat → ClassId} {a : Int32} {b : Int32}  {M : Mem} {x : Int32} (hf : f_Ways_distanceOf n a b M = some x) : Met l y_Ways_distanceOf (wc y_Ways_distanceOf b_Ways_distanceOf 4 (some .int)) rm_Ways_distanceOf (va_Pc [.ref (ad 1), .int a, .int b] (cB D n ad G M)) (rd_Q (some (.int x))) 0 0 (fun _ => False) := by
  refine k_met (by decide) (Nat.le_of_ble_eq_true rfl) ?_
  intro p e s m args below meth c S hr hlk hB ls hl
  obtain ⟨hx, hb, hml, hown, hts⟩ := id S
  obtain ⟨hP, hK, hA0⟩ := hB
  have hA := wl_own hA0
  have hl : lv_has ls 4 [(0, .ref (ad 1)), (1, .int a), (2, .int b)] := hl
  unfold f_Ways_distanceOf at hf
  refine lv_aload_n hx hb d_Ways_distanceOf_0 rfl (lv_at hl 0 rfl) ?_
  refine va_get (D := D) (ci := 1) (v := .ref (ad 4)) (C := R_Ways) (T := F_Ways) (N := 4) hx hb hts in_Ways hown hK hP 1 (wl_to (Ways_lt) (Ways_at)) rfl 3 (by decide) (hts _ fl_Ways_30) (fun _ h => h) rfl d_Ways_distanceOf_1 ?_
  refine lv_iload_n hx hb d_Ways_distanceOf_4 rfl (lv_at hl 2 rfl) ?_
  obtain ⟨j5, hj5, hf⟩ := ob hf
  refine k_rald hx hb hK hP 4 1 (DO_lt) (DO_at) rfl hj5 rfl d_Ways_distanceOf_5 ?_
  refine lv_iload_n hx hb d_Ways_distanceOf_6 rfl (lv_at hl 1 rfl) ?_
  obtain ⟨j7, hj7, hf⟩ := ob hf
  refine k_iald hx hb hK hP (12 + j5) 0 (DR_lt (ix_lt hj5)) (DR_at (ix_lt hj5)) rfl hj7 d_Ways_distanceOf_7 ?_
  refine lv_istore_n (lv' := [(3, .int (M 12 j5 0 j7)), (0, .ref (ad 1)), (1, .int a), (2, .int b)]) hx hb d_Ways_distanceOf_8 rfl hl (by decide) rfl (fun ls hl => ?_)
  refine lv_iload_n hx hb d_Ways_distanceOf_9 rfl (lv_at hl 0 rfl) ?_
  refine lv_sipush (v := 1000) hx hb d_Ways_distanceOf_10 (by decide) ?_
  refine lv_icmp_ne (tgt := 20) hx hb d_Ways_distanceOf_13 (by decide) (fun h13 => ?_) (fun h13 => ?_)
  · rw [if_neg h13] at hf
    refine lv_iload_n hx hb d_Ways_distanceOf_20 rfl (lv_at hl 0 rfl) ?_
    cases hf
    exact r_iret hx hb hr hlk d_Ways_distanceOf_21
  · rw [if_pos h13] at hf
    refine lv_iconst (v := (-1)) hx hb d_Ways_distanceOf_16 (by decide) ?_
    refine lv_goto (tgt := 21) hx hb d_Ways_distanceOf_17 (by decide) ?_
    cases hf
    exact r_iret hx hb hr hlk d_Ways_distanceOf_21
def f_Ways_nextOf_10 (n : Nat) (a : Int32) (M : Mem) (j5 : Nat) : Nat → Int32 → Option (Int32)
  | 0, _ => none
  | k10 + 1, v4_10 =>
    if (nI n) ≤ v4_10 then (some (-1)) else ((f_Ways_areLinked n a v4_10 M).bind fun r23 => if r23 = 0 then (f_Ways_nextOf_10 n a M j5 k10 (v4_10 + 1)) else ((ix a n).bind fun j34 => (ix v4_10 n).bind fun j37 => (ix v4_10 n).bind fun j41 => (ix a n).bind fun j45 => if ((M 16 j34 0 j37) + (M 12 j5 0 j41)) = (M 12 j5 0 j45) then (some v4_10) else (f_Ways_nextOf_10 n a M j5 k10 (v4_10 + 1))))
def f_Ways_nextOf (n : Nat) (a : Int32) (b : Int32) (M : Mem) : Option (Int32) :=
  (ix b 4).bind fun j5 => f_Ways_nextOf_10 n a M j5 1000 0
abbrev rm_Ways_nextOf : Room := { frames := 1, cells := 0, slots := 0, locals := 22 }
set_option maxHeartbeats 4000000 in
set_option maxRecDepth 100000 in
theorem c_Ways_nextOf {l : Launch} {D : va_G} {n : Nat} {ad : Nat → Nat} {G : Nat → ClassId} {a : Int32} {b : Int32}  {M : Mem} {x : Int32} (hf : f_Ways_nextOf n a b M = some x) : Met l y_Ways_nextOf (wc y_Ways_nextOf b_Ways_nextOf 5 (some .int)) rm_Ways_nextOf (va_Pc [.ref (ad 1), .int a, .int b] (cB D n ad G M)) (rd_Q (some (.int x))) 0 0 (fun _ => False) := by
  refine k_met (by decide) (Nat.le_of_ble_eq_true rfl) ?_
  intro p e s m args below meth c S hr hlk hB ls hl
  obtain ⟨hx, hb, hml, hown, hts⟩ := id S
  obtain ⟨hP, hK, hA0⟩ := hB
  have hA := wl_own hA0
  have hl : lv_has ls 5 [(0, .ref (ad 1)), (1, .int a), (2, .int b)] := hl
  unfold f_Ways_nextOf at hf
  refine lv_aload_n hx hb d_Ways_nextOf_0 rfl (lv_at hl 0 rfl) ?_
  refine va_get (D := D) (ci := 1) (v := .ref (ad 4)) (C := R_Ways) (T := F_Ways) (N := 4) hx hb hts in_Ways hown hK hP 1 (wl_to (Ways_lt) (Ways_at)) rfl 3 (by decide) (hts _ fl_Ways_30) (fun _ h => h) rfl d_Ways_nextOf_1 ?_
  refine lv_iload_n hx hb d_Ways_nextOf_4 rfl (lv_at hl 2 rfl) ?_
  obtain ⟨j5, hj5, hf⟩ := ob hf
  refine k_rald hx hb hK hP 4 1 (DO_lt) (DO_at) rfl hj5 rfl d_Ways_nextOf_5 ?_
  refine lv_astore_n (lv' := [(3, .ref (ad (12 + j5))), (0, .ref (ad 1)), (1, .int a), (2, .int b)]) hx hb d_Ways_nextOf_6 rfl hl (by decide) rfl (fun ls hl => ?_)
  refine lv_iconst (v := 0) hx hb d_Ways_nextOf_7 (by decide) ?_
  refine lv_istore (lv' := [(4, .int 0), (3, .ref (ad (12 + j5))), (0, .ref (ad 1)), (1, .int a), (2, .int b)]) hx hb d_Ways_nextOf_8 hl (by decide) rfl (fun ls hl => ?_)
  have L10 : ∀ (k10 : Nat) (v4_10 : Int32) (ls : Array Slot), lv_has ls 5 [(4, .int v4_10), (3, .ref (ad (12 + j5))), (0, .ref (ad 1)), (1, .int a), (2, .int b)] → f_Ways_nextOf_10 n a M j5 k10 v4_10 = some x → W p l e rm_Ways_nextOf s m args below meth c s.heap [] 0 0 (MQ below (rd_Q (some (.int x))) args s 0 0 (fun _ => False)) (F0 m 10 ls []) := by
    intro k10
    induction k10 with
    | zero =>
      intro v4_10 ls hl hf
      simp [f_Ways_nextOf_10] at hf
    | succ k10 ih10 =>
      intro v4_10 ls hl hf
      rw [f_Ways_nextOf_10] at hf
      refine lv_iload hx hb d_Ways_nextOf_10 (lv_at hl 0 rfl) ?_
      refine lv_aload_n hx hb d_Ways_nextOf_12 rfl (lv_at hl 2 rfl) ?_
      refine va_get (D := D) (ci := 1) (v := .int (nI n)) (C := R_Ways) (T := F_Ways) (N := 4) hx hb hts in_Ways hown hK hP 1 (wl_to (Ways_lt) (Ways_at)) rfl 0 (by decide) (hts _ fl_Ways_9) (fun _ h => h) rfl d_Ways_nextOf_13 ?_
      refine lv_icmp_ge (tgt := 58) hx hb d_Ways_nextOf_16 (by decide) (fun h16 => ?_) (fun h16 => ?_)
      · rw [if_pos h16] at hf
        refine lv_iconst (v := (-1)) hx hb d_Ways_nextOf_58 (by decide) ?_
        cases hf
        exact r_iret hx hb hr hlk d_Ways_nextOf_59
      · rw [if_neg h16] at hf
        refine lv_aload_n hx hb d_Ways_nextOf_19 rfl (lv_at hl 2 rfl) ?_
        refine lv_iload_n hx hb d_Ways_nextOf_20 rfl (lv_at hl 3 rfl) ?_
        refine lv_iload hx hb d_Ways_nextOf_21 (lv_at hl 0 rfl) ?_
        obtain ⟨r23, hc23, hf⟩ := ob hf
        refine k_rdi (k_vir S (c_Ways_areLinked (l := l) (D := D) (n := n) (ad := ad) (G := G) hc23) g_Ways_37 hd_Ways_areLinked ⟨rfl, rfl⟩ ⟨Nat.le_of_ble_eq_true rfl, Nat.le_of_ble_eq_true rfl⟩ wl_blind (va_recv hK hP rfl (wl_to (Ways_lt) (Ways_at))) (wl_pre hP hK hA) rfl hl.1 rfl (Nat.le_of_ble_eq_true rfl) d_Ways_nextOf_23 (Nat.zero_le _) (Nat.zero_le _)) ?_
        refine lv_if_eq (tgt := 52) hx hb d_Ways_nextOf_26 (by decide) (fun h26 => ?_) (fun h26 => ?_)
        · rw [if_pos h26] at hf
          refine lv_iinc (v := (v4_10 + 1)) (lv' := [(4, .int (v4_10 + 1)), (3, .ref (ad (12 + j5))), (0, .ref (ad 1)), (1, .int a), (2, .int b)]) hx hb d_Ways_nextOf_52 hl (k := 0) rfl rfl (by decide) rfl (fun ls hl => ?_)
          refine lv_goto (tgt := 10) hx hb d_Ways_nextOf_55 (by decide) ?_
          exact ih10 _ _ (lv_sub hl [0, 1, 2, 3, 4] rfl) hf
        · rw [if_neg h26] at hf
          refine lv_aload_n hx hb d_Ways_nextOf_29 rfl (lv_at hl 2 rfl) ?_
          refine va_get (D := D) (ci := 1) (v := .ref (ad 2)) (C := R_Ways) (T := F_Ways) (N := 4) hx hb hts in_Ways hown hK hP 1 (wl_to (Ways_lt) (Ways_at)) rfl 1 (by decide) (hts _ fl_Ways_17) (fun _ h => h) rfl d_Ways_nextOf_30 ?_
          refine lv_iload_n hx hb d_Ways_nextOf_33 rfl (lv_at hl 3 rfl) ?_
          obtain ⟨j34, hj34, hf⟩ := ob hf
          refine k_rald hx hb hK hP 2 1 (CO_lt) (CO_at) rfl hj34 rfl d_Ways_nextOf_34 ?_
          refine lv_iload hx hb d_Ways_nextOf_35 (lv_at hl 0 rfl) ?_
          obtain ⟨j37, hj37, hf⟩ := ob hf
          refine k_iald hx hb hK hP (16 + 11 * j34 + 0) 0 (CR_lt (ix_lt hj34)) (CR_at (ix_lt hj34)) rfl hj37 d_Ways_nextOf_37 ?_
          refine lv_aload_n hx hb d_Ways_nextOf_38 rfl (lv_at hl 1 rfl) ?_
          refine lv_iload hx hb d_Ways_nextOf_39 (lv_at hl 0 rfl) ?_
          obtain ⟨j41, hj41, hf⟩ := ob hf
          refine k_iald hx hb hK hP (12 + j5) 0 (DR_lt (ix_lt hj5)) (DR_at (ix_lt hj5)) rfl hj41 d_Ways_nextOf_41 ?_
          refine lv_iadd hx hb d_Ways_nextOf_42 ?_
          refine lv_aload_n hx hb d_Ways_nextOf_43 rfl (lv_at hl 1 rfl) ?_
          refine lv_iload_n hx hb d_Ways_nextOf_44 rfl (lv_at hl 3 rfl) ?_
          obtain ⟨j45, hj45, hf⟩ := ob hf
          refine k_iald hx hb hK hP (12 + j5) 0 (DR_lt (ix_lt hj5)) (DR_at (ix_lt hj5)) rfl hj45 d_Ways_nextOf_45 ?_
          refine lv_icmp_ne (tgt := 52) hx hb d_Ways_nextOf_46 (by decide) (fun h46 => ?_) (fun h46 => ?_)
          · rw [if_neg h46] at hf
            refine lv_iinc (v := (v4_10 + 1)) (lv' := [(4, .int (v4_10 + 1)), (3, .ref (ad (12 + j5))), (0, .ref (ad 1)), (1, .int a), (2, .int b)]) hx hb d_Ways_nextOf_52 hl (k := 0) rfl rfl (by decide) rfl (fun ls hl => ?_)
            refine lv_goto (tgt := 10) hx hb d_Ways_nextOf_55 (by decide) ?_
            exact ih10 _ _ (lv_sub hl [0, 1, 2, 3, 4] rfl) hf
          · rw [if_pos h46] at hf
            refine lv_iload hx hb d_Ways_nextOf_49 (lv_at hl 0 rfl) ?_
            cases hf
            exact r_iret hx hb hr hlk d_Ways_nextOf_51
  exact L10 _ _ _ (lv_sub hl [0, 1, 2, 3, 4] rfl) hf
def f_Arr_fillD_5 (n : Nat) (q : Nat) (b : Int32) : Nat → Int32 → Mem → Option (Mem)
  | 0, _, _ => none
  | k5 + 1, v2_5, N5 =>
    if (nI n) ≤ v2_5 then (some N5) else ((ix v2_5 n).bind fun j13 => f_Arr_fillD_5 n q b k5 (v2_5 + 1) (mset N5 12 q 0 j13 b))
def f_Arr_fillD (n : Nat) (q : Nat) (b : Int32) (M : Mem) : Option (Mem) :=
  f_Arr_fillD_5 n q b 1000 0 M
abbrev rm_Arr_fillD : Room := { frames := 0, cells := 0, slots := 0, locals := 0 }
set_option maxHeartbeats 4000000 in
set_option maxRecDepth 100000 in
theorem c_Arr_fillD {l : Launch} {D : va_G} {n : Nat} {ad : Nat → Nat} {G : Nat → ClassId} {q : Nat} {b : Int32} (hp_q : q < 4) {M : Mem} {x : Mem} (hf : f_Arr_fillD n q b M = some x) : Met l y_Arr_fill (wc y_Arr_fill b_Arr_fill 4 (none)) rm_Arr_fillD (va_Pc [.ref (ad (12 + q)), .int b] (cB D n ad G M)) (wr_Q (none) D cls (cK n) ad (cE n ad G x)) 0 0 (wl_A (cK n) ad) := by
  refine k_met (by decide) (Nat.le_of_ble_eq_true rfl) ?_
  intro p e s m args below meth c S hr hlk hB ls hl
  obtain ⟨hx, hb, hml, hown, hts⟩ := id S
  obtain ⟨hP, hK, hA0⟩ := hB
  have hA := wl_own hA0
  have hl : lv_has ls 4 [(0, .ref (ad (12 + q))), (1, .int b)] := hl
  have hS : va_S (wl_A (cK n) ad) s.heap s.heap [] := va_S.rf
  unfold f_Arr_fillD at hf
  refine lv_iconst (v := 0) hx hb d_Arr_fill_0 (by decide) ?_
  refine lv_istore_n (lv' := [(2, .int 0), (0, .ref (ad (12 + q))), (1, .int b)]) hx hb d_Arr_fill_1 rfl hl (by decide) rfl (fun ls hl => ?_)
  refine lv_aload_n hx hb d_Arr_fill_2 rfl (lv_at hl 1 rfl) ?_
  refine va_alen (v := (nI n)) hx hb hK hP (12 + q) 0 (wl_to (DR_lt hp_q) (DR_at hp_q)) rfl rfl d_Arr_fill_3 ?_
  refine lv_istore_n (lv' := [(3, .int (nI n)), (2, .int 0), (0, .ref (ad (12 + q))), (1, .int b)]) hx hb d_Arr_fill_4 rfl hl (by decide) rfl (fun ls hl => ?_)
  have L5 : ∀ (k5 : Nat) (v2_5 : Int32) (N5 : Mem) (H : Heap) (locs : List Loc) (ls : Array Slot), lv_has ls 4 [(3, .int (nI n)), (2, .int v2_5), (0, .ref (ad (12 + q))), (1, .int b)] → va_P D cls (cW n ad G N5) H → va_S (wl_A (cK n) ad) s.heap H locs → f_Arr_fillD_5 n q b k5 v2_5 N5 = some x → W p l e rm_Arr_fillD s m args below meth c H locs 0 0 (MQ below (wr_Q (none) D cls (cK n) ad (cE n ad G x)) args s 0 0 (wl_A (cK n) ad)) (F0 m 5 ls []) := by
    intro k5
    induction k5 with
    | zero =>
      intro v2_5 N5 H locs ls hl hP hS hf
      simp [f_Arr_fillD_5] at hf
    | succ k5 ih5 =>
      intro v2_5 N5 H locs ls hl hP hS hf
      rw [f_Arr_fillD_5] at hf
      refine lv_iload_n hx hb d_Arr_fill_5 rfl (lv_at hl 1 rfl) ?_
      refine lv_iload_n hx hb d_Arr_fill_6 rfl (lv_at hl 0 rfl) ?_
      refine lv_icmp_ge (tgt := 20) hx hb d_Arr_fill_7 (by decide) (fun h7 => ?_) (fun h7 => ?_)
      · rw [if_pos h7] at hf
        cases hf
        exact w_vret hx hb hr hlk hP hS d_Arr_fill_20
      · rw [if_neg h7] at hf
        refine lv_aload_n hx hb d_Arr_fill_10 rfl (lv_at hl 2 rfl) ?_
        refine lv_iload_n hx hb d_Arr_fill_11 rfl (lv_at hl 1 rfl) ?_
        refine lv_iload_n hx hb d_Arr_fill_12 rfl (lv_at hl 3 rfl) ?_
        obtain ⟨j13, hj13, hf⟩ := ob hf
        refine m_iast (x := b) hx hb hK hP hA hS cJ (12 + q) 0 (DR_lt hp_q) (DR_tg hp_q) (fun f => DR_row f hp_q) rfl hj13 d_Arr_fill_13 (fun H locs hP hS => ?_)
        refine lv_iinc (v := (v2_5 + 1)) (lv' := [(2, .int (v2_5 + 1)), (3, .int (nI n)), (0, .ref (ad (12 + q))), (1, .int b)]) hx hb d_Arr_fill_14 hl (k := 1) rfl rfl (by decide) rfl (fun ls hl => ?_)
        refine lv_goto (tgt := 5) hx hb d_Arr_fill_17 (by decide) ?_
        exact ih5 _ _ _ _ _ (lv_sub hl [1, 0, 2, 3] rfl) hP hS hf
  exact L5 _ _ _ _ _ _ (lv_sub hl [0, 1, 2, 3] rfl) hP hS hf
def f_Arr_fillT_5 (n : Nat) (r : Nat) (q : Nat) (b : Int32) : Nat → Int32 → Mem → Option (Mem)
  | 0, _, _ => none
  | k5 + 1, v2_5, N5 =>
    if (nI 4) ≤ v2_5 then (some N5) else ((ix v2_5 4).bind fun j13 => f_Arr_fillT_5 n r q b k5 (v2_5 + 1) (mset N5 21 r q j13 b))
def f_Arr_fillT (n : Nat) (r : Nat) (q : Nat) (b : Int32) (M : Mem) : Option (Mem) :=
  f_Arr_fillT_5 n r q b 1000 0 M
abbrev rm_Arr_fillT : Room := { frames := 0, cells := 0, slots := 0, locals := 0 }
set_option maxHeartbeats 4000000 in
set_option maxRecDepth 100000 in
theorem c_Arr_fillT {l : Launch} {D : va_G} {n : Nat} {ad : Nat → Nat} {G : Nat → ClassId} {r : Nat} {q : Nat} {b : Int32} (hp_r : r < n) (hp_q : q < 6) {M : Mem} {x : Mem} (hf : f_Arr_fillT n r q b M = some x) : Met l y_Arr_fill (wc y_Arr_fill b_Arr_fill 4 (none)) rm_Arr_fillT (va_Pc [.ref (ad (16 + 11 * r + (q + 5))), .int b] (cB D n ad G M)) (wr_Q (none) D cls (cK n) ad (cE n ad G x)) 0 0 (wl_A (cK n) ad) := by
  refine k_met (by decide) (Nat.le_of_ble_eq_true rfl) ?_
  intro p e s m args below meth c S hr hlk hB ls hl
  obtain ⟨hx, hb, hml, hown, hts⟩ := id S
  obtain ⟨hP, hK, hA0⟩ := hB
  have hA := wl_own hA0
  have hl : lv_has ls 4 [(0, .ref (ad (16 + 11 * r + (q + 5)))), (1, .int b)] := hl
  have hS : va_S (wl_A (cK n) ad) s.heap s.heap [] := va_S.rf
  unfold f_Arr_fillT at hf
  refine lv_iconst (v := 0) hx hb d_Arr_fill_0 (by decide) ?_
  refine lv_istore_n (lv' := [(2, .int 0), (0, .ref (ad (16 + 11 * r + (q + 5)))), (1, .int b)]) hx hb d_Arr_fill_1 rfl hl (by decide) rfl (fun ls hl => ?_)
  refine lv_aload_n hx hb d_Arr_fill_2 rfl (lv_at hl 1 rfl) ?_
  refine va_alen (v := (nI 4)) hx hb hK hP (16 + 11 * r + (q + 5)) 0 (wl_to (TD_lt hp_r hp_q) (TD_at hp_r hp_q)) rfl rfl d_Arr_fill_3 ?_
  refine lv_istore_n (lv' := [(3, .int (nI 4)), (2, .int 0), (0, .ref (ad (16 + 11 * r + (q + 5)))), (1, .int b)]) hx hb d_Arr_fill_4 rfl hl (by decide) rfl (fun ls hl => ?_)
  have L5 : ∀ (k5 : Nat) (v2_5 : Int32) (N5 : Mem) (H : Heap) (locs : List Loc) (ls : Array Slot), lv_has ls 4 [(3, .int (nI 4)), (2, .int v2_5), (0, .ref (ad (16 + 11 * r + (q + 5)))), (1, .int b)] → va_P D cls (cW n ad G N5) H → va_S (wl_A (cK n) ad) s.heap H locs → f_Arr_fillT_5 n r q b k5 v2_5 N5 = some x → W p l e rm_Arr_fillT s m args below meth c H locs 0 0 (MQ below (wr_Q (none) D cls (cK n) ad (cE n ad G x)) args s 0 0 (wl_A (cK n) ad)) (F0 m 5 ls []) := by
    intro k5
    induction k5 with
    | zero =>
      intro v2_5 N5 H locs ls hl hP hS hf
      simp [f_Arr_fillT_5] at hf
    | succ k5 ih5 =>
      intro v2_5 N5 H locs ls hl hP hS hf
      rw [f_Arr_fillT_5] at hf
      refine lv_iload_n hx hb d_Arr_fill_5 rfl (lv_at hl 1 rfl) ?_
      refine lv_iload_n hx hb d_Arr_fill_6 rfl (lv_at hl 0 rfl) ?_
      refine lv_icmp_ge (tgt := 20) hx hb d_Arr_fill_7 (by decide) (fun h7 => ?_) (fun h7 => ?_)
      · rw [if_pos h7] at hf
        cases hf
        exact w_vret hx hb hr hlk hP hS d_Arr_fill_20
      · rw [if_neg h7] at hf
        refine lv_aload_n hx hb d_Arr_fill_10 rfl (lv_at hl 2 rfl) ?_
        refine lv_iload_n hx hb d_Arr_fill_11 rfl (lv_at hl 1 rfl) ?_
        refine lv_iload_n hx hb d_Arr_fill_12 rfl (lv_at hl 3 rfl) ?_
        obtain ⟨j13, hj13, hf⟩ := ob hf
        refine m_iast (x := b) hx hb hK hP hA hS cJ (16 + 11 * r + (q + 5)) 0 (TD_lt hp_r hp_q) (TD_tg hp_r hp_q) (fun f => TD_row f hp_r hp_q) rfl hj13 d_Arr_fill_13 (fun H locs hP hS => ?_)
        refine lv_iinc (v := (v2_5 + 1)) (lv' := [(2, .int (v2_5 + 1)), (3, .int (nI 4)), (0, .ref (ad (16 + 11 * r + (q + 5)))), (1, .int b)]) hx hb d_Arr_fill_14 hl (k := 1) rfl rfl (by decide) rfl (fun ls hl => ?_)
        refine lv_goto (tgt := 5) hx hb d_Arr_fill_17 (by decide) ?_
        exact ih5 _ _ _ _ _ (lv_sub hl [1, 0, 2, 3] rfl) hP hS hf
  exact L5 _ _ _ _ _ _ (lv_sub hl [0, 1, 2, 3] rfl) hP hS hf
def f_Ways_lengthenWays_12 (n : Nat) (q : Nat) (v2_2 : Int32) (kk2 : Int32 → Mem → Option (Mem)) : Nat → Int32 → Mem → Option (Mem)
  | 0, _, _ => none
  | k12 + 1, v3_12, N12 =>
    if (nI n) ≤ v3_12 then (kk2 (v2_2 + 1) N12) else ((f_Ways_areLinked n v2_2 v3_12 N12).bind fun r23 => if r23 = 0 then (f_Ways_lengthenWays_12 n q v2_2 kk2 k12 (v3_12 + 1) N12) else ((ix v2_2 n).bind fun j33 => (ix v3_12 n).bind fun j36 => (ix v2_2 n).bind fun j42 => (ix v3_12 n).bind fun j44 => (ix v2_2 n).bind fun j49 => f_Ways_lengthenWays_12 n q v2_2 kk2 k12 (v3_12 + 1) (mset N12 12 q 0 j49 (if ((N12 12 q 0 j36) + (N12 16 j42 0 j44)) < (N12 12 q 0 j33) then ((N12 12 q 0 j36) + (N12 16 j42 0 j44)) else (N12 12 q 0 j33)))))
def f_Ways_lengthenWays_2 (n : Nat) (q : Nat) : Nat → Int32 → Mem → Option (Mem)
  | 0, _, _ => none
  | k2 + 1, v2_2, N2 =>
    if (nI n) ≤ v2_2 then (some N2) else (f_Ways_lengthenWays_12 n q v2_2 (fun u0 u1 => f_Ways_lengthenWays_2 n q k2 u0 u1) 1000 0 N2)
def f_Ways_lengthenWays (n : Nat) (q : Nat) (M : Mem) : Option (Mem) :=
  f_Ways_lengthenWays_2 n q 1000 0 M
abbrev rm_Ways_lengthenWays : Room := { frames := 1, cells := 0, slots := 0, locals := 22 }
set_option maxHeartbeats 4000000 in
set_option maxRecDepth 100000 in
theorem c_Ways_lengthenWays {l : Launch} {D : va_G} {n : Nat} {ad : Nat → Nat} {G : Nat → ClassId} {q : Nat} (hp_q : q < 4) {M : Mem} {x : Mem} (hf : f_Ways_lengthenWays n q M = some x) : Met l y_Ways_lengthenWays (wc y_Ways_lengthenWays b_Ways_lengthenWays 4 (none)) rm_Ways_lengthenWays (va_Pc [.ref (ad 1), .ref (ad (12 + q))] (cB D n ad G M)) (wr_Q (none) D cls (cK n) ad (cE n ad G x)) 0 0 (wl_A (cK n) ad) := by
  refine k_met (by decide) (Nat.le_of_ble_eq_true rfl) ?_
  intro p e s m args below meth c S hr hlk hB ls hl
  obtain ⟨hx, hb, hml, hown, hts⟩ := id S
  obtain ⟨hP, hK, hA0⟩ := hB
  have hA := wl_own hA0
  have hl : lv_has ls 4 [(0, .ref (ad 1)), (1, .ref (ad (12 + q)))] := hl
  have hS : va_S (wl_A (cK n) ad) s.heap s.heap [] := va_S.rf
  unfold f_Ways_lengthenWays at hf
  refine lv_iconst (v := 0) hx hb d_Ways_lengthenWays_0 (by decide) ?_
  refine lv_istore_n (lv' := [(2, .int 0), (0, .ref (ad 1)), (1, .ref (ad (12 + q)))]) hx hb d_Ways_lengthenWays_1 rfl hl (by decide) rfl (fun ls hl => ?_)
  have L2 : ∀ (k2 : Nat) (v2_2 : Int32) (N2 : Mem) (H : Heap) (locs : List Loc) (ls : Array Slot), lv_has ls 4 [(2, .int v2_2), (0, .ref (ad 1)), (1, .ref (ad (12 + q)))] → va_P D cls (cW n ad G N2) H → va_S (wl_A (cK n) ad) s.heap H locs → f_Ways_lengthenWays_2 n q k2 v2_2 N2 = some x → W p l e rm_Ways_lengthenWays s m args below meth c H locs 0 0 (MQ below (wr_Q (none) D cls (cK n) ad (cE n ad G x)) args s 0 0 (wl_A (cK n) ad)) (F0 m 2 ls []) := by
    intro k2
    induction k2 with
    | zero =>
      intro v2_2 N2 H locs ls hl hP hS hf
      simp [f_Ways_lengthenWays_2] at hf
    | succ k2 ih2 =>
      intro v2_2 N2 H locs ls hl hP hS hf
      rw [f_Ways_lengthenWays_2] at hf
      refine lv_iload_n hx hb d_Ways_lengthenWays_2 rfl (lv_at hl 0 rfl) ?_
      refine lv_aload_n hx hb d_Ways_lengthenWays_3 rfl (lv_at hl 1 rfl) ?_
      refine va_get (D := D) (ci := 1) (v := .int (nI n)) (C := R_Ways) (T := F_Ways) (N := 4) hx hb hts in_Ways hown hK hP 1 (wl_to (Ways_lt) (Ways_at)) rfl 0 (by decide) (hts _ fl_Ways_9) (fun _ h => h) rfl d_Ways_lengthenWays_4 ?_
      refine lv_icmp_ge (tgt := 62) hx hb d_Ways_lengthenWays_7 (by decide) (fun h7 => ?_) (fun h7 => ?_)
      · rw [if_pos h7] at hf
        cases hf
        exact w_vret hx hb hr hlk hP hS d_Ways_lengthenWays_62
      · rw [if_neg h7] at hf
        refine lv_iconst (v := 0) hx hb d_Ways_lengthenWays_10 (by decide) ?_
        refine lv_istore_n (lv' := [(3, .int 0), (2, .int v2_2), (0, .ref (ad 1)), (1, .ref (ad (12 + q)))]) hx hb d_Ways_lengthenWays_11 rfl hl (by decide) rfl (fun ls hl => ?_)
        have L12 : ∀ (k12 : Nat) (v3_12 : Int32) (N12 : Mem) (H : Heap) (locs : List Loc) (ls : Array Slot), lv_has ls 4 [(3, .int v3_12), (2, .int v2_2), (0, .ref (ad 1)), (1, .ref (ad (12 + q)))] → va_P D cls (cW n ad G N12) H → va_S (wl_A (cK n) ad) s.heap H locs → f_Ways_lengthenWays_12 n q v2_2 (fun u0 u1 => f_Ways_lengthenWays_2 n q k2 u0 u1) k12 v3_12 N12 = some x → W p l e rm_Ways_lengthenWays s m args below meth c H locs 0 0 (MQ below (wr_Q (none) D cls (cK n) ad (cE n ad G x)) args s 0 0 (wl_A (cK n) ad)) (F0 m 12 ls []) := by
          intro k12
          induction k12 with
          | zero =>
            intro v3_12 N12 H locs ls hl hP hS hf
            simp [f_Ways_lengthenWays_12] at hf
          | succ k12 ih12 =>
            intro v3_12 N12 H locs ls hl hP hS hf
            rw [f_Ways_lengthenWays_12] at hf
            refine lv_iload_n hx hb d_Ways_lengthenWays_12 rfl (lv_at hl 0 rfl) ?_
            refine lv_aload_n hx hb d_Ways_lengthenWays_13 rfl (lv_at hl 2 rfl) ?_
            refine va_get (D := D) (ci := 1) (v := .int (nI n)) (C := R_Ways) (T := F_Ways) (N := 4) hx hb hts in_Ways hown hK hP 1 (wl_to (Ways_lt) (Ways_at)) rfl 0 (by decide) (hts _ fl_Ways_9) (fun _ h => h) rfl d_Ways_lengthenWays_14 ?_
            refine lv_icmp_ge (tgt := 56) hx hb d_Ways_lengthenWays_17 (by decide) (fun h17 => ?_) (fun h17 => ?_)
            · rw [if_pos h17] at hf
              refine lv_iinc (v := (v2_2 + 1)) (lv' := [(2, .int (v2_2 + 1)), (3, .int v3_12), (0, .ref (ad 1)), (1, .ref (ad (12 + q)))]) hx hb d_Ways_lengthenWays_56 hl (k := 1) rfl rfl (by decide) rfl (fun ls hl => ?_)
              refine lv_goto (tgt := 2) hx hb d_Ways_lengthenWays_59 (by decide) ?_
              exact ih2 _ _ _ _ _ (lv_sub hl [0, 2, 3] rfl) hP hS hf
            · rw [if_neg h17] at hf
              refine lv_aload_n hx hb d_Ways_lengthenWays_20 rfl (lv_at hl 2 rfl) ?_
              refine lv_iload_n hx hb d_Ways_lengthenWays_21 rfl (lv_at hl 1 rfl) ?_
              refine lv_iload_n hx hb d_Ways_lengthenWays_22 rfl (lv_at hl 0 rfl) ?_
              obtain ⟨r23, hc23, hf⟩ := ob hf
              refine k_rdi (k_vir S (c_Ways_areLinked (l := l) (D := D) (n := n) (ad := ad) (G := G) hc23) g_Ways_37 hd_Ways_areLinked ⟨rfl, rfl⟩ ⟨Nat.le_of_ble_eq_true rfl, Nat.le_of_ble_eq_true rfl⟩ wl_blind (va_recv hK hP rfl (wl_to (Ways_lt) (Ways_at))) (wl_pre hP hK hA) rfl hl.1 rfl (Nat.le_of_ble_eq_true rfl) d_Ways_lengthenWays_23 (Nat.zero_le _) (Nat.zero_le _)) ?_
              refine lv_if_eq (tgt := 50) hx hb d_Ways_lengthenWays_26 (by decide) (fun h26 => ?_) (fun h26 => ?_)
              · rw [if_pos h26] at hf
                refine lv_iinc (v := (v3_12 + 1)) (lv' := [(3, .int (v3_12 + 1)), (2, .int v2_2), (0, .ref (ad 1)), (1, .ref (ad (12 + q)))]) hx hb d_Ways_lengthenWays_50 hl (k := 0) rfl rfl (by decide) rfl (fun ls hl => ?_)
                refine lv_goto (tgt := 12) hx hb d_Ways_lengthenWays_53 (by decide) ?_
                exact ih12 _ _ _ _ _ (lv_sub hl [0, 1, 2, 3] rfl) hP hS hf
              · rw [if_neg h26] at hf
                refine lv_aload_n hx hb d_Ways_lengthenWays_29 rfl (lv_at hl 3 rfl) ?_
                refine lv_iload_n hx hb d_Ways_lengthenWays_30 rfl (lv_at hl 1 rfl) ?_
                refine lv_aload_n hx hb d_Ways_lengthenWays_31 rfl (lv_at hl 3 rfl) ?_
                refine lv_iload_n hx hb d_Ways_lengthenWays_32 rfl (lv_at hl 1 rfl) ?_
                obtain ⟨j33, hj33, hf⟩ := ob hf
                refine k_iald hx hb hK hP (12 + q) 0 (DR_lt hp_q) (DR_at hp_q) rfl hj33 d_Ways_lengthenWays_33 ?_
                refine lv_aload_n hx hb d_Ways_lengthenWays_34 rfl (lv_at hl 3 rfl) ?_
                refine lv_iload_n hx hb d_Ways_lengthenWays_35 rfl (lv_at hl 0 rfl) ?_
                obtain ⟨j36, hj36, hf⟩ := ob hf
                refine k_iald hx hb hK hP (12 + q) 0 (DR_lt hp_q) (DR_at hp_q) rfl hj36 d_Ways_lengthenWays_36 ?_
                refine lv_aload_n hx hb d_Ways_lengthenWays_37 rfl (lv_at hl 2 rfl) ?_
                refine va_get (D := D) (ci := 1) (v := .ref (ad 2)) (C := R_Ways) (T := F_Ways) (N := 4) hx hb hts in_Ways hown hK hP 1 (wl_to (Ways_lt) (Ways_at)) rfl 1 (by decide) (hts _ fl_Ways_17) (fun _ h => h) rfl d_Ways_lengthenWays_38 ?_
                refine lv_iload_n hx hb d_Ways_lengthenWays_41 rfl (lv_at hl 1 rfl) ?_
                obtain ⟨j42, hj42, hf⟩ := ob hf
                refine k_rald hx hb hK hP 2 1 (CO_lt) (CO_at) rfl hj42 rfl d_Ways_lengthenWays_42 ?_
                refine lv_iload_n hx hb d_Ways_lengthenWays_43 rfl (lv_at hl 0 rfl) ?_
                obtain ⟨j44, hj44, hf⟩ := ob hf
                refine k_iald hx hb hK hP (16 + 11 * j42 + 0) 0 (CR_lt (ix_lt hj42)) (CR_at (ix_lt hj42)) rfl hj44 d_Ways_lengthenWays_44 ?_
                refine lv_iadd hx hb d_Ways_lengthenWays_45 ?_
                refine va_mmin hx hb (hml.trans hl.1.symm) hown (hts _ ml_Ways_45) (hts _ ma_smin) (hts _ ma_ini) (hts _ ma_cmin) (by decide) (Nat.le_of_ble_eq_true rfl) (Nat.zero_le _) (Nat.zero_le _) d_Ways_lengthenWays_46 ?_
                obtain ⟨j49, hj49, hf⟩ := ob hf
                refine m_iast (x := (if ((N12 12 q 0 j36) + (N12 16 j42 0 j44)) < (N12 12 q 0 j33) then ((N12 12 q 0 j36) + (N12 16 j42 0 j44)) else (N12 12 q 0 j33))) hx hb hK hP hA hS cJ (12 + q) 0 (DR_lt hp_q) (DR_tg hp_q) (fun f => DR_row f hp_q) rfl hj49 d_Ways_lengthenWays_49 (fun H locs hP hS => ?_)
                refine lv_iinc (v := (v3_12 + 1)) (lv' := [(3, .int (v3_12 + 1)), (2, .int v2_2), (0, .ref (ad 1)), (1, .ref (ad (12 + q)))]) hx hb d_Ways_lengthenWays_50 hl (k := 0) rfl rfl (by decide) rfl (fun ls hl => ?_)
                refine lv_goto (tgt := 12) hx hb d_Ways_lengthenWays_53 (by decide) ?_
                exact ih12 _ _ _ _ _ (lv_sub hl [0, 1, 2, 3] rfl) hP hS hf
        exact L12 _ _ _ _ _ _ (lv_sub hl [0, 1, 2, 3] rfl) hP hS hf
  exact L2 _ _ _ _ _ _ (lv_sub hl [0, 1, 2] rfl) hP hS hf
def f_Ways_measure_36 (n : Nat) (j5 : Nat) : Nat → Int32 → Mem → Option (Mem)
  | 0, _, _ => none
  | k36 + 1, v3_36, N36 =>
    if (nI n) ≤ v3_36 then (some N36) else ((f_Ways_lengthenWays n j5 N36).bind fun r46 => f_Ways_measure_36 n j5 k36 (v3_36 + 1) r46)
def f_Ways_measure (n : Nat) (a : Int32) (M : Mem) : Option (Mem) :=
  (ix a 4).bind fun j5 => (f_Arr_fillD n j5 1000 M).bind fun r11 => (ix a 4).bind fun j19 => if (r11 3 0 0 j19) = (-1) then (some r11) else ((ix a 4).bind fun j31 => (ix (r11 3 0 0 j31) n).bind fun j33 => f_Ways_measure_36 n j5 1000 1 (mset r11 12 j5 0 j33 0))
abbrev rm_Ways_measure : Room := { frames := 2, cells := 0, slots := 0, locals := 45 }
set_option maxHeartbeats 4000000 in
set_option maxRecDepth 100000 in
theorem c_Ways_measure {l : Launch} {D : va_G} {n : Nat} {ad : Nat → Nat} {G : Nat → ClassId} {a : Int32}  {M : Mem} {x : Mem} (hf : f_Ways_measure n a M = some x) : Met l y_Ways_measure (wc y_Ways_measure b_Ways_measure 4 (none)) rm_Ways_measure (va_Pc [.ref (ad 1), .int a] (cB D n ad G M)) (wr_Q (none) D cls (cK n) ad (cE n ad G x)) 0 0 (wl_A (cK n) ad) := by
  refine k_met (by decide) (Nat.le_of_ble_eq_true rfl) ?_
  intro p e s m args below meth c S hr hlk hB ls hl
  obtain ⟨hx, hb, hml, hown, hts⟩ := id S
  obtain ⟨hP, hK, hA0⟩ := hB
  have hA := wl_own hA0
  have hl : lv_has ls 4 [(0, .ref (ad 1)), (1, .int a)] := hl
  have hS : va_S (wl_A (cK n) ad) s.heap s.heap [] := va_S.rf
  unfold f_Ways_measure at hf
  refine lv_aload_n hx hb d_Ways_measure_0 rfl (lv_at hl 0 rfl) ?_
  refine va_get (D := D) (ci := 1) (v := .ref (ad 4)) (C := R_Ways) (T := F_Ways) (N := 4) hx hb hts in_Ways hown hK hP 1 (wl_to (Ways_lt) (Ways_at)) rfl 3 (by decide) (hts _ fl_Ways_30) (fun _ h => h) rfl d_Ways_measure_1 ?_
  refine lv_iload_n hx hb d_Ways_measure_4 rfl (lv_at hl 1 rfl) ?_
  obtain ⟨j5, hj5, hf⟩ := ob hf
  refine k_rald hx hb hK hP 4 1 (DO_lt) (DO_at) rfl hj5 rfl d_Ways_measure_5 ?_
  refine lv_astore_n (lv' := [(2, .ref (ad (12 + j5))), (0, .ref (ad 1)), (1, .int a)]) hx hb d_Ways_measure_6 rfl hl (by decide) rfl (fun ls hl => ?_)
  refine lv_aload_n hx hb d_Ways_measure_7 rfl (lv_at hl 0 rfl) ?_
  refine lv_sipush (v := 1000) hx hb d_Ways_measure_8 (by decide) ?_
  obtain ⟨r11, hc11, hf⟩ := ob hf
  refine k_wrv (k_sta S (c_Arr_fillD (l := l) (D := D) (n := n) (ad := ad) (G := G) (ix_lt hj5) hc11) g_Ways_24 hd_Arr_fill ⟨rfl, rfl⟩ ⟨Nat.le_of_ble_eq_true rfl, Nat.le_of_ble_eq_true rfl⟩ wl_blind (wl_pre hP hK hA) rfl hl.1 rfl (Nat.le_of_ble_eq_true rfl) d_Ways_measure_11 (Nat.zero_le _) (Nat.zero_le _)) hS (fun _ h => h) (fun H locs hP _ _ hS => ?_)
  refine lv_aload_n hx hb d_Ways_measure_14 rfl (lv_at hl 1 rfl) ?_
  refine va_get (D := D) (ci := 1) (v := .ref (ad 3)) (C := R_Ways) (T := F_Ways) (N := 4) hx hb hts in_Ways hown hK hP 1 (wl_to (Ways_lt) (Ways_at)) rfl 2 (by decide) (hts _ fl_Ways_20) (fun _ h => h) rfl d_Ways_measure_15 ?_
  refine lv_iload_n hx hb d_Ways_measure_18 rfl (lv_at hl 2 rfl) ?_
  obtain ⟨j19, hj19, hf⟩ := ob hf
  refine k_iald hx hb hK hP 3 0 (OW_lt) (OW_at) rfl hj19 d_Ways_measure_19 ?_
  refine lv_iconst (v := (-1)) hx hb d_Ways_measure_20 (by decide) ?_
  refine lv_icmp_ne (tgt := 25) hx hb d_Ways_measure_21 (by decide) (fun h21 => ?_) (fun h21 => ?_)
  · rw [if_neg h21] at hf
    refine lv_aload_n hx hb d_Ways_measure_25 rfl (lv_at hl 0 rfl) ?_
    refine lv_aload_n hx hb d_Ways_measure_26 rfl (lv_at hl 1 rfl) ?_
    refine va_get (D := D) (ci := 1) (v := .ref (ad 3)) (C := R_Ways) (T := F_Ways) (N := 4) hx hb hts in_Ways hown hK hP 1 (wl_to (Ways_lt) (Ways_at)) rfl 2 (by decide) (hts _ fl_Ways_20) (fun _ h => h) rfl d_Ways_measure_27 ?_
    refine lv_iload_n hx hb d_Ways_measure_30 rfl (lv_at hl 2 rfl) ?_
    obtain ⟨j31, hj31, hf⟩ := ob hf
    refine k_iald hx hb hK hP 3 0 (OW_lt) (OW_at) rfl hj31 d_Ways_measure_31 ?_
    refine lv_iconst (v := 0) hx hb d_Ways_measure_32 (by decide) ?_
    obtain ⟨j33, hj33, hf⟩ := ob hf
    refine m_iast (x := 0) hx hb hK hP hA hS cJ (12 + j5) 0 (DR_lt (ix_lt hj5)) (DR_tg (ix_lt hj5)) (fun f => DR_row f (ix_lt hj5)) rfl hj33 d_Ways_measure_33 (fun H locs hP hS => ?_)
    refine lv_iconst (v := 1) hx hb d_Ways_measure_34 (by decide) ?_
    refine lv_istore_n (lv' := [(3, .int 1), (2, .ref (ad (12 + j5))), (0, .ref (ad 1)), (1, .int a)]) hx hb d_Ways_measure_35 rfl hl (by decide) rfl (fun ls hl => ?_)
    have L36 : ∀ (k36 : Nat) (v3_36 : Int32) (N36 : Mem) (H : Heap) (locs : List Loc) (ls : Array Slot), lv_has ls 4 [(3, .int v3_36), (2, .ref (ad (12 + j5))), (0, .ref (ad 1)), (1, .int a)] → va_P D cls (cW n ad G N36) H → va_S (wl_A (cK n) ad) s.heap H locs → f_Ways_measure_36 n j5 k36 v3_36 N36 = some x → W p l e rm_Ways_measure s m args below meth c H locs 0 0 (MQ below (wr_Q (none) D cls (cK n) ad (cE n ad G x)) args s 0 0 (wl_A (cK n) ad)) (F0 m 36 ls []) := by
      intro k36
      induction k36 with
      | zero =>
        intro v3_36 N36 H locs ls hl hP hS hf
        simp [f_Ways_measure_36] at hf
      | succ k36 ih36 =>
        intro v3_36 N36 H locs ls hl hP hS hf
        rw [f_Ways_measure_36] at hf
        refine lv_iload_n hx hb d_Ways_measure_36 rfl (lv_at hl 0 rfl) ?_
        refine lv_aload_n hx hb d_Ways_measure_37 rfl (lv_at hl 2 rfl) ?_
        refine va_get (D := D) (ci := 1) (v := .int (nI n)) (C := R_Ways) (T := F_Ways) (N := 4) hx hb hts in_Ways hown hK hP 1 (wl_to (Ways_lt) (Ways_at)) rfl 0 (by decide) (hts _ fl_Ways_9) (fun _ h => h) rfl d_Ways_measure_38 ?_
        refine lv_icmp_ge (tgt := 55) hx hb d_Ways_measure_41 (by decide) (fun h41 => ?_) (fun h41 => ?_)
        · rw [if_pos h41] at hf
          cases hf
          exact w_vret hx hb hr hlk hP hS d_Ways_measure_55
        · rw [if_neg h41] at hf
          refine lv_aload_n hx hb d_Ways_measure_44 rfl (lv_at hl 2 rfl) ?_
          refine lv_aload_n hx hb d_Ways_measure_45 rfl (lv_at hl 1 rfl) ?_
          obtain ⟨r46, hc46, hf⟩ := ob hf
          refine k_wrv (k_vir S (c_Ways_lengthenWays (l := l) (D := D) (n := n) (ad := ad) (G := G) (ix_lt hj5) hc46) g_Ways_41 hd_Ways_lengthenWays ⟨rfl, rfl⟩ ⟨Nat.le_of_ble_eq_true rfl, Nat.le_of_ble_eq_true rfl⟩ wl_blind (va_recv hK hP rfl (wl_to (Ways_lt) (Ways_at))) (wl_pre hP hK hA) rfl hl.1 rfl (Nat.le_of_ble_eq_true rfl) d_Ways_measure_46 (Nat.zero_le _) (Nat.zero_le _)) hS (fun _ h => h) (fun H locs hP _ _ hS => ?_)
          refine lv_iinc (v := (v3_36 + 1)) (lv' := [(3, .int (v3_36 + 1)), (2, .ref (ad (12 + j5))), (0, .ref (ad 1)), (1, .int a)]) hx hb d_Ways_measure_49 hl (k := 0) rfl rfl (by decide) rfl (fun ls hl => ?_)
          refine lv_goto (tgt := 36) hx hb d_Ways_measure_52 (by decide) ?_
          exact ih36 _ _ _ _ _ (lv_sub hl [0, 1, 2, 3] rfl) hP hS hf
    exact L36 _ _ _ _ _ _ (lv_sub hl [0, 1, 2, 3] rfl) hP hS hf
  · rw [if_pos h21] at hf
    cases hf
    exact w_vret hx hb hr hlk hP hS d_Ways_measure_24
def f_Ways_setCost_21 (n : Nat) : Nat → Int32 → Mem → Option (Mem)
  | 0, _, _ => none
  | k21 + 1, v4_21, N21 =>
    if 4 ≤ v4_21 then (some N21) else ((f_Ways_measure n v4_21 N21).bind fun r30 => f_Ways_setCost_21 n k21 (v4_21 + 1) r30)
def f_Ways_setCost (n : Nat) (a : Int32) (b : Int32) (z : Int32) (M : Mem) : Option (Mem) :=
  (ix a n).bind fun j5 => (ix b n).bind fun j8 => (ix b n).bind fun j14 => (ix a n).bind fun j17 => f_Ways_setCost_21 n 1000 0 (mset (mset M 16 j5 0 j8 z) 16 j14 0 j17 z)
abbrev rm_Ways_setCost : Room := { frames := 3, cells := 0, slots := 0, locals := 68 }
set_option maxHeartbeats 4000000 in
set_option maxRecDepth 100000 in
theorem c_Ways_setCost {l : Launch} {D : va_G} {n : Nat} {ad : Nat → Nat} {G : Nat → ClassId} {a : Int32} {b : Int32} {z : Int32}  {M : Mem} {x : Mem} (hf : f_Ways_setCost n a b z M = some x) : Met l y_Ways_setCost (wc y_Ways_setCost b_Ways_setCost 5 (none)) rm_Ways_setCost (va_Pc [.ref (ad 1), .int a, .int b, .int z] (cB D n ad G M)) (wr_Q (none) D cls (cK n) ad (cE n ad G x)) 0 0 (wl_A (cK n) ad) := by
  refine k_met (by decide) (Nat.le_of_ble_eq_true rfl) ?_
  intro p e s m args below meth c S hr hlk hB ls hl
  obtain ⟨hx, hb, hml, hown, hts⟩ := id S
  obtain ⟨hP, hK, hA0⟩ := hB
  have hA := wl_own hA0
  have hl : lv_has ls 5 [(0, .ref (ad 1)), (1, .int a), (2, .int b), (3, .int z)] := hl
  have hS : va_S (wl_A (cK n) ad) s.heap s.heap [] := va_S.rf
  unfold f_Ways_setCost at hf
  refine lv_aload_n hx hb d_Ways_setCost_0 rfl (lv_at hl 0 rfl) ?_
  refine va_get (D := D) (ci := 1) (v := .ref (ad 2)) (C := R_Ways) (T := F_Ways) (N := 4) hx hb hts in_Ways hown hK hP 1 (wl_to (Ways_lt) (Ways_at)) rfl 1 (by decide) (hts _ fl_Ways_17) (fun _ h => h) rfl d_Ways_setCost_1 ?_
  refine lv_iload_n hx hb d_Ways_setCost_4 rfl (lv_at hl 1 rfl) ?_
  obtain ⟨j5, hj5, hf⟩ := ob hf
  refine k_rald hx hb hK hP 2 1 (CO_lt) (CO_at) rfl hj5 rfl d_Ways_setCost_5 ?_
  refine lv_iload_n hx hb d_Ways_setCost_6 rfl (lv_at hl 2 rfl) ?_
  refine lv_iload_n hx hb d_Ways_setCost_7 rfl (lv_at hl 3 rfl) ?_
  obtain ⟨j8, hj8, hf⟩ := ob hf
  refine m_iast (x := z) hx hb hK hP hA hS cJ (16 + 11 * j5 + 0) 0 (CR_lt (ix_lt hj5)) (CR_tg (ix_lt hj5)) (fun f => CR_row f (ix_lt hj5)) rfl hj8 d_Ways_setCost_8 (fun H locs hP hS => ?_)
  refine lv_aload_n hx hb d_Ways_setCost_9 rfl (lv_at hl 0 rfl) ?_
  refine va_get (D := D) (ci := 1) (v := .ref (ad 2)) (C := R_Ways) (T := F_Ways) (N := 4) hx hb hts in_Ways hown hK hP 1 (wl_to (Ways_lt) (Ways_at)) rfl 1 (by decide) (hts _ fl_Ways_17) (fun _ h => h) rfl d_Ways_setCost_10 ?_
  refine lv_iload_n hx hb d_Ways_setCost_13 rfl (lv_at hl 2 rfl) ?_
  obtain ⟨j14, hj14, hf⟩ := ob hf
  refine k_rald hx hb hK hP 2 1 (CO_lt) (CO_at) rfl hj14 rfl d_Ways_setCost_14 ?_
  refine lv_iload_n hx hb d_Ways_setCost_15 rfl (lv_at hl 1 rfl) ?_
  refine lv_iload_n hx hb d_Ways_setCost_16 rfl (lv_at hl 3 rfl) ?_
  obtain ⟨j17, hj17, hf⟩ := ob hf
  refine m_iast (x := z) hx hb hK hP hA hS cJ (16 + 11 * j14 + 0) 0 (CR_lt (ix_lt hj14)) (CR_tg (ix_lt hj14)) (fun f => CR_row f (ix_lt hj14)) rfl hj17 d_Ways_setCost_17 (fun H locs hP hS => ?_)
  refine lv_iconst (v := 0) hx hb d_Ways_setCost_18 (by decide) ?_
  refine lv_istore (lv' := [(4, .int 0), (0, .ref (ad 1)), (1, .int a), (2, .int b), (3, .int z)]) hx hb d_Ways_setCost_19 hl (by decide) rfl (fun ls hl => ?_)
  have L21 : ∀ (k21 : Nat) (v4_21 : Int32) (N21 : Mem) (H : Heap) (locs : List Loc) (ls : Array Slot), lv_has ls 5 [(4, .int v4_21), (0, .ref (ad 1)), (1, .int a), (2, .int b), (3, .int z)] → va_P D cls (cW n ad G N21) H → va_S (wl_A (cK n) ad) s.heap H locs → f_Ways_setCost_21 n k21 v4_21 N21 = some x → W p l e rm_Ways_setCost s m args below meth c H locs 0 0 (MQ below (wr_Q (none) D cls (cK n) ad (cE n ad G x)) args s 0 0 (wl_A (cK n) ad)) (F0 m 21 ls []) := by
    intro k21
    induction k21 with
    | zero =>
      intro v4_21 N21 H locs ls hl hP hS hf
      simp [f_Ways_setCost_21] at hf
    | succ k21 ih21 =>
      intro v4_21 N21 H locs ls hl hP hS hf
      rw [f_Ways_setCost_21] at hf
      refine lv_iload hx hb d_Ways_setCost_21 (lv_at hl 0 rfl) ?_
      refine lv_iconst (v := 4) hx hb d_Ways_setCost_23 (by decide) ?_
      refine lv_icmp_ge (tgt := 39) hx hb d_Ways_setCost_24 (by decide) (fun h24 => ?_) (fun h24 => ?_)
      · rw [if_pos h24] at hf
        cases hf
        exact w_vret hx hb hr hlk hP hS d_Ways_setCost_39
      · rw [if_neg h24] at hf
        refine lv_aload_n hx hb d_Ways_setCost_27 rfl (lv_at hl 1 rfl) ?_
        refine lv_iload hx hb d_Ways_setCost_28 (lv_at hl 0 rfl) ?_
        obtain ⟨r30, hc30, hf⟩ := ob hf
        refine k_wrv (k_vir S (c_Ways_measure (l := l) (D := D) (n := n) (ad := ad) (G := G) hc30) g_Ways_33 hd_Ways_measure ⟨rfl, rfl⟩ ⟨Nat.le_of_ble_eq_true rfl, Nat.le_of_ble_eq_true rfl⟩ wl_blind (va_recv hK hP rfl (wl_to (Ways_lt) (Ways_at))) (wl_pre hP hK hA) rfl hl.1 rfl (Nat.le_of_ble_eq_true rfl) d_Ways_setCost_30 (Nat.zero_le _) (Nat.zero_le _)) hS (fun _ h => h) (fun H locs hP _ _ hS => ?_)
        refine lv_iinc (v := (v4_21 + 1)) (lv' := [(4, .int (v4_21 + 1)), (0, .ref (ad 1)), (1, .int a), (2, .int b), (3, .int z)]) hx hb d_Ways_setCost_33 hl (k := 0) rfl rfl (by decide) rfl (fun ls hl => ?_)
        refine lv_goto (tgt := 21) hx hb d_Ways_setCost_36 (by decide) ?_
        exact ih21 _ _ _ _ _ (lv_sub hl [0, 1, 2, 3, 4] rfl) hP hS hf
  exact L21 _ _ _ _ _ _ (lv_sub hl [0, 1, 2, 3, 4] rfl) hP hS hf
def f_Ways_setOwner (n : Nat) (a : Int32) (b : Int32) (M : Mem) : Option (Mem) :=
  (ix a 4).bind fun j6 => (f_Ways_measure n a (mset M 3 0 0 j6 b)).bind fun r9 => some r9
abbrev rm_Ways_setOwner : Room := { frames := 3, cells := 0, slots := 0, locals := 68 }
set_option maxHeartbeats 4000000 in
set_option maxRecDepth 100000 in
theorem c_Ways_setOwner {l : Launch} {D : va_G} {n : Nat} {ad : Nat → Nat} {G : Nat → ClassId} {a : Int32} {b : Int32}  {M : Mem} {x : Mem} (hf : f_Ways_setOwner n a b M = some x) : Met l y_Ways_setOwner (wc y_Ways_setOwner b_Ways_setOwner 3 (none)) rm_Ways_setOwner (va_Pc [.ref (ad 1), .int a, .int b] (cB D n ad G M)) (wr_Q (none) D cls (cK n) ad (cE n ad G x)) 0 0 (wl_A (cK n) ad) := by
  refine k_met (by decide) (Nat.le_of_ble_eq_true rfl) ?_
  intro p e s m args below meth c S hr hlk hB ls hl
  obtain ⟨hx, hb, hml, hown, hts⟩ := id S
  obtain ⟨hP, hK, hA0⟩ := hB
  have hA := wl_own hA0
  have hl : lv_has ls 3 [(0, .ref (ad 1)), (1, .int a), (2, .int b)] := hl
  have hS : va_S (wl_A (cK n) ad) s.heap s.heap [] := va_S.rf
  unfold f_Ways_setOwner at hf
  refine lv_aload_n hx hb d_Ways_setOwner_0 rfl (lv_at hl 0 rfl) ?_
  refine va_get (D := D) (ci := 1) (v := .ref (ad 3)) (C := R_Ways) (T := F_Ways) (N := 4) hx hb hts in_Ways hown hK hP 1 (wl_to (Ways_lt) (Ways_at)) rfl 2 (by decide) (hts _ fl_Ways_20) (fun _ h => h) rfl d_Ways_setOwner_1 ?_
  refine lv_iload_n hx hb d_Ways_setOwner_4 rfl (lv_at hl 1 rfl) ?_
  refine lv_iload_n hx hb d_Ways_setOwner_5 rfl (lv_at hl 2 rfl) ?_
  obtain ⟨j6, hj6, hf⟩ := ob hf
  refine m_iast (x := b) hx hb hK hP hA hS cJ 3 0 (OW_lt) (OW_tg) (fun f => OW_row f) rfl hj6 d_Ways_setOwner_6 (fun H locs hP hS => ?_)
  refine lv_aload_n hx hb d_Ways_setOwner_7 rfl (lv_at hl 0 rfl) ?_
  refine lv_iload_n hx hb d_Ways_setOwner_8 rfl (lv_at hl 1 rfl) ?_
  obtain ⟨r9, hc9, hf⟩ := ob hf
  refine k_wrv (k_vir S (c_Ways_measure (l := l) (D := D) (n := n) (ad := ad) (G := G) hc9) g_Ways_33 hd_Ways_measure ⟨rfl, rfl⟩ ⟨Nat.le_of_ble_eq_true rfl, Nat.le_of_ble_eq_true rfl⟩ wl_blind (va_recv hK hP rfl (wl_to (Ways_lt) (Ways_at))) (wl_pre hP hK hA) rfl hl.1 rfl (Nat.le_of_ble_eq_true rfl) d_Ways_setOwner_9 (Nat.zero_le _) (Nat.zero_le _)) hS (fun _ h => h) (fun H locs hP _ _ hS => ?_)
  cases hf
  exact w_vret hx hb hr hlk hP hS d_Ways_setOwner_12
end
section
def f_Mail_kindOf (a : Int32) : Option (Int32) :=
  some (a >>> (16 &&& 31))
abbrev rm_Mail_kindOf : Room := { frames := 0, cells := 0, slots := 0, locals := 0 }
set_option maxHeartbeats 4000000 in
set_option maxRecDepth 100000 in
theorem c_Mail_kindOf {l : Launch} {D : va_G} {n : Nat} {ad : Nat → Nat} {G : Nat → ClassId} {a : Int32}  {M : Mem} {x : Int32} (hf : f_Mail_kindOf a = some x) : Met l y_Mail_kindOf (wc y_Mail_kindOf b_Mail_kindOf 1 (some .int)) rm_Mail_kindOf (va_Pc [.int a] (cB D n ad G M)) (rd_Q (some (.int x))) 0 0 (fun _ => False) := by
  refine k_met (by decide) (Nat.le_of_ble_eq_true rfl) ?_
  intro p e s m args below meth c S hr hlk hB ls hl
  obtain ⟨hx, hb, hml, hown, hts⟩ := id S
  obtain ⟨hP, hK, hA0⟩ := hB
  have hA := wl_own hA0
  have hl : lv_has ls 1 [(0, .int a)] := hl
  unfold f_Mail_kindOf at hf
  refine lv_iload_n hx hb d_Mail_kindOf_0 rfl (lv_at hl 0 rfl) ?_
  refine lv_bipush (v := 16) hx hb d_Mail_kindOf_1 (by decide) ?_
  refine lv_ishr hx hb d_Mail_kindOf_3 ?_
  cases hf
  exact r_iret hx hb hr hlk d_Mail_kindOf_4
def f_Mail_fromOf (a : Int32) : Option (Int32) :=
  some ((a >>> (12 &&& 31)) &&& 15)
abbrev rm_Mail_fromOf : Room := { frames := 0, cells := 0, slots := 0, locals := 0 }
set_option maxHeartbeats 4000000 in
set_option maxRecDepth 100000 in
theorem c_Mail_fromOf {l : Launch} {D : va_G} {n : Nat} {ad : Nat → Nat} {G : Nat → ClassId} {a : Int32}  {M : Mem} {x : Int32} (hf : f_Mail_fromOf a = some x) : Met l y_Mail_fromOf (wc y_Mail_fromOf b_Mail_fromOf 1 (some .int)) rm_Mail_fromOf (va_Pc [.int a] (cB D n ad G M)) (rd_Q (some (.int x))) 0 0 (fun _ => False) := by
  refine k_met (by decide) (Nat.le_of_ble_eq_true rfl) ?_
  intro p e s m args below meth c S hr hlk hB ls hl
  obtain ⟨hx, hb, hml, hown, hts⟩ := id S
  obtain ⟨hP, hK, hA0⟩ := hB
  have hA := wl_own hA0
  have hl : lv_has ls 1 [(0, .int a)] := hl
  unfold f_Mail_fromOf at hf
  refine lv_iload_n hx hb d_Mail_fromOf_0 rfl (lv_at hl 0 rfl) ?_
  refine lv_bipush (v := 12) hx hb d_Mail_fromOf_1 (by decide) ?_
  refine lv_ishr hx hb d_Mail_fromOf_3 ?_
  refine lv_bipush (v := 15) hx hb d_Mail_fromOf_4 (by decide) ?_
  refine lv_iand hx hb d_Mail_fromOf_6 ?_
  cases hf
  exact r_iret hx hb hr hlk d_Mail_fromOf_7
def f_Mail_toOf (a : Int32) : Option (Int32) :=
  some ((a >>> (8 &&& 31)) &&& 15)
abbrev rm_Mail_toOf : Room := { frames := 0, cells := 0, slots := 0, locals := 0 }
set_option maxHeartbeats 4000000 in
set_option maxRecDepth 100000 in
theorem c_Mail_toOf {l : Launch} {D : va_G} {n : Nat} {ad : Nat → Nat} {G : Nat → ClassId} {a : Int32}  {M : Mem} {x : Int32} (hf : f_Mail_toOf a = some x) : Met l y_Mail_toOf (wc y_Mail_toOf b_Mail_toOf 1 (some .int)) rm_Mail_toOf (va_Pc [.int a] (cB D n ad G M)) (rd_Q (some (.int x))) 0 0 (fun _ => False) := by
  refine k_met (by decide) (Nat.le_of_ble_eq_true rfl) ?_
  intro p e s m args below meth c S hr hlk hB ls hl
  obtain ⟨hx, hb, hml, hown, hts⟩ := id S
  obtain ⟨hP, hK, hA0⟩ := hB
  have hA := wl_own hA0
  have hl : lv_has ls 1 [(0, .int a)] := hl
  unfold f_Mail_toOf at hf
  refine lv_iload_n hx hb d_Mail_toOf_0 rfl (lv_at hl 0 rfl) ?_
  refine lv_bipush (v := 8) hx hb d_Mail_toOf_1 (by decide) ?_
  refine lv_ishr hx hb d_Mail_toOf_3 ?_
  refine lv_bipush (v := 15) hx hb d_Mail_toOf_4 (by decide) ?_
  refine lv_iand hx hb d_Mail_toOf_6 ?_
  cases hf
  exact r_iret hx hb hr hlk d_Mail_toOf_7
def f_Mail_prefixOf (a : Int32) : Option (Int32) :=
  some ((a >>> (5 &&& 31)) &&& 7)
abbrev rm_Mail_prefixOf : Room := { frames := 0, cells := 0, slots := 0, locals := 0 }
set_option maxHeartbeats 4000000 in
set_option maxRecDepth 100000 in
theorem c_Mail_prefixOf {l : Launch} {D : va_G} {n : Nat} {ad : Nat → Nat} {G : Nat → ClassId} {a : Int32}  {M : Mem} {x : Int32} (hf : f_Mail_prefixOf a = some x) : Met l y_Mail_prefixOf (wc y_Mail_prefixOf b_Mail_prefixOf 1 (some .int)) rm_Mail_prefixOf (va_Pc [.int a] (cB D n ad G M)) (rd_Q (some (.int x))) 0 0 (fun _ => False) := by
  refine k_met (by decide) (Nat.le_of_ble_eq_true rfl) ?_
  intro p e s m args below meth c S hr hlk hB ls hl
  obtain ⟨hx, hb, hml, hown, hts⟩ := id S
  obtain ⟨hP, hK, hA0⟩ := hB
  have hA := wl_own hA0
  have hl : lv_has ls 1 [(0, .int a)] := hl
  unfold f_Mail_prefixOf at hf
  refine lv_iload_n hx hb d_Mail_prefixOf_0 rfl (lv_at hl 0 rfl) ?_
  refine lv_iconst (v := 5) hx hb d_Mail_prefixOf_1 (by decide) ?_
  refine lv_ishr hx hb d_Mail_prefixOf_2 ?_
  refine lv_bipush (v := 7) hx hb d_Mail_prefixOf_3 (by decide) ?_
  refine lv_iand hx hb d_Mail_prefixOf_5 ?_
  cases hf
  exact r_iret hx hb hr hlk d_Mail_prefixOf_6
def f_Mail_labelOf (a : Int32) : Option (Int32) :=
  some (a &&& 31)
abbrev rm_Mail_labelOf : Room := { frames := 0, cells := 0, slots := 0, locals := 0 }
set_option maxHeartbeats 4000000 in
set_option maxRecDepth 100000 in
theorem c_Mail_labelOf {l : Launch} {D : va_G} {n : Nat} {ad : Nat → Nat} {G : Nat → ClassId} {a : Int32}  {M : Mem} {x : Int32} (hf : f_Mail_labelOf a = some x) : Met l y_Mail_labelOf (wc y_Mail_labelOf b_Mail_labelOf 1 (some .int)) rm_Mail_labelOf (va_Pc [.int a] (cB D n ad G M)) (rd_Q (some (.int x))) 0 0 (fun _ => False) := by
  refine k_met (by decide) (Nat.le_of_ble_eq_true rfl) ?_
  intro p e s m args below meth c S hr hlk hB ls hl
  obtain ⟨hx, hb, hml, hown, hts⟩ := id S
  obtain ⟨hP, hK, hA0⟩ := hB
  have hA := wl_own hA0
  have hl : lv_has ls 1 [(0, .int a)] := hl
  unfold f_Mail_labelOf at hf
  refine lv_iload_n hx hb d_Mail_labelOf_0 rfl (lv_at hl 0 rfl) ?_
  refine lv_bipush (v := 31) hx hb d_Mail_labelOf_1 (by decide) ?_
  refine lv_iand hx hb d_Mail_labelOf_3 ?_
  cases hf
  exact r_iret hx hb hr hlk d_Mail_labelOf_4
def f_Mail_size (n : Nat) (M : Mem) : Option (Int32) :=
  some (M 5 0 0 1)
abbrev rm_Mail_size : Room := { frames := 0, cells := 0, slots := 0, locals := 0 }
set_option maxHeartbeats 4000000 in
set_option maxRecDepth 100000 in
theorem c_Mail_size {l : Launch} {D : va_G} {n : Nat} {ad : Nat → Nat} {G : Nat → ClassId}  {M : Mem} {x : Int32} (hf : f_Mail_size n M = some x) : Met l y_Mail_size (wc y_Mail_size b_Mail_size 1 (some .int)) rm_Mail_size (va_Pc [.ref (ad 5)] (cB D n ad G M)) (rd_Q (some (.int x))) 0 0 (fun _ => False) := by
  refine k_met (by decide) (Nat.le_of_ble_eq_true rfl) ?_
  intro p e s m args below meth c S hr hlk hB ls hl
  obtain ⟨hx, hb, hml, hown, hts⟩ := id S
  obtain ⟨hP, hK, hA0⟩ := hB
  have hA := wl_own hA0
  have hl : lv_has ls 1 [(0, .ref (ad 5))] := hl
  unfold f_Mail_size at hf
  refine lv_aload_n hx hb d_Mail_size_0 rfl (lv_at hl 0 rfl) ?_
  refine va_get (D := D) (ci := 2) (v := .int (M 5 0 0 1)) (C := R_Mail) (T := F_Mail) (N := 3) hx hb hts in_Mail hown hK hP 5 (wl_to (Mail_lt) (Mail_at)) rfl 1 (by decide) (hts _ fl_Mail_15) (fun _ h => h) rfl d_Mail_size_1 ?_
  cases hf
  exact r_iret hx hb hr hlk d_Mail_size_4
def f_Mail_lostCount (n : Nat) (M : Mem) : Option (Int32) :=
  some (M 5 0 0 2)
abbrev rm_Mail_lostCount : Room := { frames := 0, cells := 0, slots := 0, locals := 0 }
set_option maxHeartbeats 4000000 in
set_option maxRecDepth 100000 in
theorem c_Mail_lostCount {l : Launch} {D : va_G} {n : Nat} {ad : Nat → Nat} {G : Nat → ClassId}  {M : Mem} {x : Int32} (hf : f_Mail_lostCount n M = some x) : Met l y_Mail_lostCount (wc y_Mail_lostCount b_Mail_lostCount 1 (some .int)) rm_Mail_lostCount (va_Pc [.ref (ad 5)] (cB D n ad G M)) (rd_Q (some (.int x))) 0 0 (fun _ => False) := by
  refine k_met (by decide) (Nat.le_of_ble_eq_true rfl) ?_
  intro p e s m args below meth c S hr hlk hB ls hl
  obtain ⟨hx, hb, hml, hown, hts⟩ := id S
  obtain ⟨hP, hK, hA0⟩ := hB
  have hA := wl_own hA0
  have hl : lv_has ls 1 [(0, .ref (ad 5))] := hl
  unfold f_Mail_lostCount at hf
  refine lv_aload_n hx hb d_Mail_lostCount_0 rfl (lv_at hl 0 rfl) ?_
  refine va_get (D := D) (ci := 2) (v := .int (M 5 0 0 2)) (C := R_Mail) (T := F_Mail) (N := 3) hx hb hts in_Mail hown hK hP 5 (wl_to (Mail_lt) (Mail_at)) rfl 2 (by decide) (hts _ fl_Mail_19) (fun _ h => h) rfl d_Mail_lostCount_1 ?_
  cases hf
  exact r_iret hx hb hr hlk d_Mail_lostCount_4
def f_Mail_post (n : Nat) (a : Int32) (b : Int32) (z : Int32) (d : Int32) (g : Int32) (M : Mem) : Option (Mem) :=
  if (M 5 0 0 1) = 240 then (some (mset M 5 0 0 2 ((M 5 0 0 2) + 1))) else ((ix (M 5 0 0 1) 240).bind fun j51 => some (mset (mset M 6 0 0 j51 (((((a <<< (16 &&& 31)) ||| (b <<< (12 &&& 31))) ||| (z <<< (8 &&& 31))) ||| (d <<< (5 &&& 31))) ||| g)) 5 0 0 1 (((mset M 6 0 0 j51 (((((a <<< (16 &&& 31)) ||| (b <<< (12 &&& 31))) ||| (z <<< (8 &&& 31))) ||| (d <<< (5 &&& 31))) ||| g)) 5 0 0 1) + 1)))
abbrev rm_Mail_post : Room := { frames := 0, cells := 0, slots := 0, locals := 0 }
set_option maxHeartbeats 4000000 in
set_option maxRecDepth 100000 in
theorem c_Mail_post {l : Launch} {D : va_G} {n : Nat} {ad : Nat → Nat} {G : Nat → ClassId} {a : Int32} {b : Int32} {z : Int32} {d : Int32} {g : Int32}  {M : Mem} {x : Mem} (hf : f_Mail_post n a b z d g M = some x) : Met l y_Mail_post (wc y_Mail_post b_Mail_post 6 (none)) rm_Mail_post (va_Pc [.ref (ad 5), .int a, .int b, .int z, .int d, .int g] (cB D n ad G M)) (wr_Q (none) D cls (cK n) ad (cE n ad G x)) 0 0 (wl_A (cK n) ad) := by
  refine k_met (by decide) (Nat.le_of_ble_eq_true rfl) ?_
  intro p e s m args below meth c S hr hlk hB ls hl
  obtain ⟨hx, hb, hml, hown, hts⟩ := id S
  obtain ⟨hP, hK, hA0⟩ := hB
  have hA := wl_own hA0
  have hl : lv_has ls 6 [(0, .ref (ad 5)), (1, .int a), (2, .int b), (3, .int z), (4, .int d), (5, .int g)] := hl
  have hS : va_S (wl_A (cK n) ad) s.heap s.heap [] := va_S.rf
  unfold f_Mail_post at hf
  refine lv_aload_n hx hb d_Mail_post_0 rfl (lv_at hl 0 rfl) ?_
  refine va_get (D := D) (ci := 2) (v := .int (M 5 0 0 1)) (C := R_Mail) (T := F_Mail) (N := 3) hx hb hts in_Mail hown hK hP 5 (wl_to (Mail_lt) (Mail_at)) rfl 1 (by decide) (hts _ fl_Mail_15) (fun _ h => h) rfl d_Mail_post_1 ?_
  refine lv_sipush (v := 240) hx hb d_Mail_post_4 (by decide) ?_
  refine lv_icmp_ne (tgt := 21) hx hb d_Mail_post_7 (by decide) (fun h7 => ?_) (fun h7 => ?_)
  · rw [if_neg h7] at hf
    refine lv_aload_n hx hb d_Mail_post_21 rfl (lv_at hl 0 rfl) ?_
    refine va_get (D := D) (ci := 2) (v := .ref (ad 6)) (C := R_Mail) (T := F_Mail) (N := 3) hx hb hts in_Mail hown hK hP 5 (wl_to (Mail_lt) (Mail_at)) rfl 0 (by decide) (hts _ fl_Mail_9) (fun _ h => h) rfl d_Mail_post_22 ?_
    refine lv_aload_n hx hb d_Mail_post_25 rfl (lv_at hl 0 rfl) ?_
    refine va_get (D := D) (ci := 2) (v := .int (M 5 0 0 1)) (C := R_Mail) (T := F_Mail) (N := 3) hx hb hts in_Mail hown hK hP 5 (wl_to (Mail_lt) (Mail_at)) rfl 1 (by decide) (hts _ fl_Mail_15) (fun _ h => h) rfl d_Mail_post_26 ?_
    refine lv_iload_n hx hb d_Mail_post_29 rfl (lv_at hl 1 rfl) ?_
    refine lv_bipush (v := 16) hx hb d_Mail_post_30 (by decide) ?_
    refine lv_ishl hx hb d_Mail_post_32 ?_
    refine lv_iload_n hx hb d_Mail_post_33 rfl (lv_at hl 2 rfl) ?_
    refine lv_bipush (v := 12) hx hb d_Mail_post_34 (by decide) ?_
    refine lv_ishl hx hb d_Mail_post_36 ?_
    refine lv_ior hx hb d_Mail_post_37 ?_
    refine lv_iload_n hx hb d_Mail_post_38 rfl (lv_at hl 3 rfl) ?_
    refine lv_bipush (v := 8) hx hb d_Mail_post_39 (by decide) ?_
    refine lv_ishl hx hb d_Mail_post_41 ?_
    refine lv_ior hx hb d_Mail_post_42 ?_
    refine lv_iload hx hb d_Mail_post_43 (lv_at hl 4 rfl) ?_
    refine lv_iconst (v := 5) hx hb d_Mail_post_45 (by decide) ?_
    refine lv_ishl hx hb d_Mail_post_46 ?_
    refine lv_ior hx hb d_Mail_post_47 ?_
    refine lv_iload hx hb d_Mail_post_48 (lv_at hl 5 rfl) ?_
    refine lv_ior hx hb d_Mail_post_50 ?_
    obtain ⟨j51, hj51, hf⟩ := ob hf
    refine m_iast (x := (((((a <<< (16 &&& 31)) ||| (b <<< (12 &&& 31))) ||| (z <<< (8 &&& 31))) ||| (d <<< (5 &&& 31))) ||| g)) hx hb hK hP hA hS cJ 6 0 (MS_lt) (MS_tg) (fun f => MS_row f) rfl hj51 d_Mail_post_51 (fun H locs hP hS => ?_)
    refine lv_aload_n hx hb d_Mail_post_52 rfl (lv_at hl 0 rfl) ?_
    refine lv_dup hx hb d_Mail_post_53 rfl ?_
    refine va_get (D := D) (ci := 2) (v := .int ((mset M 6 0 0 j51 (((((a <<< (16 &&& 31)) ||| (b <<< (12 &&& 31))) ||| (z <<< (8 &&& 31))) ||| (d <<< (5 &&& 31))) ||| g)) 5 0 0 1)) (C := R_Mail) (T := F_Mail) (N := 3) hx hb hts in_Mail hown hK hP 5 (wl_to (Mail_lt) (Mail_at)) rfl 1 (by decide) (hts _ fl_Mail_15) (fun _ h => h) rfl d_Mail_post_54 ?_
    refine lv_iconst (v := 1) hx hb d_Mail_post_57 (by decide) ?_
    refine lv_iadd hx hb d_Mail_post_58 ?_
    refine m_put (x := (((mset M 6 0 0 j51 (((((a <<< (16 &&& 31)) ||| (b <<< (12 &&& 31))) ||| (z <<< (8 &&& 31))) ||| (d <<< (5 &&& 31))) ||| g)) 5 0 0 1) + 1)) (ci := 2) (C := R_Mail) (T := F_Mail) (N := 3) hx hb hts in_Mail t_Mail ty_Mail nm_Mail hown hK hP hA hS cJ 5 (Mail_lt) (Mail_fs ad) (fun _ => rfl) ⟨rfl, rfl, rfl⟩ rfl 1 (by decide) (hts _ fl_Mail_15) rfl (by decide +kernel) (fun _ => ⟨Nat.le_of_ble_eq_true rfl, rfl⟩) d_Mail_post_59 (fun H locs hP hS => ?_)
    cases hf
    exact w_vret hx hb hr hlk hP hS d_Mail_post_62
  · rw [if_pos h7] at hf
    refine lv_aload_n hx hb d_Mail_post_10 rfl (lv_at hl 0 rfl) ?_
    refine lv_dup hx hb d_Mail_post_11 rfl ?_
    refine va_get (D := D) (ci := 2) (v := .int (M 5 0 0 2)) (C := R_Mail) (T := F_Mail) (N := 3) hx hb hts in_Mail hown hK hP 5 (wl_to (Mail_lt) (Mail_at)) rfl 2 (by decide) (hts _ fl_Mail_19) (fun _ h => h) rfl d_Mail_post_12 ?_
    refine lv_iconst (v := 1) hx hb d_Mail_post_15 (by decide) ?_
    refine lv_iadd hx hb d_Mail_post_16 ?_
    refine m_put (x := ((M 5 0 0 2) + 1)) (ci := 2) (C := R_Mail) (T := F_Mail) (N := 3) hx hb hts in_Mail t_Mail ty_Mail nm_Mail hown hK hP hA hS cJ 5 (Mail_lt) (Mail_fs ad) (fun _ => rfl) ⟨rfl, rfl, rfl⟩ rfl 2 (by decide) (hts _ fl_Mail_19) rfl (by decide +kernel) (fun _ => ⟨Nat.le_of_ble_eq_true rfl, rfl⟩) d_Mail_post_17 (fun H locs hP hS => ?_)
    cases hf
    exact w_vret hx hb hr hlk hP hS d_Mail_post_20
def f_Mail_firstBetween_2 (n : Nat) (a : Int32) (b : Int32) (M : Mem) : Nat → Int32 → Option (Int32)
  | 0, _ => none
  | k2 + 1, v3_2 =>
    if (M 5 0 0 1) ≤ v3_2 then (some (-1)) else ((ix v3_2 240).bind fun j15 => (f_Mail_fromOf (M 6 0 0 j15)).bind fun r16 => if r16 = a then ((ix v3_2 240).bind fun j28 => (f_Mail_toOf (M 6 0 0 j28)).bind fun r29 => if r29 = b then (some v3_2) else (f_Mail_firstBetween_2 n a b M k2 (v3_2 + 1))) else (f_Mail_firstBetween_2 n a b M k2 (v3_2 + 1)))
def f_Mail_firstBetween (n : Nat) (a : Int32) (b : Int32) (M : Mem) : Option (Int32) :=
  f_Mail_firstBetween_2 n a b M 1000 0
abbrev rm_Mail_firstBetween : Room := { frames := 1, cells := 0, slots := 0, locals := 20 }
set_option maxHeartbeats 4000000 in
set_option maxRecDepth 100000 in
theorem c_Mail_firstBetween {l : Launch} {D : va_G} {n : Nat} {ad : Nat → Nat} {G : Nat → ClassId} {a : Int32} {b : Int32}  {M : Mem} {x : Int32} (hf : f_Mail_firstBetween n a b M = some x) : Met l y_Mail_firstBetween (wc y_Mail_firstBetween b_Mail_firstBetween 4 (some .int)) rm_Mail_firstBetween (va_Pc [.ref (ad 5), .int a, .int b] (cB D n ad G M)) (rd_Q (some (.int x))) 0 0 (fun _ => False) := by
  refine k_met (by decide) (Nat.le_of_ble_eq_true rfl) ?_
  intro p e s m args below meth c S hr hlk hB ls hl
  obtain ⟨hx, hb, hml, hown, hts⟩ := id S
  obtain ⟨hP, hK, hA0⟩ := hB
  have hA := wl_own hA0
  have hl : lv_has ls 4 [(0, .ref (ad 5)), (1, .int a), (2, .int b)] := hl
  unfold f_Mail_firstBetween at hf
  refine lv_iconst (v := 0) hx hb d_Mail_firstBetween_0 (by decide) ?_
  refine lv_istore_n (lv' := [(3, .int 0), (0, .ref (ad 5)), (1, .int a), (2, .int b)]) hx hb d_Mail_firstBetween_1 rfl hl (by decide) rfl (fun ls hl => ?_)
  have L2 : ∀ (k2 : Nat) (v3_2 : Int32) (ls : Array Slot), lv_has ls 4 [(3, .int v3_2), (0, .ref (ad 5)), (1, .int a), (2, .int b)] → f_Mail_firstBetween_2 n a b M k2 v3_2 = some x → W p l e rm_Mail_firstBetween s m args below meth c s.heap [] 0 0 (MQ below (rd_Q (some (.int x))) args s 0 0 (fun _ => False)) (F0 m 2 ls []) := by
    intro k2
    induction k2 with
    | zero =>
      intro v3_2 ls hl hf
      simp [f_Mail_firstBetween_2] at hf
    | succ k2 ih2 =>
      intro v3_2 ls hl hf
      rw [f_Mail_firstBetween_2] at hf
      refine lv_iload_n hx hb d_Mail_firstBetween_2 rfl (lv_at hl 0 rfl) ?_
      refine lv_aload_n hx hb d_Mail_firstBetween_3 rfl (lv_at hl 1 rfl) ?_
      refine va_get (D := D) (ci := 2) (v := .int (M 5 0 0 1)) (C := R_Mail) (T := F_Mail) (N := 3) hx hb hts in_Mail hown hK hP 5 (wl_to (Mail_lt) (Mail_at)) rfl 1 (by decide) (hts _ fl_Mail_15) (fun _ h => h) rfl d_Mail_firstBetween_4 ?_
      refine lv_icmp_ge (tgt := 44) hx hb d_Mail_firstBetween_7 (by decide) (fun h7 => ?_) (fun h7 => ?_)
      · rw [if_pos h7] at hf
        refine lv_iconst (v := (-1)) hx hb d_Mail_firstBetween_44 (by decide) ?_
        cases hf
        exact r_iret hx hb hr hlk d_Mail_firstBetween_45
      · rw [if_neg h7] at hf
        refine lv_aload_n hx hb d_Mail_firstBetween_10 rfl (lv_at hl 1 rfl) ?_
        refine va_get (D := D) (ci := 2) (v := .ref (ad 6)) (C := R_Mail) (T := F_Mail) (N := 3) hx hb hts in_Mail hown hK hP 5 (wl_to (Mail_lt) (Mail_at)) rfl 0 (by decide) (hts _ fl_Mail_9) (fun _ h => h) rfl d_Mail_firstBetween_11 ?_
        refine lv_iload_n hx hb d_Mail_firstBetween_14 rfl (lv_at hl 0 rfl) ?_
        obtain ⟨j15, hj15, hf⟩ := ob hf
        refine k_iald hx hb hK hP 6 0 (MS_lt) (MS_at) rfl hj15 d_Mail_firstBetween_15 ?_
        obtain ⟨r16, hc16, hf⟩ := ob hf
        refine k_rdi (k_sta S (c_Mail_fromOf (l := l) (D := D) (n := n) (ad := ad) (G := G) hc16) g_Mail_22 hd_Mail_fromOf ⟨rfl, rfl⟩ ⟨Nat.le_of_ble_eq_true rfl, Nat.le_of_ble_eq_true rfl⟩ wl_blind (wl_pre hP hK hA) rfl hl.1 rfl (Nat.le_of_ble_eq_true rfl) d_Mail_firstBetween_16 (Nat.zero_le _) (Nat.zero_le _)) ?_
        refine lv_iload_n hx hb d_Mail_firstBetween_19 rfl (lv_at hl 2 rfl) ?_
        refine lv_icmp_ne (tgt := 38) hx hb d_Mail_firstBetween_20 (by decide) (fun h20 => ?_) (fun h20 => ?_)
        · rw [if_neg h20] at hf
          refine lv_iinc (v := (v3_2 + 1)) (lv' := [(3, .int (v3_2 + 1)), (0, .ref (ad 5)), (1, .int a), (2, .int b)]) hx hb d_Mail_firstBetween_38 hl (k := 0) rfl rfl (by decide) rfl (fun ls hl => ?_)
          refine lv_goto (tgt := 2) hx hb d_Mail_firstBetween_41 (by decide) ?_
          exact ih2 _ _ (lv_sub hl [0, 1, 2, 3] rfl) hf
        · rw [if_pos h20] at hf
          refine lv_aload_n hx hb d_Mail_firstBetween_23 rfl (lv_at hl 1 rfl) ?_
          refine va_get (D := D) (ci := 2) (v := .ref (ad 6)) (C := R_Mail) (T := F_Mail) (N := 3) hx hb hts in_Mail hown hK hP 5 (wl_to (Mail_lt) (Mail_at)) rfl 0 (by decide) (hts _ fl_Mail_9) (fun _ h => h) rfl d_Mail_firstBetween_24 ?_
          refine lv_iload_n hx hb d_Mail_firstBetween_27 rfl (lv_at hl 0 rfl) ?_
          obtain ⟨j28, hj28, hf⟩ := ob hf
          refine k_iald hx hb hK hP 6 0 (MS_lt) (MS_at) rfl hj28 d_Mail_firstBetween_28 ?_
          obtain ⟨r29, hc29, hf⟩ := ob hf
          refine k_rdi (k_sta S (c_Mail_toOf (l := l) (D := D) (n := n) (ad := ad) (G := G) hc29) g_Mail_26 hd_Mail_toOf ⟨rfl, rfl⟩ ⟨Nat.le_of_ble_eq_true rfl, Nat.le_of_ble_eq_true rfl⟩ wl_blind (wl_pre hP hK hA) rfl hl.1 rfl (Nat.le_of_ble_eq_true rfl) d_Mail_firstBetween_29 (Nat.zero_le _) (Nat.zero_le _)) ?_
          refine lv_iload_n hx hb d_Mail_firstBetween_32 rfl (lv_at hl 3 rfl) ?_
          refine lv_icmp_ne (tgt := 38) hx hb d_Mail_firstBetween_33 (by decide) (fun h33 => ?_) (fun h33 => ?_)
          · rw [if_neg h33] at hf
            refine lv_iinc (v := (v3_2 + 1)) (lv' := [(3, .int (v3_2 + 1)), (0, .ref (ad 5)), (1, .int a), (2, .int b)]) hx hb d_Mail_firstBetween_38 hl (k := 0) rfl rfl (by decide) rfl (fun ls hl => ?_)
            refine lv_goto (tgt := 2) hx hb d_Mail_firstBetween_41 (by decide) ?_
            exact ih2 _ _ (lv_sub hl [0, 1, 2, 3] rfl) hf
          · rw [if_pos h33] at hf
            refine lv_iload_n hx hb d_Mail_firstBetween_36 rfl (lv_at hl 0 rfl) ?_
            cases hf
            exact r_iret hx hb hr hlk d_Mail_firstBetween_37
  exact L2 _ _ _ (lv_sub hl [0, 1, 2, 3] rfl) hf
def f_Mail_take (n : Nat) (a : Int32) (M : Mem) : Option (Int32 × Mem) :=
  (ix a 240).bind fun j5 => if cpok (a + 1) a (((mset M 5 0 0 1 ((M 5 0 0 1) - 1)) 5 0 0 1) - a) 240 then (some ((M 6 0 0 j5), (ms (mset M 5 0 0 1 ((M 5 0 0 1) - 1)) 6 0 0 (va_cpy ((mset M 5 0 0 1 ((M 5 0 0 1) - 1)) 6 0 0) ((mset M 5 0 0 1 ((M 5 0 0 1) - 1)) 6 0 0) ((a + 1)).toNatClampNeg (a).toNatClampNeg ((((mset M 5 0 0 1 ((M 5 0 0 1) - 1)) 5 0 0 1) - a)).toNatClampNeg)))) else none
abbrev rm_Mail_take : Room := { frames := 1, cells := 0, slots := 0, locals := 120 }
set_option maxHeartbeats 4000000 in
set_option maxRecDepth 100000 in
theorem c_Mail_take {l : Launch} {D : va_G} {n : Nat} {ad : Nat → Nat} {G : Nat → ClassId} {a : Int32}  {M : Mem} {x : Int32 × Mem} (hf : f_Mail_take n a M = some x) : Met l y_Mail_take (wc y_Mail_take b_Mail_take 3 (some .int)) rm_Mail_take (va_Pc [.ref (ad 5), .int a] (cB D n ad G M)) (wr_Q (some (.int x.1)) D cls (cK n) ad (cE n ad G x.2)) 0 0 (wl_A (cK n) ad) := by
  refine k_met (by decide) (Nat.le_of_ble_eq_true rfl) ?_
  intro p e s m args below meth c S hr hlk hB ls hl
  obtain ⟨hx, hb, hml, hown, hts⟩ := id S
  obtain ⟨hP, hK, hA0⟩ := hB
  have hA := wl_own hA0
  have hl : lv_has ls 3 [(0, .ref (ad 5)), (1, .int a)] := hl
  have hS : va_S (wl_A (cK n) ad) s.heap s.heap [] := va_S.rf
  unfold f_Mail_take at hf
  refine lv_aload_n hx hb d_Mail_take_0 rfl (lv_at hl 0 rfl) ?_
  refine va_get (D := D) (ci := 2) (v := .ref (ad 6)) (C := R_Mail) (T := F_Mail) (N := 3) hx hb hts in_Mail hown hK hP 5 (wl_to (Mail_lt) (Mail_at)) rfl 0 (by decide) (hts _ fl_Mail_9) (fun _ h => h) rfl d_Mail_take_1 ?_
  refine lv_iload_n hx hb d_Mail_take_4 rfl (lv_at hl 1 rfl) ?_
  obtain ⟨j5, hj5, hf⟩ := ob hf
  refine k_iald hx hb hK hP 6 0 (MS_lt) (MS_at) rfl hj5 d_Mail_take_5 ?_
  refine lv_istore_n (lv' := [(2, .int (M 6 0 0 j5)), (0, .ref (ad 5)), (1, .int a)]) hx hb d_Mail_take_6 rfl hl (by decide) rfl (fun ls hl => ?_)
  refine lv_aload_n hx hb d_Mail_take_7 rfl (lv_at hl 1 rfl) ?_
  refine lv_dup hx hb d_Mail_take_8 rfl ?_
  refine va_get (D := D) (ci := 2) (v := .int (M 5 0 0 1)) (C := R_Mail) (T := F_Mail) (N := 3) hx hb hts in_Mail hown hK hP 5 (wl_to (Mail_lt) (Mail_at)) rfl 1 (by decide) (hts _ fl_Mail_15) (fun _ h => h) rfl d_Mail_take_9 ?_
  refine lv_iconst (v := 1) hx hb d_Mail_take_12 (by decide) ?_
  refine lv_isub hx hb d_Mail_take_13 ?_
  refine m_put (x := ((M 5 0 0 1) - 1)) (ci := 2) (C := R_Mail) (T := F_Mail) (N := 3) hx hb hts in_Mail t_Mail ty_Mail nm_Mail hown hK hP hA hS cJ 5 (Mail_lt) (Mail_fs ad) (fun _ => rfl) ⟨rfl, rfl, rfl⟩ rfl 1 (by decide) (hts _ fl_Mail_15) rfl (by decide +kernel) (fun _ => ⟨Nat.le_of_ble_eq_true rfl, rfl⟩) d_Mail_take_14 (fun H locs hP hS => ?_)
  refine lv_aload_n hx hb d_Mail_take_17 rfl (lv_at hl 1 rfl) ?_
  refine va_get (D := D) (ci := 2) (v := .ref (ad 6)) (C := R_Mail) (T := F_Mail) (N := 3) hx hb hts in_Mail hown hK hP 5 (wl_to (Mail_lt) (Mail_at)) rfl 0 (by decide) (hts _ fl_Mail_9) (fun _ h => h) rfl d_Mail_take_18 ?_
  refine lv_iload_n hx hb d_Mail_take_21 rfl (lv_at hl 2 rfl) ?_
  refine lv_iconst (v := 1) hx hb d_Mail_take_22 (by decide) ?_
  refine lv_iadd hx hb d_Mail_take_23 ?_
  refine lv_aload_n hx hb d_Mail_take_24 rfl (lv_at hl 1 rfl) ?_
  refine va_get (D := D) (ci := 2) (v := .ref (ad 6)) (C := R_Mail) (T := F_Mail) (N := 3) hx hb hts in_Mail hown hK hP 5 (wl_to (Mail_lt) (Mail_at)) rfl 0 (by decide) (hts _ fl_Mail_9) (fun _ h => h) rfl d_Mail_take_25 ?_
  refine lv_iload_n hx hb d_Mail_take_28 rfl (lv_at hl 2 rfl) ?_
  refine lv_aload_n hx hb d_Mail_take_29 rfl (lv_at hl 1 rfl) ?_
  refine va_get (D := D) (ci := 2) (v := .int ((mset M 5 0 0 1 ((M 5 0 0 1) - 1)) 5 0 0 1)) (C := R_Mail) (T := F_Mail) (N := 3) hx hb hts in_Mail hown hK hP 5 (wl_to (Mail_lt) (Mail_at)) rfl 1 (by decide) (hts _ fl_Mail_15) (fun _ h => h) rfl d_Mail_take_30 ?_
  refine lv_iload_n hx hb d_Mail_take_33 rfl (lv_at hl 2 rfl) ?_
  refine lv_isub hx hb d_Mail_take_34 ?_
  by_cases hc35 : cpok (a + 1) a (((mset M 5 0 0 1 ((M 5 0 0 1) - 1)) 5 0 0 1) - a) 240
  case neg => rw [if_neg hc35] at hf; cases hf
  rw [if_pos hc35] at hf
  refine m_copy hx hb (hml.trans hl.1.symm) hown (hts _ ml_Mail_29) (hts _ ac_nat) (hts _ ac_st) (hts _ ac_ini) hK hP hA hS cJ 6 0 (MS_lt) (MS_tg) (fun f => MS_row f) rfl hc35 (by decide) (Nat.le_of_ble_eq_true rfl) d_Mail_take_35 (fun H locs hP hS => ?_)
  refine lv_iload_n hx hb d_Mail_take_38 rfl (lv_at hl 0 rfl) ?_
  cases hf
  exact w_iret hx hb hr hlk hP hS d_Mail_take_39
def f_Mail_dropBetween_5 (n : Nat) (a : Int32) (b : Int32) : Nat → Int32 → Int32 → Mem → Option (Mem)
  | 0, _, _, _ => none
  | k5 + 1, v4_5, v3_5, N5 =>
    if (N5 5 0 0 1) ≤ v4_5 then (some (mset N5 5 0 0 1 v3_5)) else ((ix v4_5 240).bind fun j20 => (f_Mail_fromOf (N5 6 0 0 j20)).bind fun r21 => (ix v4_5 240).bind fun j32 => (f_Mail_toOf (N5 6 0 0 j32)).bind fun r33 => if r21 = a then (if r33 = b then (f_Mail_dropBetween_5 n a b k5 (v4_5 + 1) v3_5 N5) else (if r21 = b then (if r33 = a then (f_Mail_dropBetween_5 n a b k5 (v4_5 + 1) v3_5 N5) else ((ix v4_5 240).bind fun j85 => (ix v3_5 240).bind fun j86 => f_Mail_dropBetween_5 n a b k5 (v4_5 + 1) (v3_5 + 1) (mset N5 6 0 0 j86 (N5 6 0 0 j85)))) else ((ix v4_5 240).bind fun j85 => (ix v3_5 240).bind fun j86 => f_Mail_dropBetween_5 n a b k5 (v4_5 + 1) (v3_5 + 1) (mset N5 6 0 0 j86 (N5 6 0 0 j85))))) else (if r21 = b then (if r33 = a then (f_Mail_dropBetween_5 n a b k5 (v4_5 + 1) v3_5 N5) else ((ix v4_5 240).bind fun j85 => (ix v3_5 240).bind fun j86 => f_Mail_dropBetween_5 n a b k5 (v4_5 + 1) (v3_5 + 1) (mset N5 6 0 0 j86 (N5 6 0 0 j85)))) else ((ix v4_5 240).bind fun j85 => (ix v3_5 240).bind fun j86 => f_Mail_dropBetween_5 n a b k5 (v4_5 + 1) (v3_5 + 1) (mset N5 6 0 0 j86 (N5 6 0 0 j85)))))
def f_Mail_dropBetween (n : Nat) (a : Int32) (b : Int32) (M : Mem) : Option (Mem) :=
  f_Mail_dropBetween_5 n a b 1000 0 0 M
abbrev rm_Mail_dropBetween : Room := { frames := 1, cells := 0, slots := 0, locals := 20 }
set_option maxHeartbeats 4000000 in
set_option maxRecDepth 100000 in
theorem c_Mail_dropBetween {l : Launch} {D : va_G} {n : Nat} {ad : Nat → Nat} {G : Nat → ClassId} {a : Int32} {b : Int32}  {M : Mem} {x : Mem} (hf : f_Mail_dropBetween n a b M = some x) : Met l y_Mail_dropBetween (wc y_Mail_dropBetween b_Mail_dropBetween 8 (none)) rm_Mail_dropBetween (va_Pc [.ref (ad 5), .int a, .int b] (cB D n ad G M)) (wr_Q (none) D cls (cK n) ad (cE n ad G x)) 0 0 (wl_A (cK n) ad) := by
  refine k_met (by decide) (Nat.le_of_ble_eq_true rfl) ?_
  intro p e s m args below meth c S hr hlk hB ls hl
  obtain ⟨hx, hb, hml, hown, hts⟩ := id S
  obtain ⟨hP, hK, hA0⟩ := hB
  have hA := wl_own hA0
  have hl : lv_has ls 8 [(0, .ref (ad 5)), (1, .int a), (2, .int b)] := hl
  have hS : va_S (wl_A (cK n) ad) s.heap s.heap [] := va_S.rf
  unfold f_Mail_dropBetween at hf
  refine lv_iconst (v := 0) hx hb d_Mail_dropBetween_0 (by decide) ?_
  refine lv_istore_n (lv' := [(3, .int 0), (0, .ref (ad 5)), (1, .int a), (2, .int b)]) hx hb d_Mail_dropBetween_1 rfl hl (by decide) rfl (fun ls hl => ?_)
  refine lv_iconst (v := 0) hx hb d_Mail_dropBetween_2 (by decide) ?_
  refine lv_istore (lv' := [(4, .int 0), (3, .int 0), (0, .ref (ad 5)), (1, .int a), (2, .int b)]) hx hb d_Mail_dropBetween_3 hl (by decide) rfl (fun ls hl => ?_)
  have L5 : ∀ (k5 : Nat) (v4_5 : Int32) (v3_5 : Int32) (N5 : Mem) (H : Heap) (locs : List Loc) (ls : Array Slot), lv_has ls 8 [(4, .int v4_5), (3, .int v3_5), (0, .ref (ad 5)), (1, .int a), (2, .int b)] → va_P D cls (cW n ad G N5) H → va_S (wl_A (cK n) ad) s.heap H locs → f_Mail_dropBetween_5 n a b k5 v4_5 v3_5 N5 = some x → W p l e rm_Mail_dropBetween s m args below meth c H locs 0 0 (MQ below (wr_Q (none) D cls (cK n) ad (cE n ad G x)) args s 0 0 (wl_A (cK n) ad)) (F0 m 5 ls []) := by
    intro k5
    induction k5 with
    | zero =>
      intro v4_5 v3_5 N5 H locs ls hl hP hS hf
      simp [f_Mail_dropBetween_5] at hf
    | succ k5 ih5 =>
      intro v4_5 v3_5 N5 H locs ls hl hP hS hf
      rw [f_Mail_dropBetween_5] at hf
      refine lv_iload hx hb d_Mail_dropBetween_5 (lv_at hl 0 rfl) ?_
      refine lv_aload_n hx hb d_Mail_dropBetween_7 rfl (lv_at hl 2 rfl) ?_
      refine va_get (D := D) (ci := 2) (v := .int (N5 5 0 0 1)) (C := R_Mail) (T := F_Mail) (N := 3) hx hb hts in_Mail hown hK hP 5 (wl_to (Mail_lt) (Mail_at)) rfl 1 (by decide) (hts _ fl_Mail_15) (fun _ h => h) rfl d_Mail_dropBetween_8 ?_
      refine lv_icmp_ge (tgt := 96) hx hb d_Mail_dropBetween_11 (by decide) (fun h11 => ?_) (fun h11 => ?_)
      · rw [if_pos h11] at hf
        refine lv_aload_n hx hb d_Mail_dropBetween_96 rfl (lv_at hl 2 rfl) ?_
        refine lv_iload_n hx hb d_Mail_dropBetween_97 rfl (lv_at hl 1 rfl) ?_
        refine m_put (x := v3_5) (ci := 2) (C := R_Mail) (T := F_Mail) (N := 3) hx hb hts in_Mail t_Mail ty_Mail nm_Mail hown hK hP hA hS cJ 5 (Mail_lt) (Mail_fs ad) (fun _ => rfl) ⟨rfl, rfl, rfl⟩ rfl 1 (by decide) (hts _ fl_Mail_15) rfl (by decide +kernel) (fun _ => ⟨Nat.le_of_ble_eq_true rfl, rfl⟩) d_Mail_dropBetween_98 (fun H locs hP hS => ?_)
        cases hf
        exact w_vret hx hb hr hlk hP hS d_Mail_dropBetween_101
      · rw [if_neg h11] at hf
        refine lv_aload_n hx hb d_Mail_dropBetween_14 rfl (lv_at hl 2 rfl) ?_
        refine va_get (D := D) (ci := 2) (v := .ref (ad 6)) (C := R_Mail) (T := F_Mail) (N := 3) hx hb hts in_Mail hown hK hP 5 (wl_to (Mail_lt) (Mail_at)) rfl 0 (by decide) (hts _ fl_Mail_9) (fun _ h => h) rfl d_Mail_dropBetween_15 ?_
        refine lv_iload hx hb d_Mail_dropBetween_18 (lv_at hl 0 rfl) ?_
        obtain ⟨j20, hj20, hf⟩ := ob hf
        refine k_iald hx hb hK hP 6 0 (MS_lt) (MS_at) rfl hj20 d_Mail_dropBetween_20 ?_
        obtain ⟨r21, hc21, hf⟩ := ob hf
        refine k_rdi (k_sta S (c_Mail_fromOf (l := l) (D := D) (n := n) (ad := ad) (G := G) hc21) g_Mail_22 hd_Mail_fromOf ⟨rfl, rfl⟩ ⟨Nat.le_of_ble_eq_true rfl, Nat.le_of_ble_eq_true rfl⟩ wl_blind (wl_pre hP hK hA) rfl hl.1 rfl (Nat.le_of_ble_eq_true rfl) d_Mail_dropBetween_21 (Nat.zero_le _) (Nat.zero_le _)) ?_
        refine lv_istore (lv' := [(5, .int r21), (4, .int v4_5), (3, .int v3_5), (0, .ref (ad 5)), (1, .int a), (2, .int b)]) hx hb d_Mail_dropBetween_24 hl (by decide) rfl (fun ls hl => ?_)
        refine lv_aload_n hx hb d_Mail_dropBetween_26 rfl (lv_at hl 3 rfl) ?_
        refine va_get (D := D) (ci := 2) (v := .ref (ad 6)) (C := R_Mail) (T := F_Mail) (N := 3) hx hb hts in_Mail hown hK hP 5 (wl_to (Mail_lt) (Mail_at)) rfl 0 (by decide) (hts _ fl_Mail_9) (fun _ h => h) rfl d_Mail_dropBetween_27 ?_
        refine lv_iload hx hb d_Mail_dropBetween_30 (lv_at hl 1 rfl) ?_
        obtain ⟨j32, hj32, hf⟩ := ob hf
        refine k_iald hx hb hK hP 6 0 (MS_lt) (MS_at) rfl hj32 d_Mail_dropBetween_32 ?_
        obtain ⟨r33, hc33, hf⟩ := ob hf
        refine k_rdi (k_sta S (c_Mail_toOf (l := l) (D := D) (n := n) (ad := ad) (G := G) hc33) g_Mail_26 hd_Mail_toOf ⟨rfl, rfl⟩ ⟨Nat.le_of_ble_eq_true rfl, Nat.le_of_ble_eq_true rfl⟩ wl_blind (wl_pre hP hK hA) rfl hl.1 rfl (Nat.le_of_ble_eq_true rfl) d_Mail_dropBetween_33 (Nat.zero_le _) (Nat.zero_le _)) ?_
        refine lv_istore (lv' := [(6, .int r33), (5, .int r21), (4, .int v4_5), (3, .int v3_5), (0, .ref (ad 5)), (1, .int a), (2, .int b)]) hx hb d_Mail_dropBetween_36 hl (by decide) rfl (fun ls hl => ?_)
        refine lv_iload hx hb d_Mail_dropBetween_38 (lv_at hl 1 rfl) ?_
        refine lv_iload_n hx hb d_Mail_dropBetween_40 rfl (lv_at hl 5 rfl) ?_
        refine lv_icmp_ne (tgt := 50) hx hb d_Mail_dropBetween_41 (by decide) (fun h41 => ?_) (fun h41 => ?_)
        · rw [if_neg h41] at hf
          refine lv_iload hx hb d_Mail_dropBetween_50 (lv_at hl 1 rfl) ?_
          refine lv_iload_n hx hb d_Mail_dropBetween_52 rfl (lv_at hl 6 rfl) ?_
          refine lv_icmp_ne (tgt := 66) hx hb d_Mail_dropBetween_53 (by decide) (fun h53 => ?_) (fun h53 => ?_)
          · rw [if_neg h53] at hf
            refine lv_iconst (v := 0) hx hb d_Mail_dropBetween_66 (by decide) ?_
            refine lv_istore (lv' := [(7, .int 0), (6, .int r33), (5, .int r21), (4, .int v4_5), (3, .int v3_5), (0, .ref (ad 5)), (1, .int a), (2, .int b)]) hx hb d_Mail_dropBetween_67 hl (by decide) rfl (fun ls hl => ?_)
            refine lv_iload hx hb d_Mail_dropBetween_69 (lv_at hl 0 rfl) ?_
            refine lv_if_ne (tgt := 90) hx hb d_Mail_dropBetween_71 (by decide) (fun h => absurd h (by decide)) (fun _ => ?_)
            refine lv_aload_n hx hb d_Mail_dropBetween_74 rfl (lv_at hl 5 rfl) ?_
            refine va_get (D := D) (ci := 2) (v := .ref (ad 6)) (C := R_Mail) (T := F_Mail) (N := 3) hx hb hts in_Mail hown hK hP 5 (wl_to (Mail_lt) (Mail_at)) rfl 0 (by decide) (hts _ fl_Mail_9) (fun _ h => h) rfl d_Mail_dropBetween_75 ?_
            refine lv_iload_n hx hb d_Mail_dropBetween_78 rfl (lv_at hl 4 rfl) ?_
            refine lv_aload_n hx hb d_Mail_dropBetween_79 rfl (lv_at hl 5 rfl) ?_
            refine va_get (D := D) (ci := 2) (v := .ref (ad 6)) (C := R_Mail) (T := F_Mail) (N := 3) hx hb hts in_Mail hown hK hP 5 (wl_to (Mail_lt) (Mail_at)) rfl 0 (by decide) (hts _ fl_Mail_9) (fun _ h => h) rfl d_Mail_dropBetween_80 ?_
            refine lv_iload hx hb d_Mail_dropBetween_83 (lv_at hl 3 rfl) ?_
            obtain ⟨j85, hj85, hf⟩ := ob hf
            refine k_iald hx hb hK hP 6 0 (MS_lt) (MS_at) rfl hj85 d_Mail_dropBetween_85 ?_
            obtain ⟨j86, hj86, hf⟩ := ob hf
            refine m_iast (x := (N5 6 0 0 j85)) hx hb hK hP hA hS cJ 6 0 (MS_lt) (MS_tg) (fun f => MS_row f) rfl hj86 d_Mail_dropBetween_86 (fun H locs hP hS => ?_)
            refine lv_iinc (v := (v3_5 + 1)) (lv' := [(3, .int (v3_5 + 1)), (7, .int 0), (6, .int r33), (5, .int r21), (4, .int v4_5), (0, .ref (ad 5)), (1, .int a), (2, .int b)]) hx hb d_Mail_dropBetween_87 hl (k := 4) rfl rfl (by decide) rfl (fun ls hl => ?_)
            refine lv_iinc (v := (v4_5 + 1)) (lv' := [(4, .int (v4_5 + 1)), (3, .int (v3_5 + 1)), (7, .int 0), (6, .int r33), (5, .int r21), (0, .ref (ad 5)), (1, .int a), (2, .int b)]) hx hb d_Mail_dropBetween_90 hl (k := 4) rfl rfl (by decide) rfl (fun ls hl => ?_)
            refine lv_goto (tgt := 5) hx hb d_Mail_dropBetween_93 (by decide) ?_
            exact ih5 _ _ _ _ _ _ (lv_sub hl [0, 1, 5, 6, 7] rfl) hP hS hf
          · rw [if_pos h53] at hf
            refine lv_iload hx hb d_Mail_dropBetween_56 (lv_at hl 0 rfl) ?_
            refine lv_iload_n hx hb d_Mail_dropBetween_58 rfl (lv_at hl 5 rfl) ?_
            refine lv_icmp_ne (tgt := 66) hx hb d_Mail_dropBetween_59 (by decide) (fun h59 => ?_) (fun h59 => ?_)
            · rw [if_neg h59] at hf
              refine lv_iconst (v := 0) hx hb d_Mail_dropBetween_66 (by decide) ?_
              refine lv_istore (lv' := [(7, .int 0), (6, .int r33), (5, .int r21), (4, .int v4_5), (3, .int v3_5), (0, .ref (ad 5)), (1, .int a), (2, .int b)]) hx hb d_Mail_dropBetween_67 hl (by decide) rfl (fun ls hl => ?_)
              refine lv_iload hx hb d_Mail_dropBetween_69 (lv_at hl 0 rfl) ?_
              refine lv_if_ne (tgt := 90) hx hb d_Mail_dropBetween_71 (by decide) (fun h => absurd h (by decide)) (fun _ => ?_)
              refine lv_aload_n hx hb d_Mail_dropBetween_74 rfl (lv_at hl 5 rfl) ?_
              refine va_get (D := D) (ci := 2) (v := .ref (ad 6)) (C := R_Mail) (T := F_Mail) (N := 3) hx hb hts in_Mail hown hK hP 5 (wl_to (Mail_lt) (Mail_at)) rfl 0 (by decide) (hts _ fl_Mail_9) (fun _ h => h) rfl d_Mail_dropBetween_75 ?_
              refine lv_iload_n hx hb d_Mail_dropBetween_78 rfl (lv_at hl 4 rfl) ?_
              refine lv_aload_n hx hb d_Mail_dropBetween_79 rfl (lv_at hl 5 rfl) ?_
              refine va_get (D := D) (ci := 2) (v := .ref (ad 6)) (C := R_Mail) (T := F_Mail) (N := 3) hx hb hts in_Mail hown hK hP 5 (wl_to (Mail_lt) (Mail_at)) rfl 0 (by decide) (hts _ fl_Mail_9) (fun _ h => h) rfl d_Mail_dropBetween_80 ?_
              refine lv_iload hx hb d_Mail_dropBetween_83 (lv_at hl 3 rfl) ?_
              obtain ⟨j85, hj85, hf⟩ := ob hf
              refine k_iald hx hb hK hP 6 0 (MS_lt) (MS_at) rfl hj85 d_Mail_dropBetween_85 ?_
              obtain ⟨j86, hj86, hf⟩ := ob hf
              refine m_iast (x := (N5 6 0 0 j85)) hx hb hK hP hA hS cJ 6 0 (MS_lt) (MS_tg) (fun f => MS_row f) rfl hj86 d_Mail_dropBetween_86 (fun H locs hP hS => ?_)
              refine lv_iinc (v := (v3_5 + 1)) (lv' := [(3, .int (v3_5 + 1)), (7, .int 0), (6, .int r33), (5, .int r21), (4, .int v4_5), (0, .ref (ad 5)), (1, .int a), (2, .int b)]) hx hb d_Mail_dropBetween_87 hl (k := 4) rfl rfl (by decide) rfl (fun ls hl => ?_)
              refine lv_iinc (v := (v4_5 + 1)) (lv' := [(4, .int (v4_5 + 1)), (3, .int (v3_5 + 1)), (7, .int 0), (6, .int r33), (5, .int r21), (0, .ref (ad 5)), (1, .int a), (2, .int b)]) hx hb d_Mail_dropBetween_90 hl (k := 4) rfl rfl (by decide) rfl (fun ls hl => ?_)
              refine lv_goto (tgt := 5) hx hb d_Mail_dropBetween_93 (by decide) ?_
              exact ih5 _ _ _ _ _ _ (lv_sub hl [0, 1, 5, 6, 7] rfl) hP hS hf
            · rw [if_pos h59] at hf
              refine lv_iconst (v := 1) hx hb d_Mail_dropBetween_62 (by decide) ?_
              refine lv_goto (tgt := 67) hx hb d_Mail_dropBetween_63 (by decide) ?_
              refine lv_istore (lv' := [(7, .int 1), (6, .int r33), (5, .int r21), (4, .int v4_5), (3, .int v3_5), (0, .ref (ad 5)), (1, .int a), (2, .int b)]) hx hb d_Mail_dropBetween_67 hl (by decide) rfl (fun ls hl => ?_)
              refine lv_iload hx hb d_Mail_dropBetween_69 (lv_at hl 0 rfl) ?_
              refine lv_if_ne (tgt := 90) hx hb d_Mail_dropBetween_71 (by decide) (fun _ => ?_) (fun h => absurd h (by decide))
              refine lv_iinc (v := (v4_5 + 1)) (lv' := [(4, .int (v4_5 + 1)), (7, .int 1), (6, .int r33), (5, .int r21), (3, .int v3_5), (0, .ref (ad 5)), (1, .int a), (2, .int b)]) hx hb d_Mail_dropBetween_90 hl (k := 3) rfl rfl (by decide) rfl (fun ls hl => ?_)
              refine lv_goto (tgt := 5) hx hb d_Mail_dropBetween_93 (by decide) ?_
              exact ih5 _ _ _ _ _ _ (lv_sub hl [0, 4, 5, 6, 7] rfl) hP hS hf
        · rw [if_pos h41] at hf
          refine lv_iload hx hb d_Mail_dropBetween_44 (lv_at hl 0 rfl) ?_
          refine lv_iload_n hx hb d_Mail_dropBetween_46 rfl (lv_at hl 6 rfl) ?_
          refine lv_icmp_eq (tgt := 62) hx hb d_Mail_dropBetween_47 (by decide) (fun h47 => ?_) (fun h47 => ?_)
          · rw [if_pos h47] at hf
            refine lv_iconst (v := 1) hx hb d_Mail_dropBetween_62 (by decide) ?_
            refine lv_goto (tgt := 67) hx hb d_Mail_dropBetween_63 (by decide) ?_
            refine lv_istore (lv' := [(7, .int 1), (6, .int r33), (5, .int r21), (4, .int v4_5), (3, .int v3_5), (0, .ref (ad 5)), (1, .int a), (2, .int b)]) hx hb d_Mail_dropBetween_67 hl (by decide) rfl (fun ls hl => ?_)
            refine lv_iload hx hb d_Mail_dropBetween_69 (lv_at hl 0 rfl) ?_
            refine lv_if_ne (tgt := 90) hx hb d_Mail_dropBetween_71 (by decide) (fun _ => ?_) (fun h => absurd h (by decide))
            refine lv_iinc (v := (v4_5 + 1)) (lv' := [(4, .int (v4_5 + 1)), (7, .int 1), (6, .int r33), (5, .int r21), (3, .int v3_5), (0, .ref (ad 5)), (1, .int a), (2, .int b)]) hx hb d_Mail_dropBetween_90 hl (k := 3) rfl rfl (by decide) rfl (fun ls hl => ?_)
            refine lv_goto (tgt := 5) hx hb d_Mail_dropBetween_93 (by decide) ?_
            exact ih5 _ _ _ _ _ _ (lv_sub hl [0, 4, 5, 6, 7] rfl) hP hS hf
          · rw [if_neg h47] at hf
            refine lv_iload hx hb d_Mail_dropBetween_50 (lv_at hl 1 rfl) ?_
            refine lv_iload_n hx hb d_Mail_dropBetween_52 rfl (lv_at hl 6 rfl) ?_
            refine lv_icmp_ne (tgt := 66) hx hb d_Mail_dropBetween_53 (by decide) (fun h53 => ?_) (fun h53 => ?_)
            · rw [if_neg h53] at hf
              refine lv_iconst (v := 0) hx hb d_Mail_dropBetween_66 (by decide) ?_
              refine lv_istore (lv' := [(7, .int 0), (6, .int r33), (5, .int r21), (4, .int v4_5), (3, .int v3_5), (0, .ref (ad 5)), (1, .int a), (2, .int b)]) hx hb d_Mail_dropBetween_67 hl (by decide) rfl (fun ls hl => ?_)
              refine lv_iload hx hb d_Mail_dropBetween_69 (lv_at hl 0 rfl) ?_
              refine lv_if_ne (tgt := 90) hx hb d_Mail_dropBetween_71 (by decide) (fun h => absurd h (by decide)) (fun _ => ?_)
              refine lv_aload_n hx hb d_Mail_dropBetween_74 rfl (lv_at hl 5 rfl) ?_
              refine va_get (D := D) (ci := 2) (v := .ref (ad 6)) (C := R_Mail) (T := F_Mail) (N := 3) hx hb hts in_Mail hown hK hP 5 (wl_to (Mail_lt) (Mail_at)) rfl 0 (by decide) (hts _ fl_Mail_9) (fun _ h => h) rfl d_Mail_dropBetween_75 ?_
              refine lv_iload_n hx hb d_Mail_dropBetween_78 rfl (lv_at hl 4 rfl) ?_
              refine lv_aload_n hx hb d_Mail_dropBetween_79 rfl (lv_at hl 5 rfl) ?_
              refine va_get (D := D) (ci := 2) (v := .ref (ad 6)) (C := R_Mail) (T := F_Mail) (N := 3) hx hb hts in_Mail hown hK hP 5 (wl_to (Mail_lt) (Mail_at)) rfl 0 (by decide) (hts _ fl_Mail_9) (fun _ h => h) rfl d_Mail_dropBetween_80 ?_
              refine lv_iload hx hb d_Mail_dropBetween_83 (lv_at hl 3 rfl) ?_
              obtain ⟨j85, hj85, hf⟩ := ob hf
              refine k_iald hx hb hK hP 6 0 (MS_lt) (MS_at) rfl hj85 d_Mail_dropBetween_85 ?_
              obtain ⟨j86, hj86, hf⟩ := ob hf
              refine m_iast (x := (N5 6 0 0 j85)) hx hb hK hP hA hS cJ 6 0 (MS_lt) (MS_tg) (fun f => MS_row f) rfl hj86 d_Mail_dropBetween_86 (fun H locs hP hS => ?_)
              refine lv_iinc (v := (v3_5 + 1)) (lv' := [(3, .int (v3_5 + 1)), (7, .int 0), (6, .int r33), (5, .int r21), (4, .int v4_5), (0, .ref (ad 5)), (1, .int a), (2, .int b)]) hx hb d_Mail_dropBetween_87 hl (k := 4) rfl rfl (by decide) rfl (fun ls hl => ?_)
              refine lv_iinc (v := (v4_5 + 1)) (lv' := [(4, .int (v4_5 + 1)), (3, .int (v3_5 + 1)), (7, .int 0), (6, .int r33), (5, .int r21), (0, .ref (ad 5)), (1, .int a), (2, .int b)]) hx hb d_Mail_dropBetween_90 hl (k := 4) rfl rfl (by decide) rfl (fun ls hl => ?_)
              refine lv_goto (tgt := 5) hx hb d_Mail_dropBetween_93 (by decide) ?_
              exact ih5 _ _ _ _ _ _ (lv_sub hl [0, 1, 5, 6, 7] rfl) hP hS hf
            · rw [if_pos h53] at hf
              refine lv_iload hx hb d_Mail_dropBetween_56 (lv_at hl 0 rfl) ?_
              refine lv_iload_n hx hb d_Mail_dropBetween_58 rfl (lv_at hl 5 rfl) ?_
              refine lv_icmp_ne (tgt := 66) hx hb d_Mail_dropBetween_59 (by decide) (fun h59 => ?_) (fun h59 => ?_)
              · rw [if_neg h59] at hf
                refine lv_iconst (v := 0) hx hb d_Mail_dropBetween_66 (by decide) ?_
                refine lv_istore (lv' := [(7, .int 0), (6, .int r33), (5, .int r21), (4, .int v4_5), (3, .int v3_5), (0, .ref (ad 5)), (1, .int a), (2, .int b)]) hx hb d_Mail_dropBetween_67 hl (by decide) rfl (fun ls hl => ?_)
                refine lv_iload hx hb d_Mail_dropBetween_69 (lv_at hl 0 rfl) ?_
                refine lv_if_ne (tgt := 90) hx hb d_Mail_dropBetween_71 (by decide) (fun h => absurd h (by decide)) (fun _ => ?_)
                refine lv_aload_n hx hb d_Mail_dropBetween_74 rfl (lv_at hl 5 rfl) ?_
                refine va_get (D := D) (ci := 2) (v := .ref (ad 6)) (C := R_Mail) (T := F_Mail) (N := 3) hx hb hts in_Mail hown hK hP 5 (wl_to (Mail_lt) (Mail_at)) rfl 0 (by decide) (hts _ fl_Mail_9) (fun _ h => h) rfl d_Mail_dropBetween_75 ?_
                refine lv_iload_n hx hb d_Mail_dropBetween_78 rfl (lv_at hl 4 rfl) ?_
                refine lv_aload_n hx hb d_Mail_dropBetween_79 rfl (lv_at hl 5 rfl) ?_
                refine va_get (D := D) (ci := 2) (v := .ref (ad 6)) (C := R_Mail) (T := F_Mail) (N := 3) hx hb hts in_Mail hown hK hP 5 (wl_to (Mail_lt) (Mail_at)) rfl 0 (by decide) (hts _ fl_Mail_9) (fun _ h => h) rfl d_Mail_dropBetween_80 ?_
                refine lv_iload hx hb d_Mail_dropBetween_83 (lv_at hl 3 rfl) ?_
                obtain ⟨j85, hj85, hf⟩ := ob hf
                refine k_iald hx hb hK hP 6 0 (MS_lt) (MS_at) rfl hj85 d_Mail_dropBetween_85 ?_
                obtain ⟨j86, hj86, hf⟩ := ob hf
                refine m_iast (x := (N5 6 0 0 j85)) hx hb hK hP hA hS cJ 6 0 (MS_lt) (MS_tg) (fun f => MS_row f) rfl hj86 d_Mail_dropBetween_86 (fun H locs hP hS => ?_)
                refine lv_iinc (v := (v3_5 + 1)) (lv' := [(3, .int (v3_5 + 1)), (7, .int 0), (6, .int r33), (5, .int r21), (4, .int v4_5), (0, .ref (ad 5)), (1, .int a), (2, .int b)]) hx hb d_Mail_dropBetween_87 hl (k := 4) rfl rfl (by decide) rfl (fun ls hl => ?_)
                refine lv_iinc (v := (v4_5 + 1)) (lv' := [(4, .int (v4_5 + 1)), (3, .int (v3_5 + 1)), (7, .int 0), (6, .int r33), (5, .int r21), (0, .ref (ad 5)), (1, .int a), (2, .int b)]) hx hb d_Mail_dropBetween_90 hl (k := 4) rfl rfl (by decide) rfl (fun ls hl => ?_)
                refine lv_goto (tgt := 5) hx hb d_Mail_dropBetween_93 (by decide) ?_
                exact ih5 _ _ _ _ _ _ (lv_sub hl [0, 1, 5, 6, 7] rfl) hP hS hf
              · rw [if_pos h59] at hf
                refine lv_iconst (v := 1) hx hb d_Mail_dropBetween_62 (by decide) ?_
                refine lv_goto (tgt := 67) hx hb d_Mail_dropBetween_63 (by decide) ?_
                refine lv_istore (lv' := [(7, .int 1), (6, .int r33), (5, .int r21), (4, .int v4_5), (3, .int v3_5), (0, .ref (ad 5)), (1, .int a), (2, .int b)]) hx hb d_Mail_dropBetween_67 hl (by decide) rfl (fun ls hl => ?_)
                refine lv_iload hx hb d_Mail_dropBetween_69 (lv_at hl 0 rfl) ?_
                refine lv_if_ne (tgt := 90) hx hb d_Mail_dropBetween_71 (by decide) (fun _ => ?_) (fun h => absurd h (by decide))
                refine lv_iinc (v := (v4_5 + 1)) (lv' := [(4, .int (v4_5 + 1)), (7, .int 1), (6, .int r33), (5, .int r21), (3, .int v3_5), (0, .ref (ad 5)), (1, .int a), (2, .int b)]) hx hb d_Mail_dropBetween_90 hl (k := 3) rfl rfl (by decide) rfl (fun ls hl => ?_)
                refine lv_goto (tgt := 5) hx hb d_Mail_dropBetween_93 (by decide) ?_
                exact ih5 _ _ _ _ _ _ (lv_sub hl [0, 4, 5, 6, 7] rfl) hP hS hf
  exact L5 _ _ _ _ _ _ _ (lv_sub hl [0, 1, 2, 3, 4] rfl) hP hS hf
end
section
def f_Router_labelOf (n : Nat) (r : Nat) (a : Int32) (M : Mem) : Option (Int32) :=
  (ix a 4).bind fun j5 => some (M 18 r 0 j5)
abbrev rm_Router_labelOf : Room := { frames := 0, cells := 0, slots := 0, locals := 0 }
set_option maxHeartbeats 4000000 in
set_option maxRecDepth 100000 in
theorem c_Router_labelOf {l : Launch} {D : va_G} {n : Nat} {ad : Nat → Nat} {G : Nat → ClassId} {r : Nat} {a : Int32} (hp_r : r < n) {M : Mem} {x : Int32} (hf : f_Router_labelOf n r a M = some x) : Met l y_Router_labelOf (wc y_Router_labelOf b_Router_labelOf 2 (some .int)) rm_Router_labelOf (va_Pc [.ref (ad (16 + 11 * r + 1)), .int a] (cB D n ad G M)) (rd_Q (some (.int x))) 0 0 (fun _ => False) := by
  refine k_met (by decide) (Nat.le_of_ble_eq_true rfl) ?_
  intro p e s m args below meth c S hr hlk hB ls hl
  obtain ⟨hx, hb, hml, hown, hts⟩ := id S
  obtain ⟨hP, hK, hA0⟩ := hB
  have hA := wl_own hA0
  have hl : lv_has ls 2 [(0, .ref (ad (16 + 11 * r + 1))), (1, .int a)] := hl
  unfold f_Router_labelOf at hf
  refine lv_aload_n hx hb d_Router_labelOf_0 rfl (lv_at hl 0 rfl) ?_
  refine va_get (D := D) (ci := 3) (v := .ref (ad (16 + 11 * r + 2))) (C := R_Router) (T := F_Router) (N := 3) hx hb hts in_Router hown hK hP (16 + 11 * r + 1) (wl_to (RT_lt hp_r) (RT_at hp_r)) rfl 0 (by decide) (hts _ fl_Router_9) (fun _ h => h) rfl d_Router_labelOf_1 ?_
  refine lv_iload_n hx hb d_Router_labelOf_4 rfl (lv_at hl 1 rfl) ?_
  obtain ⟨j5, hj5, hf⟩ := ob hf
  refine k_iald hx hb hK hP (16 + 11 * r + 2) 0 (LB_lt hp_r) (LB_at hp_r) rfl hj5 d_Router_labelOf_5 ?_
  cases hf
  exact r_iret hx hb hr hlk d_Router_labelOf_6
def f_Router_setLabel (n : Nat) (r : Nat) (a : Int32) (b : Int32) (M : Mem) : Option (Mem) :=
  (ix a 4).bind fun j6 => some (mset M 18 r 0 j6 b)
abbrev rm_Router_setLabel : Room := { frames := 0, cells := 0, slots := 0, locals := 0 }
set_option maxHeartbeats 4000000 in
set_option maxRecDepth 100000 in
theorem c_Router_setLabel {l : Launch} {D : va_G} {n : Nat} {ad : Nat → Nat} {G : Nat → ClassId} {r : Nat} {a : Int32} {b : Int32} (hp_r : r < n) {M : Mem} {x : Mem} (hf : f_Router_setLabel n r a b M = some x) : Met l y_Router_setLabel (wc y_Router_setLabel b_Router_setLabel 3 (none)) rm_Router_setLabel (va_Pc [.ref (ad (16 + 11 * r + 1)), .int a, .int b] (cB D n ad G M)) (wr_Q (none) D cls (cK n) ad (cE n ad G x)) 0 0 (wl_A (cK n) ad) := by
  refine k_met (by decide) (Nat.le_of_ble_eq_true rfl) ?_
  intro p e s m args below meth c S hr hlk hB ls hl
  obtain ⟨hx, hb, hml, hown, hts⟩ := id S
  obtain ⟨hP, hK, hA0⟩ := hB
  have hA := wl_own hA0
  have hl : lv_has ls 3 [(0, .ref (ad (16 + 11 * r + 1))), (1, .int a), (2, .int b)] := hl
  have hS : va_S (wl_A (cK n) ad) s.heap s.heap [] := va_S.rf
  unfold f_Router_setLabel at hf
  refine lv_aload_n hx hb d_Router_setLabel_0 rfl (lv_at hl 0 rfl) ?_
  refine va_get (D := D) (ci := 3) (v := .ref (ad (16 + 11 * r + 2))) (C := R_Router) (T := F_Router) (N := 3) hx hb hts in_Router hown hK hP (16 + 11 * r + 1) (wl_to (RT_lt hp_r) (RT_at hp_r)) rfl 0 (by decide) (hts _ fl_Router_9) (fun _ h => h) rfl d_Router_setLabel_1 ?_
  refine lv_iload_n hx hb d_Router_setLabel_4 rfl (lv_at hl 1 rfl) ?_
  refine lv_iload_n hx hb d_Router_setLabel_5 rfl (lv_at hl 2 rfl) ?_
  obtain ⟨j6, hj6, hf⟩ := ob hf
  refine m_iast (x := b) hx hb hK hP hA hS cJ (16 + 11 * r + 2) 0 (LB_lt hp_r) (LB_tg hp_r) (fun f => LB_row f hp_r) rfl hj6 d_Router_setLabel_6 (fun H locs hP hS => ?_)
  cases hf
  exact w_vret hx hb hr hlk hP hS d_Router_setLabel_7
def f_Router_prefixOf_2 (n : Nat) (r : Nat) (a : Int32) (M : Mem) : Nat → Int32 → Option (Int32)
  | 0, _ => none
  | k2 + 1, v2_2 =>
    if 4 ≤ v2_2 then (some (-1)) else ((ix v2_2 4).bind fun j12 => if (M 18 r 0 j12) = a then (some v2_2) else (f_Router_prefixOf_2 n r a M k2 (v2_2 + 1)))
def f_Router_prefixOf (n : Nat) (r : Nat) (a : Int32) (M : Mem) : Option (Int32) :=
  f_Router_prefixOf_2 n r a M 1000 0
abbrev rm_Router_prefixOf : Room := { frames := 0, cells := 0, slots := 0, locals := 0 }
set_option maxHeartbeats 4000000 in
set_option maxRecDepth 100000 in
theorem c_Router_prefixOf {l : Launch} {D : va_G} {n : Nat} {ad : Nat → Nat} {G : Nat → ClassId} {r : Nat} {a : Int32} (hp_r : r < n) {M : Mem} {x : Int32} (hf : f_Router_prefixOf n r a M = some x) : Met l y_Router_prefixOf (wc y_Router_prefixOf b_Router_prefixOf 3 (some .int)) rm_Router_prefixOf (va_Pc [.ref (ad (16 + 11 * r + 1)), .int a] (cB D n ad G M)) (rd_Q (some (.int x))) 0 0 (fun _ => False) := by
  refine k_met (by decide) (Nat.le_of_ble_eq_true rfl) ?_
  intro p e s m args below meth c S hr hlk hB ls hl
  obtain ⟨hx, hb, hml, hown, hts⟩ := id S
  obtain ⟨hP, hK, hA0⟩ := hB
  have hA := wl_own hA0
  have hl : lv_has ls 3 [(0, .ref (ad (16 + 11 * r + 1))), (1, .int a)] := hl
  unfold f_Router_prefixOf at hf
  refine lv_iconst (v := 0) hx hb d_Router_prefixOf_0 (by decide) ?_
  refine lv_istore_n (lv' := [(2, .int 0), (0, .ref (ad (16 + 11 * r + 1))), (1, .int a)]) hx hb d_Router_prefixOf_1 rfl hl (by decide) rfl (fun ls hl => ?_)
  have L2 : ∀ (k2 : Nat) (v2_2 : Int32) (ls : Array Slot), lv_has ls 3 [(2, .int v2_2), (0, .ref (ad (16 + 11 * r + 1))), (1, .int a)] → f_Router_prefixOf_2 n r a M k2 v2_2 = some x → W p l e rm_Router_prefixOf s m args below meth c s.heap [] 0 0 (MQ below (rd_Q (some (.int x))) args s 0 0 (fun _ => False)) (F0 m 2 ls []) := by
    intro k2
    induction k2 with
    | zero =>
      intro v2_2 ls hl hf
      simp [f_Router_prefixOf_2] at hf
    | succ k2 ih2 =>
      intro v2_2 ls hl hf
      rw [f_Router_prefixOf_2] at hf
      refine lv_iload_n hx hb d_Router_prefixOf_2 rfl (lv_at hl 0 rfl) ?_
      refine lv_iconst (v := 4) hx hb d_Router_prefixOf_3 (by decide) ?_
      refine lv_icmp_ge (tgt := 25) hx hb d_Router_prefixOf_4 (by decide) (fun h4 => ?_) (fun h4 => ?_)
      · rw [if_pos h4] at hf
        refine lv_iconst (v := (-1)) hx hb d_Router_prefixOf_25 (by decide) ?_
        cases hf
        exact r_iret hx hb hr hlk d_Router_prefixOf_26
      · rw [if_neg h4] at hf
        refine lv_aload_n hx hb d_Router_prefixOf_7 rfl (lv_at hl 1 rfl) ?_
        refine va_get (D := D) (ci := 3) (v := .ref (ad (16 + 11 * r + 2))) (C := R_Router) (T := F_Router) (N := 3) hx hb hts in_Router hown hK hP (16 + 11 * r + 1) (wl_to (RT_lt hp_r) (RT_at hp_r)) rfl 0 (by decide) (hts _ fl_Router_9) (fun _ h => h) rfl d_Router_prefixOf_8 ?_
        refine lv_iload_n hx hb d_Router_prefixOf_11 rfl (lv_at hl 0 rfl) ?_
        obtain ⟨j12, hj12, hf⟩ := ob hf
        refine k_iald hx hb hK hP (16 + 11 * r + 2) 0 (LB_lt hp_r) (LB_at hp_r) rfl hj12 d_Router_prefixOf_12 ?_
        refine lv_iload_n hx hb d_Router_prefixOf_13 rfl (lv_at hl 2 rfl) ?_
        refine lv_icmp_ne (tgt := 19) hx hb d_Router_prefixOf_14 (by decide) (fun h14 => ?_) (fun h14 => ?_)
        · rw [if_neg h14] at hf
          refine lv_iinc (v := (v2_2 + 1)) (lv' := [(2, .int (v2_2 + 1)), (0, .ref (ad (16 + 11 * r + 1))), (1, .int a)]) hx hb d_Router_prefixOf_19 hl (k := 0) rfl rfl (by decide) rfl (fun ls hl => ?_)
          refine lv_goto (tgt := 2) hx hb d_Router_prefixOf_22 (by decide) ?_
          exact ih2 _ _ (lv_sub hl [0, 1, 2] rfl) hf
        · rw [if_pos h14] at hf
          refine lv_iload_n hx hb d_Router_prefixOf_17 rfl (lv_at hl 0 rfl) ?_
          cases hf
          exact r_iret hx hb hr hlk d_Router_prefixOf_18
  exact L2 _ _ _ (lv_sub hl [0, 1, 2] rfl) hf
def f_Router_takenBits_33 (n : Nat) (r : Nat) (M : Mem) : Nat → Int32 → Int32 → Option (Int32)
  | 0, _, _ => none
  | k33 + 1, v2_33, v1_33 =>
    if 4 ≤ v2_33 then (some v1_33) else ((ix v2_33 4).bind fun j43 => if (M 18 r 0 j43) = 0 then (f_Router_takenBits_33 n r M k33 (v2_33 + 1) v1_33) else ((ix v2_33 4).bind fun j54 => f_Router_takenBits_33 n r M k33 (v2_33 + 1) (v1_33 ||| (1 <<< (((M 18 r 0 j54) - 16) &&& 31)))))
def f_Router_takenBits_4 (n : Nat) (r : Nat) (M : Mem) : Nat → Int32 → Int32 → Option (Int32)
  | 0, _, _ => none
  | k4 + 1, v2_4, v1_4 =>
    if 8 ≤ v2_4 then (f_Router_takenBits_33 n r M 1000 0 v1_4) else ((ix v2_4 8).bind fun j15 => if (M 20 r 0 j15) = 0 then (f_Router_takenBits_4 n r M k4 (v2_4 + 1) v1_4) else (f_Router_takenBits_4 n r M k4 (v2_4 + 1) (v1_4 ||| (1 <<< (v2_4 &&& 31)))))
def f_Router_takenBits (n : Nat) (r : Nat) (M : Mem) : Option (Int32) :=
  f_Router_takenBits_4 n r M 1000 0 0
abbrev rm_Router_takenBits : Room := { frames := 0, cells := 0, slots := 0, locals := 0 }
set_option maxHeartbeats 4000000 in
set_option maxRecDepth 100000 in
theorem c_Router_takenBits {l : Launch} {D : va_G} {n : Nat} {ad : Nat → Nat} {G : Nat → ClassId} {r : Nat} (hp_r : r < n) {M : Mem} {x : Int32} (hf : f_Router_takenBits n r M = some x) : Met l y_Router_takenBits (wc y_Router_takenBits b_Router_takenBits 3 (some .int)) rm_Router_takenBits (va_Pc [.ref (ad (16 + 11 * r + 1))] (cB D n ad G M)) (rd_Q (some (.int x))) 0 0 (fun _ => False) := by
  refine k_met (by decide) (Nat.le_of_ble_eq_true rfl) ?_
  intro p e s m args below meth c S hr hlk hB ls hl
  obtain ⟨hx, hb, hml, hown, hts⟩ := id S
  obtain ⟨hP, hK, hA0⟩ := hB
  have hA := wl_own hA0
  have hl : lv_has ls 3 [(0, .ref (ad (16 + 11 * r + 1)))] := hl
  unfold f_Router_takenBits at hf
  refine lv_iconst (v := 0) hx hb d_Router_takenBits_0 (by decide) ?_
  refine lv_istore_n (lv' := [(1, .int 0), (0, .ref (ad (16 + 11 * r + 1)))]) hx hb d_Router_takenBits_1 rfl hl (by decide) rfl (fun ls hl => ?_)
  refine lv_iconst (v := 0) hx hb d_Router_takenBits_2 (by decide) ?_
  refine lv_istore_n (lv' := [(2, .int 0), (1, .int 0), (0, .ref (ad (16 + 11 * r + 1)))]) hx hb d_Router_takenBits_3 rfl hl (by decide) rfl (fun ls hl => ?_)
  have L4 : ∀ (k4 : Nat) (v2_4 : Int32) (v1_4 : Int32) (ls : Array Slot), lv_has ls 3 [(2, .int v2_4), (1, .int v1_4), (0, .ref (ad (16 + 11 * r + 1)))] → f_Router_takenBits_4 n r M k4 v2_4 v1_4 = some x → W p l e rm_Router_takenBits s m args below meth c s.heap [] 0 0 (MQ below (rd_Q (some (.int x))) args s 0 0 (fun _ => False)) (F0 m 4 ls []) := by
    intro k4
    induction k4 with
    | zero =>
      intro v2_4 v1_4 ls hl hf
      simp [f_Router_takenBits_4] at hf
    | succ k4 ih4 =>
      intro v2_4 v1_4 ls hl hf
      rw [f_Router_takenBits_4] at hf
      refine lv_iload_n hx hb d_Router_takenBits_4 rfl (lv_at hl 0 rfl) ?_
      refine lv_bipush (v := 8) hx hb d_Router_takenBits_5 (by decide) ?_
      refine lv_icmp_ge (tgt := 31) hx hb d_Router_takenBits_7 (by decide) (fun h7 => ?_) (fun h7 => ?_)
      · rw [if_pos h7] at hf
        refine lv_iconst (v := 0) hx hb d_Router_takenBits_31 (by decide) ?_
        refine lv_istore_n (lv' := [(2, .int 0), (1, .int v1_4), (0, .ref (ad (16 + 11 * r + 1)))]) hx hb d_Router_takenBits_32 rfl hl (by decide) rfl (fun ls hl => ?_)
        have L33 : ∀ (k33 : Nat) (v2_33 : Int32) (v1_33 : Int32) (ls : Array Slot), lv_has ls 3 [(2, .int v2_33), (1, .int v1_33), (0, .ref (ad (16 + 11 * r + 1)))] → f_Router_takenBits_33 n r M k33 v2_33 v1_33 = some x → W p l e rm_Router_takenBits s m args below meth c s.heap [] 0 0 (MQ below (rd_Q (some (.int x))) args s 0 0 (fun _ => False)) (F0 m 33 ls []) := by
          intro k33
          induction k33 with
          | zero =>
            intro v2_33 v1_33 ls hl hf
            simp [f_Router_takenBits_33] at hf
          | succ k33 ih33 =>
            intro v2_33 v1_33 ls hl hf
            rw [f_Router_takenBits_33] at hf
            refine lv_iload_n hx hb d_Router_takenBits_33 rfl (lv_at hl 0 rfl) ?_
            refine lv_iconst (v := 4) hx hb d_Router_takenBits_34 (by decide) ?_
            refine lv_icmp_ge (tgt := 67) hx hb d_Router_takenBits_35 (by decide) (fun h35 => ?_) (fun h35 => ?_)
            · rw [if_pos h35] at hf
              refine lv_iload_n hx hb d_Router_takenBits_67 rfl (lv_at hl 1 rfl) ?_
              cases hf
              exact r_iret hx hb hr hlk d_Router_takenBits_68
            · rw [if_neg h35] at hf
              refine lv_aload_n hx hb d_Router_takenBits_38 rfl (lv_at hl 2 rfl) ?_
              refine va_get (D := D) (ci := 3) (v := .ref (ad (16 + 11 * r + 2))) (C := R_Router) (T := F_Router) (N := 3) hx hb hts in_Router hown hK hP (16 + 11 * r + 1) (wl_to (RT_lt hp_r) (RT_at hp_r)) rfl 0 (by decide) (hts _ fl_Router_9) (fun _ h => h) rfl d_Router_takenBits_39 ?_
              refine lv_iload_n hx hb d_Router_takenBits_42 rfl (lv_at hl 0 rfl) ?_
              obtain ⟨j43, hj43, hf⟩ := ob hf
              refine k_iald hx hb hK hP (16 + 11 * r + 2) 0 (LB_lt hp_r) (LB_at hp_r) rfl hj43 d_Router_takenBits_43 ?_
              refine lv_if_eq (tgt := 61) hx hb d_Router_takenBits_44 (by decide) (fun h44 => ?_) (fun h44 => ?_)
              · rw [if_pos h44] at hf
                refine lv_iinc (v := (v2_33 + 1)) (lv' := [(2, .int (v2_33 + 1)), (1, .int v1_33), (0, .ref (ad (16 + 11 * r + 1)))]) hx hb d_Router_takenBits_61 hl (k := 0) rfl rfl (by decide) rfl (fun ls hl => ?_)
                refine lv_goto (tgt := 33) hx hb d_Router_takenBits_64 (by decide) ?_
                exact ih33 _ _ _ (lv_sub hl [0, 1, 2] rfl) hf
              · rw [if_neg h44] at hf
                refine lv_iload_n hx hb d_Router_takenBits_47 rfl (lv_at hl 1 rfl) ?_
                refine lv_iconst (v := 1) hx hb d_Router_takenBits_48 (by decide) ?_
                refine lv_aload_n hx hb d_Router_takenBits_49 rfl (lv_at hl 2 rfl) ?_
                refine va_get (D := D) (ci := 3) (v := .ref (ad (16 + 11 * r + 2))) (C := R_Router) (T := F_Router) (N := 3) hx hb hts in_Router hown hK hP (16 + 11 * r + 1) (wl_to (RT_lt hp_r) (RT_at hp_r)) rfl 0 (by decide) (hts _ fl_Router_9) (fun _ h => h) rfl d_Router_takenBits_50 ?_
                refine lv_iload_n hx hb d_Router_takenBits_53 rfl (lv_at hl 0 rfl) ?_
                obtain ⟨j54, hj54, hf⟩ := ob hf
                refine k_iald hx hb hK hP (16 + 11 * r + 2) 0 (LB_lt hp_r) (LB_at hp_r) rfl hj54 d_Router_takenBits_54 ?_
                refine lv_bipush (v := 16) hx hb d_Router_takenBits_55 (by decide) ?_
                refine lv_isub hx hb d_Router_takenBits_57 ?_
                refine lv_ishl hx hb d_Router_takenBits_58 ?_
                refine lv_ior hx hb d_Router_takenBits_59 ?_
                refine lv_istore_n (lv' := [(1, .int (v1_33 ||| (1 <<< (((M 18 r 0 j54) - 16) &&& 31)))), (2, .int v2_33), (0, .ref (ad (16 + 11 * r + 1)))]) hx hb d_Router_takenBits_60 rfl hl (by decide) rfl (fun ls hl => ?_)
                refine lv_iinc (v := (v2_33 + 1)) (lv' := [(2, .int (v2_33 + 1)), (1, .int (v1_33 ||| (1 <<< (((M 18 r 0 j54) - 16) &&& 31)))), (0, .ref (ad (16 + 11 * r + 1)))]) hx hb d_Router_takenBits_61 hl (k := 1) rfl rfl (by decide) rfl (fun ls hl => ?_)
                refine lv_goto (tgt := 33) hx hb d_Router_takenBits_64 (by decide) ?_
                exact ih33 _ _ _ (lv_sub hl [0, 1, 2] rfl) hf
        exact L33 _ _ _ _ (lv_sub hl [0, 1, 2] rfl) hf
      · rw [if_neg h7] at hf
        refine lv_aload_n hx hb d_Router_takenBits_10 rfl (lv_at hl 2 rfl) ?_
        refine va_get (D := D) (ci := 3) (v := .ref (ad (16 + 11 * r + 4))) (C := R_Router) (T := F_Router) (N := 3) hx hb hts in_Router hown hK hP (16 + 11 * r + 1) (wl_to (RT_lt hp_r) (RT_at hp_r)) rfl 2 (by decide) (hts _ fl_Router_20) (fun _ h => h) rfl d_Router_takenBits_11 ?_
        refine lv_iload_n hx hb d_Router_takenBits_14 rfl (lv_at hl 0 rfl) ?_
        obtain ⟨j15, hj15, hf⟩ := ob hf
        refine k_iald hx hb hK hP (16 + 11 * r + 4) 0 (AW_lt hp_r) (AW_at hp_r) rfl hj15 d_Router_takenBits_15 ?_
        refine lv_if_eq (tgt := 25) hx hb d_Router_takenBits_16 (by decide) (fun h16 => ?_) (fun h16 => ?_)
        · rw [if_pos h16] at hf
          refine lv_iinc (v := (v2_4 + 1)) (lv' := [(2, .int (v2_4 + 1)), (1, .int v1_4), (0, .ref (ad (16 + 11 * r + 1)))]) hx hb d_Router_takenBits_25 hl (k := 0) rfl rfl (by decide) rfl (fun ls hl => ?_)
          refine lv_goto (tgt := 4) hx hb d_Router_takenBits_28 (by decide) ?_
          exact ih4 _ _ _ (lv_sub hl [0, 1, 2] rfl) hf
        · rw [if_neg h16] at hf
          refine lv_iload_n hx hb d_Router_takenBits_19 rfl (lv_at hl 1 rfl) ?_
          refine lv_iconst (v := 1) hx hb d_Router_takenBits_20 (by decide) ?_
          refine lv_iload_n hx hb d_Router_takenBits_21 rfl (lv_at hl 0 rfl) ?_
          refine lv_ishl hx hb d_Router_takenBits_22 ?_
          refine lv_ior hx hb d_Router_takenBits_23 ?_
          refine lv_istore_n (lv' := [(1, .int (v1_4 ||| (1 <<< (v2_4 &&& 31)))), (2, .int v2_4), (0, .ref (ad (16 + 11 * r + 1)))]) hx hb d_Router_takenBits_24 rfl hl (by decide) rfl (fun ls hl => ?_)
          refine lv_iinc (v := (v2_4 + 1)) (lv' := [(2, .int (v2_4 + 1)), (1, .int (v1_4 ||| (1 <<< (v2_4 &&& 31)))), (0, .ref (ad (16 + 11 * r + 1)))]) hx hb d_Router_takenBits_25 hl (k := 1) rfl rfl (by decide) rfl (fun ls hl => ?_)
          refine lv_goto (tgt := 4) hx hb d_Router_takenBits_28 (by decide) ?_
          exact ih4 _ _ _ (lv_sub hl [0, 1, 2] rfl) hf
  exact L4 _ _ _ _ (lv_sub hl [0, 1, 2] rfl) hf
def f_Router_leastFree_7 (n : Nat) (r1 : Int32) : Nat → Int32 → Option (Int32)
  | 0, _ => none
  | k7 + 1, v2_7 =>
    if 8 ≤ v2_7 then (some 0) else (if ((r1 >>> (v2_7 &&& 31)) &&& 1) = 0 then (some (16 + v2_7)) else (f_Router_leastFree_7 n r1 k7 (v2_7 + 1)))
def f_Router_leastFree (n : Nat) (r : Nat) (M : Mem) : Option (Int32) :=
  (f_Router_takenBits n r M).bind fun r1 => f_Router_leastFree_7 n r1 1000 0
abbrev rm_Router_leastFree : Room := { frames := 1, cells := 0, slots := 0, locals := 22 }
set_option maxHeartbeats 4000000 in
set_option maxRecDepth 100000 in
theorem c_Router_leastFree {l : Launch} {D : va_G} {n : Nat} {ad : Nat → Nat} {G : Nat → ClassId} {r : Nat} (hp_r : r < n) {M : Mem} {x : Int32} (hf : f_Router_leastFree n r M = some x) : Met l y_Router_leastFree (wc y_Router_leastFree b_Router_leastFree 3 (some .int)) rm_Router_leastFree (va_Pc [.ref (ad (16 + 11 * r + 1))] (cB D n ad G M)) (rd_Q (some (.int x))) 0 0 (fun _ => False) := by
  refine k_met (by decide) (Nat.le_of_ble_eq_true rfl) ?_
  intro p e s m args below meth c S hr hlk hB ls hl
  obtain ⟨hx, hb, hml, hown, hts⟩ := id S
  obtain ⟨hP, hK, hA0⟩ := hB
  have hA := wl_own hA0
  have hl : lv_has ls 3 [(0, .ref (ad (16 + 11 * r + 1)))] := hl
  unfold f_Router_leastFree at hf
  refine lv_aload_n hx hb d_Router_leastFree_0 rfl (lv_at hl 0 rfl) ?_
  obtain ⟨r1, hc1, hf⟩ := ob hf
  refine k_rdi (k_vir S (c_Router_takenBits (l := l) (D := D) (n := n) (ad := ad) (G := G) hp_r hc1) g_Router_23 hd_Router_takenBits ⟨rfl, rfl⟩ ⟨Nat.le_of_ble_eq_true rfl, Nat.le_of_ble_eq_true rfl⟩ wl_blind (va_recv hK hP rfl (wl_to (RT_lt hp_r) (RT_at hp_r))) (wl_pre hP hK hA) rfl hl.1 rfl (Nat.le_of_ble_eq_true rfl) d_Router_leastFree_1 (Nat.zero_le _) (Nat.zero_le _)) ?_
  refine lv_istore_n (lv' := [(1, .int r1), (0, .ref (ad (16 + 11 * r + 1)))]) hx hb d_Router_leastFree_4 rfl hl (by decide) rfl (fun ls hl => ?_)
  refine lv_iconst (v := 0) hx hb d_Router_leastFree_5 (by decide) ?_
  refine lv_istore_n (lv' := [(2, .int 0), (1, .int r1), (0, .ref (ad (16 + 11 * r + 1)))]) hx hb d_Router_leastFree_6 rfl hl (by decide) rfl (fun ls hl => ?_)
  have L7 : ∀ (k7 : Nat) (v2_7 : Int32) (ls : Array Slot), lv_has ls 3 [(2, .int v2_7), (1, .int r1), (0, .ref (ad (16 + 11 * r + 1)))] → f_Router_leastFree_7 n r1 k7 v2_7 = some x → W p l e rm_Router_leastFree s m args below meth c s.heap [] 0 0 (MQ below (rd_Q (some (.int x))) args s 0 0 (fun _ => False)) (F0 m 7 ls []) := by
    intro k7
    induction k7 with
    | zero =>
      intro v2_7 ls hl hf
      simp [f_Router_leastFree_7] at hf
    | succ k7 ih7 =>
      intro v2_7 ls hl hf
      rw [f_Router_leastFree_7] at hf
      refine lv_iload_n hx hb d_Router_leastFree_7 rfl (lv_at hl 0 rfl) ?_
      refine lv_bipush (v := 8) hx hb d_Router_leastFree_8 (by decide) ?_
      refine lv_icmp_ge (tgt := 32) hx hb d_Router_leastFree_10 (by decide) (fun h10 => ?_) (fun h10 => ?_)
      · rw [if_pos h10] at hf
        refine lv_iconst (v := 0) hx hb d_Router_leastFree_32 (by decide) ?_
        cases hf
        exact r_iret hx hb hr hlk d_Router_leastFree_33
      · rw [if_neg h10] at hf
        refine lv_iload_n hx hb d_Router_leastFree_13 rfl (lv_at hl 1 rfl) ?_
        refine lv_iload_n hx hb d_Router_leastFree_14 rfl (lv_at hl 0 rfl) ?_
        refine lv_ishr hx hb d_Router_leastFree_15 ?_
        refine lv_iconst (v := 1) hx hb d_Router_leastFree_16 (by decide) ?_
        refine lv_iand hx hb d_Router_leastFree_17 ?_
        refine lv_if_ne (tgt := 26) hx hb d_Router_leastFree_18 (by decide) (fun h18 => ?_) (fun h18 => ?_)
        · rw [if_neg h18] at hf
          refine lv_iinc (v := (v2_7 + 1)) (lv' := [(2, .int (v2_7 + 1)), (1, .int r1), (0, .ref (ad (16 + 11 * r + 1)))]) hx hb d_Router_leastFree_26 hl (k := 0) rfl rfl (by decide) rfl (fun ls hl => ?_)
          refine lv_goto (tgt := 7) hx hb d_Router_leastFree_29 (by decide) ?_
          exact ih7 _ _ (lv_sub hl [0, 1, 2] rfl) hf
        · rw [if_pos h18] at hf
          refine lv_bipush (v := 16) hx hb d_Router_leastFree_21 (by decide) ?_
          refine lv_iload_n hx hb d_Router_leastFree_23 rfl (lv_at hl 0 rfl) ?_
          refine lv_iadd hx hb d_Router_leastFree_24 ?_
          cases hf
          exact r_iret hx hb hr hlk d_Router_leastFree_25
  exact L7 _ _ _ (lv_sub hl [0, 1, 2] rfl) hf
def f_Int_bitCount (a : Int32) : Option (Int32) :=
  some ((((((((a - (((a).toUInt32 >>> ((1 : Int32).toUInt32 &&& Int32.toUInt32 31)).toInt32 &&& 1431655765)) &&& 858993459) + ((((a - (((a).toUInt32 >>> ((1 : Int32).toUInt32 &&& Int32.toUInt32 31)).toInt32 &&& 1431655765))).toUInt32 >>> ((2 : Int32).toUInt32 &&& Int32.toUInt32 31)).toInt32 &&& 858993459)) + (((((a - (((a).toUInt32 >>> ((1 : Int32).toUInt32 &&& Int32.toUInt32 31)).toInt32 &&& 1431655765)) &&& 858993459) + ((((a - (((a).toUInt32 >>> ((1 : Int32).toUInt32 &&& Int32.toUInt32 31)).toInt32 &&& 1431655765))).toUInt32 >>> ((2 : Int32).toUInt32 &&& Int32.toUInt32 31)).toInt32 &&& 858993459))).toUInt32 >>> ((4 : Int32).toUInt32 &&& Int32.toUInt32 31)).toInt32) &&& 252645135) + (((((((a - (((a).toUInt32 >>> ((1 : Int32).toUInt32 &&& Int32.toUInt32 31)).toInt32 &&& 1431655765)) &&& 858993459) + ((((a - (((a).toUInt32 >>> ((1 : Int32).toUInt32 &&& Int32.toUInt32 31)).toInt32 &&& 1431655765))).toUInt32 >>> ((2 : Int32).toUInt32 &&& Int32.toUInt32 31)).toInt32 &&& 858993459)) + (((((a - (((a).toUInt32 >>> ((1 : Int32).toUInt32 &&& Int32.toUInt32 31)).toInt32 &&& 1431655765)) &&& 858993459) + ((((a - (((a).toUInt32 >>> ((1 : Int32).toUInt32 &&& Int32.toUInt32 31)).toInt32 &&& 1431655765))).toUInt32 >>> ((2 : Int32).toUInt32 &&& Int32.toUInt32 31)).toInt32 &&& 858993459))).toUInt32 >>> ((4 : Int32).toUInt32 &&& Int32.toUInt32 31)).toInt32) &&& 252645135)).toUInt32 >>> ((8 : Int32).toUInt32 &&& Int32.toUInt32 31)).toInt32) + ((((((((a - (((a).toUInt32 >>> ((1 : Int32).toUInt32 &&& Int32.toUInt32 31)).toInt32 &&& 1431655765)) &&& 858993459) + ((((a - (((a).toUInt32 >>> ((1 : Int32).toUInt32 &&& Int32.toUInt32 31)).toInt32 &&& 1431655765))).toUInt32 >>> ((2 : Int32).toUInt32 &&& Int32.toUInt32 31)).toInt32 &&& 858993459)) + (((((a - (((a).toUInt32 >>> ((1 : Int32).toUInt32 &&& Int32.toUInt32 31)).toInt32 &&& 1431655765)) &&& 858993459) + ((((a - (((a).toUInt32 >>> ((1 : Int32).toUInt32 &&& Int32.toUInt32 31)).toInt32 &&& 1431655765))).toUInt32 >>> ((2 : Int32).toUInt32 &&& Int32.toUInt32 31)).toInt32 &&& 858993459))).toUInt32 >>> ((4 : Int32).toUInt32 &&& Int32.toUInt32 31)).toInt32) &&& 252645135) + (((((((a - (((a).toUInt32 >>> ((1 : Int32).toUInt32 &&& Int32.toUInt32 31)).toInt32 &&& 1431655765)) &&& 858993459) + ((((a - (((a).toUInt32 >>> ((1 : Int32).toUInt32 &&& Int32.toUInt32 31)).toInt32 &&& 1431655765))).toUInt32 >>> ((2 : Int32).toUInt32 &&& Int32.toUInt32 31)).toInt32 &&& 858993459)) + (((((a - (((a).toUInt32 >>> ((1 : Int32).toUInt32 &&& Int32.toUInt32 31)).toInt32 &&& 1431655765)) &&& 858993459) + ((((a - (((a).toUInt32 >>> ((1 : Int32).toUInt32 &&& Int32.toUInt32 31)).toInt32 &&& 1431655765))).toUInt32 >>> ((2 : Int32).toUInt32 &&& Int32.toUInt32 31)).toInt32 &&& 858993459))).toUInt32 >>> ((4 : Int32).toUInt32 &&& Int32.toUInt32 31)).toInt32) &&& 252645135)).toUInt32 >>> ((8 : Int32).toUInt32 &&& Int32.toUInt32 31)).toInt32)).toUInt32 >>> ((16 : Int32).toUInt32 &&& Int32.toUInt32 31)).toInt32) &&& 63)
abbrev rm_Int_bitCount : Room := { frames := 0, cells := 0, slots := 0, locals := 0 }
set_option maxHeartbeats 4000000 in
set_option maxRecDepth 100000 in
theorem c_Int_bitCount {l : Launch} {D : va_G} {n : Nat} {ad : Nat → Nat} {G : Nat → ClassId} {a : Int32}  {M : Mem} {x : Int32} (hf : f_Int_bitCount a = some x) : Met l y_Int_bitCount (wc y_Int_bitCount b_Int_bitCount 1 (some .int)) rm_Int_bitCount (va_Pc [.int a] (cB D n ad G M)) (rd_Q (some (.int x))) 0 0 (fun _ => False) := by
  refine k_met (by decide) (Nat.le_of_ble_eq_true rfl) ?_
  intro p e s m args below meth c S hr hlk hB ls hl
  obtain ⟨hx, hb, hml, hown, hts⟩ := id S
  obtain ⟨hP, hK, hA0⟩ := hB
  have hA := wl_own hA0
  have hl : lv_has ls 1 [(0, .int a)] := hl
  unfold f_Int_bitCount at hf
  refine lv_iload_n hx hb d_Int_bitCount_0 rfl (lv_at hl 0 rfl) ?_
  refine lv_iload_n hx hb d_Int_bitCount_1 rfl (lv_at hl 0 rfl) ?_
  refine lv_iconst (v := 1) hx hb d_Int_bitCount_2 (by decide) ?_
  refine lv_iushr (v := ((a).toUInt32 >>> ((1 : Int32).toUInt32 &&& Int32.toUInt32 31)).toInt32) hx hb d_Int_bitCount_3 rfl ?_
  refine lv_ldcw (v := 1431655765) hx hb hown (hts _ kc_Int_265) d_Int_bitCount_4 ?_
  refine lv_iand hx hb d_Int_bitCount_7 ?_
  refine lv_isub hx hb d_Int_bitCount_8 ?_
  refine lv_istore_n (lv' := [(0, .int (a - (((a).toUInt32 >>> ((1 : Int32).toUInt32 &&& Int32.toUInt32 31)).toInt32 &&& 1431655765)))]) hx hb d_Int_bitCount_9 rfl hl (by decide) rfl (fun ls hl => ?_)
  refine lv_iload_n hx hb d_Int_bitCount_10 rfl (lv_at hl 0 rfl) ?_
  refine lv_ldcw (v := 858993459) hx hb hown (hts _ kc_Int_266) d_Int_bitCount_11 ?_
  refine lv_iand hx hb d_Int_bitCount_14 ?_
  refine lv_iload_n hx hb d_Int_bitCount_15 rfl (lv_at hl 0 rfl) ?_
  refine lv_iconst (v := 2) hx hb d_Int_bitCount_16 (by decide) ?_
  refine lv_iushr (v := (((a - (((a).toUInt32 >>> ((1 : Int32).toUInt32 &&& Int32.toUInt32 31)).toInt32 &&& 1431655765))).toUInt32 >>> ((2 : Int32).toUInt32 &&& Int32.toUInt32 31)).toInt32) hx hb d_Int_bitCount_17 rfl ?_
  refine lv_ldcw (v := 858993459) hx hb hown (hts _ kc_Int_266) d_Int_bitCount_18 ?_
  refine lv_iand hx hb d_Int_bitCount_21 ?_
  refine lv_iadd hx hb d_Int_bitCount_22 ?_
  refine lv_istore_n (lv' := [(0, .int (((a - (((a).toUInt32 >>> ((1 : Int32).toUInt32 &&& Int32.toUInt32 31)).toInt32 &&& 1431655765)) &&& 858993459) + ((((a - (((a).toUInt32 >>> ((1 : Int32).toUInt32 &&& Int32.toUInt32 31)).toInt32 &&& 1431655765))).toUInt32 >>> ((2 : Int32).toUInt32 &&& Int32.toUInt32 31)).toInt32 &&& 858993459)))]) hx hb d_Int_bitCount_23 rfl hl (by decide) rfl (fun ls hl => ?_)
  refine lv_iload_n hx hb d_Int_bitCount_24 rfl (lv_at hl 0 rfl) ?_
  refine lv_iload_n hx hb d_Int_bitCount_25 rfl (lv_at hl 0 rfl) ?_
  refine lv_iconst (v := 4) hx hb d_Int_bitCount_26 (by decide) ?_
  refine lv_iushr (v := (((((a - (((a).toUInt32 >>> ((1 : Int32).toUInt32 &&& Int32.toUInt32 31)).toInt32 &&& 1431655765)) &&& 858993459) + ((((a - (((a).toUInt32 >>> ((1 : Int32).toUInt32 &&& Int32.toUInt32 31)).toInt32 &&& 1431655765))).toUInt32 >>> ((2 : Int32).toUInt32 &&& Int32.toUInt32 31)).toInt32 &&& 858993459))).toUInt32 >>> ((4 : Int32).toUInt32 &&& Int32.toUInt32 31)).toInt32) hx hb d_Int_bitCount_27 rfl ?_
  refine lv_iadd hx hb d_Int_bitCount_28 ?_
  refine lv_ldcw (v := 252645135) hx hb hown (hts _ kc_Int_267) d_Int_bitCount_29 ?_
  refine lv_iand hx hb d_Int_bitCount_32 ?_
  refine lv_istore_n (lv' := [(0, .int (((((a - (((a).toUInt32 >>> ((1 : Int32).toUInt32 &&& Int32.toUInt32 31)).toInt32 &&& 1431655765)) &&& 858993459) + ((((a - (((a).toUInt32 >>> ((1 : Int32).toUInt32 &&& Int32.toUInt32 31)).toInt32 &&& 1431655765))).toUInt32 >>> ((2 : Int32).toUInt32 &&& Int32.toUInt32 31)).toInt32 &&& 858993459)) + (((((a - (((a).toUInt32 >>> ((1 : Int32).toUInt32 &&& Int32.toUInt32 31)).toInt32 &&& 1431655765)) &&& 858993459) + ((((a - (((a).toUInt32 >>> ((1 : Int32).toUInt32 &&& Int32.toUInt32 31)).toInt32 &&& 1431655765))).toUInt32 >>> ((2 : Int32).toUInt32 &&& Int32.toUInt32 31)).toInt32 &&& 858993459))).toUInt32 >>> ((4 : Int32).toUInt32 &&& Int32.toUInt32 31)).toInt32) &&& 252645135))]) hx hb d_Int_bitCount_33 rfl hl (by decide) rfl (fun ls hl => ?_)
  refine lv_iload_n hx hb d_Int_bitCount_34 rfl (lv_at hl 0 rfl) ?_
  refine lv_iload_n hx hb d_Int_bitCount_35 rfl (lv_at hl 0 rfl) ?_
  refine lv_bipush (v := 8) hx hb d_Int_bitCount_36 (by decide) ?_
  refine lv_iushr (v := (((((((a - (((a).toUInt32 >>> ((1 : Int32).toUInt32 &&& Int32.toUInt32 31)).toInt32 &&& 1431655765)) &&& 858993459) + ((((a - (((a).toUInt32 >>> ((1 : Int32).toUInt32 &&& Int32.toUInt32 31)).toInt32 &&& 1431655765))).toUInt32 >>> ((2 : Int32).toUInt32 &&& Int32.toUInt32 31)).toInt32 &&& 858993459)) + (((((a - (((a).toUInt32 >>> ((1 : Int32).toUInt32 &&& Int32.toUInt32 31)).toInt32 &&& 1431655765)) &&& 858993459) + ((((a - (((a).toUInt32 >>> ((1 : Int32).toUInt32 &&& Int32.toUInt32 31)).toInt32 &&& 1431655765))).toUInt32 >>> ((2 : Int32).toUInt32 &&& Int32.toUInt32 31)).toInt32 &&& 858993459))).toUInt32 >>> ((4 : Int32).toUInt32 &&& Int32.toUInt32 31)).toInt32) &&& 252645135)).toUInt32 >>> ((8 : Int32).toUInt32 &&& Int32.toUInt32 31)).toInt32) hx hb d_Int_bitCount_38 rfl ?_
  refine lv_iadd hx hb d_Int_bitCount_39 ?_
  refine lv_istore_n (lv' := [(0, .int ((((((a - (((a).toUInt32 >>> ((1 : Int32).toUInt32 &&& Int32.toUInt32 31)).toInt32 &&& 1431655765)) &&& 858993459) + ((((a - (((a).toUInt32 >>> ((1 : Int32).toUInt32 &&& Int32.toUInt32 31)).toInt32 &&& 1431655765))).toUInt32 >>> ((2 : Int32).toUInt32 &&& Int32.toUInt32 31)).toInt32 &&& 858993459)) + (((((a - (((a).toUInt32 >>> ((1 : Int32).toUInt32 &&& Int32.toUInt32 31)).toInt32 &&& 1431655765)) &&& 858993459) + ((((a - (((a).toUInt32 >>> ((1 : Int32).toUInt32 &&& Int32.toUInt32 31)).toInt32 &&& 1431655765))).toUInt32 >>> ((2 : Int32).toUInt32 &&& Int32.toUInt32 31)).toInt32 &&& 858993459))).toUInt32 >>> ((4 : Int32).toUInt32 &&& Int32.toUInt32 31)).toInt32) &&& 252645135) + (((((((a - (((a).toUInt32 >>> ((1 : Int32).toUInt32 &&& Int32.toUInt32 31)).toInt32 &&& 1431655765)) &&& 858993459) + ((((a - (((a).toUInt32 >>> ((1 : Int32).toUInt32 &&& Int32.toUInt32 31)).toInt32 &&& 1431655765))).toUInt32 >>> ((2 : Int32).toUInt32 &&& Int32.toUInt32 31)).toInt32 &&& 858993459)) + (((((a - (((a).toUInt32 >>> ((1 : Int32).toUInt32 &&& Int32.toUInt32 31)).toInt32 &&& 1431655765)) &&& 858993459) + ((((a - (((a).toUInt32 >>> ((1 : Int32).toUInt32 &&& Int32.toUInt32 31)).toInt32 &&& 1431655765))).toUInt32 >>> ((2 : Int32).toUInt32 &&& Int32.toUInt32 31)).toInt32 &&& 858993459))).toUInt32 >>> ((4 : Int32).toUInt32 &&& Int32.toUInt32 31)).toInt32) &&& 252645135)).toUInt32 >>> ((8 : Int32).toUInt32 &&& Int32.toUInt32 31)).toInt32))]) hx hb d_Int_bitCount_40 rfl hl (by decide) rfl (fun ls hl => ?_)
  refine lv_iload_n hx hb d_Int_bitCount_41 rfl (lv_at hl 0 rfl) ?_
  refine lv_iload_n hx hb d_Int_bitCount_42 rfl (lv_at hl 0 rfl) ?_
  refine lv_bipush (v := 16) hx hb d_Int_bitCount_43 (by decide) ?_
  refine lv_iushr (v := ((((((((a - (((a).toUInt32 >>> ((1 : Int32).toUInt32 &&& Int32.toUInt32 31)).toInt32 &&& 1431655765)) &&& 858993459) + ((((a - (((a).toUInt32 >>> ((1 : Int32).toUInt32 &&& Int32.toUInt32 31)).toInt32 &&& 1431655765))).toUInt32 >>> ((2 : Int32).toUInt32 &&& Int32.toUInt32 31)).toInt32 &&& 858993459)) + (((((a - (((a).toUInt32 >>> ((1 : Int32).toUInt32 &&& Int32.toUInt32 31)).toInt32 &&& 1431655765)) &&& 858993459) + ((((a - (((a).toUInt32 >>> ((1 : Int32).toUInt32 &&& Int32.toUInt32 31)).toInt32 &&& 1431655765))).toUInt32 >>> ((2 : Int32).toUInt32 &&& Int32.toUInt32 31)).toInt32 &&& 858993459))).toUInt32 >>> ((4 : Int32).toUInt32 &&& Int32.toUInt32 31)).toInt32) &&& 252645135) + (((((((a - (((a).toUInt32 >>> ((1 : Int32).toUInt32 &&& Int32.toUInt32 31)).toInt32 &&& 1431655765)) &&& 858993459) + ((((a - (((a).toUInt32 >>> ((1 : Int32).toUInt32 &&& Int32.toUInt32 31)).toInt32 &&& 1431655765))).toUInt32 >>> ((2 : Int32).toUInt32 &&& Int32.toUInt32 31)).toInt32 &&& 858993459)) + (((((a - (((a).toUInt32 >>> ((1 : Int32).toUInt32 &&& Int32.toUInt32 31)).toInt32 &&& 1431655765)) &&& 858993459) + ((((a - (((a).toUInt32 >>> ((1 : Int32).toUInt32 &&& Int32.toUInt32 31)).toInt32 &&& 1431655765))).toUInt32 >>> ((2 : Int32).toUInt32 &&& Int32.toUInt32 31)).toInt32 &&& 858993459))).toUInt32 >>> ((4 : Int32).toUInt32 &&& Int32.toUInt32 31)).toInt32) &&& 252645135)).toUInt32 >>> ((8 : Int32).toUInt32 &&& Int32.toUInt32 31)).toInt32)).toUInt32 >>> ((16 : Int32).toUInt32 &&& Int32.toUInt32 31)).toInt32) hx hb d_Int_bitCount_45 rfl ?_
  refine lv_iadd hx hb d_Int_bitCount_46 ?_
  refine lv_istore_n (lv' := [(0, .int (((((((a - (((a).toUInt32 >>> ((1 : Int32).toUInt32 &&& Int32.toUInt32 31)).toInt32 &&& 1431655765)) &&& 858993459) + ((((a - (((a).toUInt32 >>> ((1 : Int32).toUInt32 &&& Int32.toUInt32 31)).toInt32 &&& 1431655765))).toUInt32 >>> ((2 : Int32).toUInt32 &&& Int32.toUInt32 31)).toInt32 &&& 858993459)) + (((((a - (((a).toUInt32 >>> ((1 : Int32).toUInt32 &&& Int32.toUInt32 31)).toInt32 &&& 1431655765)) &&& 858993459) + ((((a - (((a).toUInt32 >>> ((1 : Int32).toUInt32 &&& Int32.toUInt32 31)).toInt32 &&& 1431655765))).toUInt32 >>> ((2 : Int32).toUInt32 &&& Int32.toUInt32 31)).toInt32 &&& 858993459))).toUInt32 >>> ((4 : Int32).toUInt32 &&& Int32.toUInt32 31)).toInt32) &&& 252645135) + (((((((a - (((a).toUInt32 >>> ((1 : Int32).toUInt32 &&& Int32.toUInt32 31)).toInt32 &&& 1431655765)) &&& 858993459) + ((((a - (((a).toUInt32 >>> ((1 : Int32).toUInt32 &&& Int32.toUInt32 31)).toInt32 &&& 1431655765))).toUInt32 >>> ((2 : Int32).toUInt32 &&& Int32.toUInt32 31)).toInt32 &&& 858993459)) + (((((a - (((a).toUInt32 >>> ((1 : Int32).toUInt32 &&& Int32.toUInt32 31)).toInt32 &&& 1431655765)) &&& 858993459) + ((((a - (((a).toUInt32 >>> ((1 : Int32).toUInt32 &&& Int32.toUInt32 31)).toInt32 &&& 1431655765))).toUInt32 >>> ((2 : Int32).toUInt32 &&& Int32.toUInt32 31)).toInt32 &&& 858993459))).toUInt32 >>> ((4 : Int32).toUInt32 &&& Int32.toUInt32 31)).toInt32) &&& 252645135)).toUInt32 >>> ((8 : Int32).toUInt32 &&& Int32.toUInt32 31)).toInt32) + ((((((((a - (((a).toUInt32 >>> ((1 : Int32).toUInt32 &&& Int32.toUInt32 31)).toInt32 &&& 1431655765)) &&& 858993459) + ((((a - (((a).toUInt32 >>> ((1 : Int32).toUInt32 &&& Int32.toUInt32 31)).toInt32 &&& 1431655765))).toUInt32 >>> ((2 : Int32).toUInt32 &&& Int32.toUInt32 31)).toInt32 &&& 858993459)) + (((((a - (((a).toUInt32 >>> ((1 : Int32).toUInt32 &&& Int32.toUInt32 31)).toInt32 &&& 1431655765)) &&& 858993459) + ((((a - (((a).toUInt32 >>> ((1 : Int32).toUInt32 &&& Int32.toUInt32 31)).toInt32 &&& 1431655765))).toUInt32 >>> ((2 : Int32).toUInt32 &&& Int32.toUInt32 31)).toInt32 &&& 858993459))).toUInt32 >>> ((4 : Int32).toUInt32 &&& Int32.toUInt32 31)).toInt32) &&& 252645135) + (((((((a - (((a).toUInt32 >>> ((1 : Int32).toUInt32 &&& Int32.toUInt32 31)).toInt32 &&& 1431655765)) &&& 858993459) + ((((a - (((a).toUInt32 >>> ((1 : Int32).toUInt32 &&& Int32.toUInt32 31)).toInt32 &&& 1431655765))).toUInt32 >>> ((2 : Int32).toUInt32 &&& Int32.toUInt32 31)).toInt32 &&& 858993459)) + (((((a - (((a).toUInt32 >>> ((1 : Int32).toUInt32 &&& Int32.toUInt32 31)).toInt32 &&& 1431655765)) &&& 858993459) + ((((a - (((a).toUInt32 >>> ((1 : Int32).toUInt32 &&& Int32.toUInt32 31)).toInt32 &&& 1431655765))).toUInt32 >>> ((2 : Int32).toUInt32 &&& Int32.toUInt32 31)).toInt32 &&& 858993459))).toUInt32 >>> ((4 : Int32).toUInt32 &&& Int32.toUInt32 31)).toInt32) &&& 252645135)).toUInt32 >>> ((8 : Int32).toUInt32 &&& Int32.toUInt32 31)).toInt32)).toUInt32 >>> ((16 : Int32).toUInt32 &&& Int32.toUInt32 31)).toInt32))]) hx hb d_Int_bitCount_47 rfl hl (by decide) rfl (fun ls hl => ?_)
  refine lv_iload_n hx hb d_Int_bitCount_48 rfl (lv_at hl 0 rfl) ?_
  refine lv_bipush (v := 63) hx hb d_Int_bitCount_49 (by decide) ?_
  refine lv_iand hx hb d_Int_bitCount_51 ?_
  cases hf
  exact r_iret hx hb hr hlk d_Int_bitCount_52
def f_Router_takenCount (n : Nat) (r : Nat) (M : Mem) : Option (Int32) :=
  (f_Router_takenBits n r M).bind fun r1 => (f_Int_bitCount r1).bind fun r4 => some r4
abbrev rm_Router_takenCount : Room := { frames := 1, cells := 0, slots := 0, locals := 22 }
set_option maxHeartbeats 4000000 in
set_option maxRecDepth 100000 in
theorem c_Router_takenCount {l : Launch} {D : va_G} {n : Nat} {ad : Nat → Nat} {G : Nat → ClassId} {r : Nat} (hp_r : r < n) {M : Mem} {x : Int32} (hf : f_Router_takenCount n r M = some x) : Met l y_Router_takenCount (wc y_Router_takenCount b_Router_takenCount 1 (some .int)) rm_Router_takenCount (va_Pc [.ref (ad (16 + 11 * r + 1))] (cB D n ad G M)) (rd_Q (some (.int x))) 0 0 (fun _ => False) := by
  refine k_met (by decide) (Nat.le_of_ble_eq_true rfl) ?_
  intro p e s m args below meth c S hr hlk hB ls hl
  obtain ⟨hx, hb, hml, hown, hts⟩ := id S
  obtain ⟨hP, hK, hA0⟩ := hB
  have hA := wl_own hA0
  have hl : lv_has ls 1 [(0, .ref (ad (16 + 11 * r + 1)))] := hl
  unfold f_Router_takenCount at hf
  refine lv_aload_n hx hb d_Router_takenCount_0 rfl (lv_at hl 0 rfl) ?_
  obtain ⟨r1, hc1, hf⟩ := ob hf
  refine k_rdi (k_vir S (c_Router_takenBits (l := l) (D := D) (n := n) (ad := ad) (G := G) hp_r hc1) g_Router_23 hd_Router_takenBits ⟨rfl, rfl⟩ ⟨Nat.le_of_ble_eq_true rfl, Nat.le_of_ble_eq_true rfl⟩ wl_blind (va_recv hK hP rfl (wl_to (RT_lt hp_r) (RT_at hp_r))) (wl_pre hP hK hA) rfl hl.1 rfl (Nat.le_of_ble_eq_true rfl) d_Router_takenCount_1 (Nat.zero_le _) (Nat.zero_le _)) ?_
  obtain ⟨r4, hc4, hf⟩ := ob hf
  refine k_rdi (k_sta S (c_Int_bitCount (l := l) (D := D) (n := n) (ad := ad) (G := G) hc4) g_Router_27 hd_Int_bitCount ⟨rfl, rfl⟩ ⟨Nat.le_of_ble_eq_true rfl, Nat.le_of_ble_eq_true rfl⟩ wl_blind (wl_pre hP hK hA) rfl hl.1 rfl (Nat.le_of_ble_eq_true rfl) d_Router_takenCount_4 (Nat.zero_le _) (Nat.zero_le _)) ?_
  cases hf
  exact r_iret hx hb hr hlk d_Router_takenCount_7
def f_Router_awaitRelease (n : Nat) (r : Nat) (a : Int32) (b : Int32) (M : Mem) : Option (Mem) :=
  (ix (a - 16) 8).bind fun j9 => (ix (a - 16) 8).bind fun j14 => some (mset M 20 r 0 j14 ((M 20 r 0 j9) ||| (1 <<< (b &&& 31))))
abbrev rm_Router_awaitRelease : Room := { frames := 0, cells := 0, slots := 0, locals := 0 }
set_option maxHeartbeats 4000000 in
set_option maxRecDepth 100000 in
theorem c_Router_awaitRelease {l : Launch} {D : va_G} {n : Nat} {ad : Nat → Nat} {G : Nat → ClassId} {r : Nat} {a : Int32} {b : Int32} (hp_r : r < n) {M : Mem} {x : Mem} (hf : f_Router_awaitRelease n r a b M = some x) : Met l y_Router_awaitRelease (wc y_Router_awaitRelease b_Router_awaitRelease 3 (none)) rm_Router_awaitRelease (va_Pc [.ref (ad (16 + 11 * r + 1)), .int a, .int b] (cB D n ad G M)) (wr_Q (none) D cls (cK n) ad (cE n ad G x)) 0 0 (wl_A (cK n) ad) := by
  refine k_met (by decide) (Nat.le_of_ble_eq_true rfl) ?_
  intro p e s m args below meth c S hr hlk hB ls hl
  obtain ⟨hx, hb, hml, hown, hts⟩ := id S
  obtain ⟨hP, hK, hA0⟩ := hB
  have hA := wl_own hA0
  have hl : lv_has ls 3 [(0, .ref (ad (16 + 11 * r + 1))), (1, .int a), (2, .int b)] := hl
  have hS : va_S (wl_A (cK n) ad) s.heap s.heap [] := va_S.rf
  unfold f_Router_awaitRelease at hf
  refine lv_aload_n hx hb d_Router_awaitRelease_0 rfl (lv_at hl 0 rfl) ?_
  refine va_get (D := D) (ci := 3) (v := .ref (ad (16 + 11 * r + 4))) (C := R_Router) (T := F_Router) (N := 3) hx hb hts in_Router hown hK hP (16 + 11 * r + 1) (wl_to (RT_lt hp_r) (RT_at hp_r)) rfl 2 (by decide) (hts _ fl_Router_20) (fun _ h => h) rfl d_Router_awaitRelease_1 ?_
  refine lv_iload_n hx hb d_Router_awaitRelease_4 rfl (lv_at hl 1 rfl) ?_
  refine lv_bipush (v := 16) hx hb d_Router_awaitRelease_5 (by decide) ?_
  refine lv_isub hx hb d_Router_awaitRelease_7 ?_
  refine lv_dup2_11 hx hb d_Router_awaitRelease_8 rfl rfl ?_
  obtain ⟨j9, hj9, hf⟩ := ob hf
  refine k_iald hx hb hK hP (16 + 11 * r + 4) 0 (AW_lt hp_r) (AW_at hp_r) rfl hj9 d_Router_awaitRelease_9 ?_
  refine lv_iconst (v := 1) hx hb d_Router_awaitRelease_10 (by decide) ?_
  refine lv_iload_n hx hb d_Router_awaitRelease_11 rfl (lv_at hl 2 rfl) ?_
  refine lv_ishl hx hb d_Router_awaitRelease_12 ?_
  refine lv_ior hx hb d_Router_awaitRelease_13 ?_
  obtain ⟨j14, hj14, hf⟩ := ob hf
  refine m_iast (x := ((M 20 r 0 j9) ||| (1 <<< (b &&& 31)))) hx hb hK hP hA hS cJ (16 + 11 * r + 4) 0 (AW_lt hp_r) (AW_tg hp_r) (fun f => AW_row f hp_r) rfl hj14 d_Router_awaitRelease_14 (fun H locs hP hS => ?_)
  cases hf
  exact w_vret hx hb hr hlk hP hS d_Router_awaitRelease_15
def f_Router_endRelease (n : Nat) (r : Nat) (a : Int32) (b : Int32) (M : Mem) : Option (Mem) :=
  (ix (a - 16) 8).bind fun j9 => (ix (a - 16) 8).bind fun j16 => some (mset M 20 r 0 j16 ((M 20 r 0 j9) &&& ((1 <<< (b &&& 31)) ^^^ (-1))))
abbrev rm_Router_endRelease : Room := { frames := 0, cells := 0, slots := 0, locals := 0 }
set_option maxHeartbeats 4000000 in
set_option maxRecDepth 100000 in
theorem c_Router_endRelease {l : Launch} {D : va_G} {n : Nat} {ad : Nat → Nat} {G : Nat → ClassId} {r : Nat} {a : Int32} {b : Int32} (hp_r : r < n) {M : Mem} {x : Mem} (hf : f_Router_endRelease n r a b M = some x) : Met l y_Router_endRelease (wc y_Router_endRelease b_Router_endRelease 3 (none)) rm_Router_endRelease (va_Pc [.ref (ad (16 + 11 * r + 1)), .int a, .int b] (cB D n ad G M)) (wr_Q (none) D cls (cK n) ad (cE n ad G x)) 0 0 (wl_A (cK n) ad) := by
  refine k_met (by decide) (Nat.le_of_ble_eq_true rfl) ?_
  intro p e s m args below meth c S hr hlk hB ls hl
  obtain ⟨hx, hb, hml, hown, hts⟩ := id S
  obtain ⟨hP, hK, hA0⟩ := hB
  have hA := wl_own hA0
  have hl : lv_has ls 3 [(0, .ref (ad (16 + 11 * r + 1))), (1, .int a), (2, .int b)] := hl
  have hS : va_S (wl_A (cK n) ad) s.heap s.heap [] := va_S.rf
  unfold f_Router_endRelease at hf
  refine lv_aload_n hx hb d_Router_endRelease_0 rfl (lv_at hl 0 rfl) ?_
  refine va_get (D := D) (ci := 3) (v := .ref (ad (16 + 11 * r + 4))) (C := R_Router) (T := F_Router) (N := 3) hx hb hts in_Router hown hK hP (16 + 11 * r + 1) (wl_to (RT_lt hp_r) (RT_at hp_r)) rfl 2 (by decide) (hts _ fl_Router_20) (fun _ h => h) rfl d_Router_endRelease_1 ?_
  refine lv_iload_n hx hb d_Router_endRelease_4 rfl (lv_at hl 1 rfl) ?_
  refine lv_bipush (v := 16) hx hb d_Router_endRelease_5 (by decide) ?_
  refine lv_isub hx hb d_Router_endRelease_7 ?_
  refine lv_dup2_11 hx hb d_Router_endRelease_8 rfl rfl ?_
  obtain ⟨j9, hj9, hf⟩ := ob hf
  refine k_iald hx hb hK hP (16 + 11 * r + 4) 0 (AW_lt hp_r) (AW_at hp_r) rfl hj9 d_Router_endRelease_9 ?_
  refine lv_iconst (v := 1) hx hb d_Router_endRelease_10 (by decide) ?_
  refine lv_iload_n hx hb d_Router_endRelease_11 rfl (lv_at hl 2 rfl) ?_
  refine lv_ishl hx hb d_Router_endRelease_12 ?_
  refine lv_iconst (v := (-1)) hx hb d_Router_endRelease_13 (by decide) ?_
  refine lv_ixor hx hb d_Router_endRelease_14 ?_
  refine lv_iand hx hb d_Router_endRelease_15 ?_
  obtain ⟨j16, hj16, hf⟩ := ob hf
  refine m_iast (x := ((M 20 r 0 j9) &&& ((1 <<< (b &&& 31)) ^^^ (-1)))) hx hb hK hP hA hS cJ (16 + 11 * r + 4) 0 (AW_lt hp_r) (AW_tg hp_r) (fun f => AW_row f hp_r) rfl hj16 d_Router_endRelease_16 (fun H locs hP hS => ?_)
  cases hf
  exact w_vret hx hb hr hlk hP hS d_Router_endRelease_17
def f_Router_toldBy (n : Nat) (r : Nat) (a : Int32) (b : Int32) (M : Mem) : Option (Int32) :=
  (ix a 6).bind fun j5 => (ix b 4).bind fun j7 => some (M 21 r j5 j7)
abbrev rm_Router_toldBy : Room := { frames := 0, cells := 0, slots := 0, locals := 0 }
set_option maxHeartbeats 4000000 in
set_option maxRecDepth 100000 in
theorem c_Router_toldBy {l : Launch} {D : va_G} {n : Nat} {ad : Nat → Nat} {G : Nat → ClassId} {r : Nat} {a : Int32} {b : Int32} (hp_r : r < n) {M : Mem} {x : Int32} (hf : f_Router_toldBy n r a b M = some x) : Met l y_Router_toldBy (wc y_Router_toldBy b_Router_toldBy 3 (some .int)) rm_Router_toldBy (va_Pc [.ref (ad (16 + 11 * r + 1)), .int a, .int b] (cB D n ad G M)) (rd_Q (some (.int x))) 0 0 (fun _ => False) := by
  refine k_met (by decide) (Nat.le_of_ble_eq_true rfl) ?_
  intro p e s m args below meth c S hr hlk hB ls hl
  obtain ⟨hx, hb, hml, hown, hts⟩ := id S
  obtain ⟨hP, hK, hA0⟩ := hB
  have hA := wl_own hA0
  have hl : lv_has ls 3 [(0, .ref (ad (16 + 11 * r + 1))), (1, .int a), (2, .int b)] := hl
  unfold f_Router_toldBy at hf
  refine lv_aload_n hx hb d_Router_toldBy_0 rfl (lv_at hl 0 rfl) ?_
  refine va_get (D := D) (ci := 3) (v := .ref (ad (16 + 11 * r + 3))) (C := R_Router) (T := F_Router) (N := 3) hx hb hts in_Router hown hK hP (16 + 11 * r + 1) (wl_to (RT_lt hp_r) (RT_at hp_r)) rfl 1 (by decide) (hts _ fl_Router_17) (fun _ h => h) rfl d_Router_toldBy_1 ?_
  refine lv_iload_n hx hb d_Router_toldBy_4 rfl (lv_at hl 1 rfl) ?_
  obtain ⟨j5, hj5, hf⟩ := ob hf
  refine k_rald hx hb hK hP (16 + 11 * r + 3) 1 (TO_lt hp_r) (TO_at hp_r) rfl hj5 rfl d_Router_toldBy_5 ?_
  refine lv_iload_n hx hb d_Router_toldBy_6 rfl (lv_at hl 2 rfl) ?_
  obtain ⟨j7, hj7, hf⟩ := ob hf
  refine k_iald hx hb hK hP (16 + 11 * r + (j5 + 5)) 0 (TD_lt hp_r (ix_lt hj5)) (TD_at hp_r (ix_lt hj5)) rfl hj7 d_Router_toldBy_7 ?_
  cases hf
  exact r_iret hx hb hr hlk d_Router_toldBy_8
def f_Router_hear (n : Nat) (r : Nat) (a : Int32) (b : Int32) (z : Int32) (M : Mem) : Option (Mem) :=
  (ix a 6).bind fun j5 => (ix b 4).bind fun j8 => some (mset M 21 r j5 j8 z)
abbrev rm_Router_hear : Room := { frames := 0, cells := 0, slots := 0, locals := 0 }
set_option maxHeartbeats 4000000 in
set_option maxRecDepth 100000 in
theorem c_Router_hear {l : Launch} {D : va_G} {n : Nat} {ad : Nat → Nat} {G : Nat → ClassId} {r : Nat} {a : Int32} {b : Int32} {z : Int32} (hp_r : r < n) {M : Mem} {x : Mem} (hf : f_Router_hear n r a b z M = some x) : Met l y_Router_hear (wc y_Router_hear b_Router_hear 4 (none)) rm_Router_hear (va_Pc [.ref (ad (16 + 11 * r + 1)), .int a, .int b, .int z] (cB D n ad G M)) (wr_Q (none) D cls (cK n) ad (cE n ad G x)) 0 0 (wl_A (cK n) ad) := by
  refine k_met (by decide) (Nat.le_of_ble_eq_true rfl) ?_
  intro p e s m args below meth c S hr hlk hB ls hl
  obtain ⟨hx, hb, hml, hown, hts⟩ := id S
  obtain ⟨hP, hK, hA0⟩ := hB
  have hA := wl_own hA0
  have hl : lv_has ls 4 [(0, .ref (ad (16 + 11 * r + 1))), (1, .int a), (2, .int b), (3, .int z)] := hl
  have hS : va_S (wl_A (cK n) ad) s.heap s.heap [] := va_S.rf
  unfold f_Router_hear at hf
  refine lv_aload_n hx hb d_Router_hear_0 rfl (lv_at hl 0 rfl) ?_
  refine va_get (D := D) (ci := 3) (v := .ref (ad (16 + 11 * r + 3))) (C := R_Router) (T := F_Router) (N := 3) hx hb hts in_Router hown hK hP (16 + 11 * r + 1) (wl_to (RT_lt hp_r) (RT_at hp_r)) rfl 1 (by decide) (hts _ fl_Router_17) (fun _ h => h) rfl d_Router_hear_1 ?_
  refine lv_iload_n hx hb d_Router_hear_4 rfl (lv_at hl 1 rfl) ?_
  obtain ⟨j5, hj5, hf⟩ := ob hf
  refine k_rald hx hb hK hP (16 + 11 * r + 3) 1 (TO_lt hp_r) (TO_at hp_r) rfl hj5 rfl d_Router_hear_5 ?_
  refine lv_iload_n hx hb d_Router_hear_6 rfl (lv_at hl 2 rfl) ?_
  refine lv_iload_n hx hb d_Router_hear_7 rfl (lv_at hl 3 rfl) ?_
  obtain ⟨j8, hj8, hf⟩ := ob hf
  refine m_iast (x := z) hx hb hK hP hA hS cJ (16 + 11 * r + (j5 + 5)) 0 (TD_lt hp_r (ix_lt hj5)) (TD_tg hp_r (ix_lt hj5)) (fun f => TD_row f hp_r (ix_lt hj5)) rfl hj8 d_Router_hear_8 (fun H locs hP hS => ?_)
  cases hf
  exact w_vret hx hb hr hlk hP hS d_Router_hear_9
def f_Router_unhear (n : Nat) (r : Nat) (a : Int32) (b : Int32) (z : Int32) (M : Mem) : Option (Mem) :=
  (ix a 6).bind fun j5 => (ix b 4).bind fun j7 => if (M 21 r j5 j7) = z then ((ix a 6).bind fun j17 => (ix b 4).bind fun j20 => some (mset M 21 r j17 j20 0)) else (some M)
abbrev rm_Router_unhear : Room := { frames := 0, cells := 0, slots := 0, locals := 0 }
set_option maxHeartbeats 4000000 in
set_option maxRecDepth 100000 in
theorem c_Router_unhear {l : Launch} {D : va_G} {n : Nat} {ad : Nat → Nat} {G : Nat → ClassId} {r : Nat} {a : Int32} {b : Int32} {z : Int32} (hp_r : r < n) {M : Mem} {x : Mem} (hf : f_Router_unhear n r a b z M = some x) : Met l y_Router_unhear (wc y_Router_unhear b_Router_unhear 4 (none)) rm_Router_unhear (va_Pc [.ref (ad (16 + 11 * r + 1)), .int a, .int b, .int z] (cB D n ad G M)) (wr_Q (none) D cls (cK n) ad (cE n ad G x)) 0 0 (wl_A (cK n) ad) := by
  refine k_met (by decide) (Nat.le_of_ble_eq_true rfl) ?_
  intro p e s m args below meth c S hr hlk hB ls hl
  obtain ⟨hx, hb, hml, hown, hts⟩ := id S
  obtain ⟨hP, hK, hA0⟩ := hB
  have hA := wl_own hA0
  have hl : lv_has ls 4 [(0, .ref (ad (16 + 11 * r + 1))), (1, .int a), (2, .int b), (3, .int z)] := hl
  have hS : va_S (wl_A (cK n) ad) s.heap s.heap [] := va_S.rf
  unfold f_Router_unhear at hf
  refine lv_aload_n hx hb d_Router_unhear_0 rfl (lv_at hl 0 rfl) ?_
  refine va_get (D := D) (ci := 3) (v := .ref (ad (16 + 11 * r + 3))) (C := R_Router) (T := F_Router) (N := 3) hx hb hts in_Router hown hK hP (16 + 11 * r + 1) (wl_to (RT_lt hp_r) (RT_at hp_r)) rfl 1 (by decide) (hts _ fl_Router_17) (fun _ h => h) rfl d_Router_unhear_1 ?_
  refine lv_iload_n hx hb d_Router_unhear_4 rfl (lv_at hl 1 rfl) ?_
  obtain ⟨j5, hj5, hf⟩ := ob hf
  refine k_rald hx hb hK hP (16 + 11 * r + 3) 1 (TO_lt hp_r) (TO_at hp_r) rfl hj5 rfl d_Router_unhear_5 ?_
  refine lv_iload_n hx hb d_Router_unhear_6 rfl (lv_at hl 2 rfl) ?_
  obtain ⟨j7, hj7, hf⟩ := ob hf
  refine k_iald hx hb hK hP (16 + 11 * r + (j5 + 5)) 0 (TD_lt hp_r (ix_lt hj5)) (TD_at hp_r (ix_lt hj5)) rfl hj7 d_Router_unhear_7 ?_
  refine lv_iload_n hx hb d_Router_unhear_8 rfl (lv_at hl 3 rfl) ?_
  refine lv_icmp_ne (tgt := 21) hx hb d_Router_unhear_9 (by decide) (fun h9 => ?_) (fun h9 => ?_)
  · rw [if_neg h9] at hf
    cases hf
    exact w_vret hx hb hr hlk hP hS d_Router_unhear_21
  · rw [if_pos h9] at hf
    refine lv_aload_n hx hb d_Router_unhear_12 rfl (lv_at hl 0 rfl) ?_
    refine va_get (D := D) (ci := 3) (v := .ref (ad (16 + 11 * r + 3))) (C := R_Router) (T := F_Router) (N := 3) hx hb hts in_Router hown hK hP (16 + 11 * r + 1) (wl_to (RT_lt hp_r) (RT_at hp_r)) rfl 1 (by decide) (hts _ fl_Router_17) (fun _ h => h) rfl d_Router_unhear_13 ?_
    refine lv_iload_n hx hb d_Router_unhear_16 rfl (lv_at hl 1 rfl) ?_
    obtain ⟨j17, hj17, hf⟩ := ob hf
    refine k_rald hx hb hK hP (16 + 11 * r + 3) 1 (TO_lt hp_r) (TO_at hp_r) rfl hj17 rfl d_Router_unhear_17 ?_
    refine lv_iload_n hx hb d_Router_unhear_18 rfl (lv_at hl 2 rfl) ?_
    refine lv_iconst (v := 0) hx hb d_Router_unhear_19 (by decide) ?_
    obtain ⟨j20, hj20, hf⟩ := ob hf
    refine m_iast (x := 0) hx hb hK hP hA hS cJ (16 + 11 * r + (j17 + 5)) 0 (TD_lt hp_r (ix_lt hj17)) (TD_tg hp_r (ix_lt hj17)) (fun f => TD_row f hp_r (ix_lt hj17)) rfl hj20 d_Router_unhear_20 (fun H locs hP hS => ?_)
    cases hf
    exact w_vret hx hb hr hlk hP hS d_Router_unhear_21
def f_Router_forget_12 (n : Nat) (r : Nat) (a : Int32) : Nat → Int32 → Mem → Option (Mem)
  | 0, _, _ => none
  | k12 + 1, v2_12, N12 =>
    if 8 ≤ v2_12 then (some N12) else ((f_Router_endRelease n r (16 + v2_12) a N12).bind fun r24 => f_Router_forget_12 n r a k12 (v2_12 + 1) r24)
def f_Router_forget (n : Nat) (r : Nat) (a : Int32) (M : Mem) : Option (Mem) :=
  (ix a 6).bind fun j5 => (f_Arr_fillT n r j5 0 M).bind fun r7 => f_Router_forget_12 n r a 1000 0 r7
abbrev rm_Router_forget : Room := { frames := 1, cells := 0, slots := 0, locals := 23 }
set_option maxHeartbeats 4000000 in
set_option maxRecDepth 100000 in
theorem c_Router_forget {l : Launch} {D : va_G} {n : Nat} {ad : Nat → Nat} {G : Nat → ClassId} {r : Nat} {a : Int32} (hp_r : r < n) {M : Mem} {x : Mem} (hf : f_Router_forget n r a M = some x) : Met l y_Router_forget (wc y_Router_forget b_Router_forget 3 (none)) rm_Router_forget (va_Pc [.ref (ad (16 + 11 * r + 1)), .int a] (cB D n ad G M)) (wr_Q (none) D cls (cK n) ad (cE n ad G x)) 0 0 (wl_A (cK n) ad) := by
  refine k_met (by decide) (Nat.le_of_ble_eq_true rfl) ?_
  intro p e s m args below meth c S hr hlk hB ls hl
  obtain ⟨hx, hb, hml, hown, hts⟩ := id S
  obtain ⟨hP, hK, hA0⟩ := hB
  have hA := wl_own hA0
  have hl : lv_has ls 3 [(0, .ref (ad (16 + 11 * r + 1))), (1, .int a)] := hl
  have hS : va_S (wl_A (cK n) ad) s.heap s.heap [] := va_S.rf
  unfold f_Router_forget at hf
  refine lv_aload_n hx hb d_Router_forget_0 rfl (lv_at hl 0 rfl) ?_
  refine va_get (D := D) (ci := 3) (v := .ref (ad (16 + 11 * r + 3))) (C := R_Router) (T := F_Router) (N := 3) hx hb hts in_Router hown hK hP (16 + 11 * r + 1) (wl_to (RT_lt hp_r) (RT_at hp_r)) rfl 1 (by decide) (hts _ fl_Router_17) (fun _ h => h) rfl d_Router_forget_1 ?_
  refine lv_iload_n hx hb d_Router_forget_4 rfl (lv_at hl 1 rfl) ?_
  obtain ⟨j5, hj5, hf⟩ := ob hf
  refine k_rald hx hb hK hP (16 + 11 * r + 3) 1 (TO_lt hp_r) (TO_at hp_r) rfl hj5 rfl d_Router_forget_5 ?_
  refine lv_iconst (v := 0) hx hb d_Router_forget_6 (by decide) ?_
  obtain ⟨r7, hc7, hf⟩ := ob hf
  refine k_wrv (k_sta S (c_Arr_fillT (l := l) (D := D) (n := n) (ad := ad) (G := G) hp_r (ix_lt hj5) hc7) g_Router_33 hd_Arr_fill ⟨rfl, rfl⟩ ⟨Nat.le_of_ble_eq_true rfl, Nat.le_of_ble_eq_true rfl⟩ wl_blind (wl_pre hP hK hA) rfl hl.1 rfl (Nat.le_of_ble_eq_true rfl) d_Router_forget_7 (Nat.zero_le _) (Nat.zero_le _)) hS (fun _ h => h) (fun H locs hP _ _ hS => ?_)
  refine lv_iconst (v := 0) hx hb d_Router_forget_10 (by decide) ?_
  refine lv_istore_n (lv' := [(2, .int 0), (0, .ref (ad (16 + 11 * r + 1))), (1, .int a)]) hx hb d_Router_forget_11 rfl hl (by decide) rfl (fun ls hl => ?_)
  have L12 : ∀ (k12 : Nat) (v2_12 : Int32) (N12 : Mem) (H : Heap) (locs : List Loc) (ls : Array Slot), lv_has ls 3 [(2, .int v2_12), (0, .ref (ad (16 + 11 * r + 1))), (1, .int a)] → va_P D cls (cW n ad G N12) H → va_S (wl_A (cK n) ad) s.heap H locs → f_Router_forget_12 n r a k12 v2_12 N12 = some x → W p l e rm_Router_forget s m args below meth c H locs 0 0 (MQ below (wr_Q (none) D cls (cK n) ad (cE n ad G x)) args s 0 0 (wl_A (cK n) ad)) (F0 m 12 ls []) := by
    intro k12
    induction k12 with
    | zero =>
      intro v2_12 N12 H locs ls hl hP hS hf
      simp [f_Router_forget_12] at hf
    | succ k12 ih12 =>
      intro v2_12 N12 H locs ls hl hP hS hf
      rw [f_Router_forget_12] at hf
      refine lv_iload_n hx hb d_Router_forget_12 rfl (lv_at hl 0 rfl) ?_
      refine lv_bipush (v := 8) hx hb d_Router_forget_13 (by decide) ?_
      refine lv_icmp_ge (tgt := 33) hx hb d_Router_forget_15 (by decide) (fun h15 => ?_) (fun h15 => ?_)
      · rw [if_pos h15] at hf
        cases hf
        exact w_vret hx hb hr hlk hP hS d_Router_forget_33
      · rw [if_neg h15] at hf
        refine lv_aload_n hx hb d_Router_forget_18 rfl (lv_at hl 1 rfl) ?_
        refine lv_bipush (v := 16) hx hb d_Router_forget_19 (by decide) ?_
        refine lv_iload_n hx hb d_Router_forget_21 rfl (lv_at hl 0 rfl) ?_
        refine lv_iadd hx hb d_Router_forget_22 ?_
        refine lv_iload_n hx hb d_Router_forget_23 rfl (lv_at hl 2 rfl) ?_
        obtain ⟨r24, hc24, hf⟩ := ob hf
        refine k_wrv (k_vir S (c_Router_endRelease (l := l) (D := D) (n := n) (ad := ad) (G := G) hp_r hc24) g_Router_39 hd_Router_endRelease ⟨rfl, rfl⟩ ⟨Nat.le_of_ble_eq_true rfl, Nat.le_of_ble_eq_true rfl⟩ wl_blind (va_recv hK hP rfl (wl_to (RT_lt hp_r) (RT_at hp_r))) (wl_pre hP hK hA) rfl hl.1 rfl (Nat.le_of_ble_eq_true rfl) d_Router_forget_24 (Nat.zero_le _) (Nat.zero_le _)) hS (fun _ h => h) (fun H locs hP _ _ hS => ?_)
        refine lv_iinc (v := (v2_12 + 1)) (lv' := [(2, .int (v2_12 + 1)), (0, .ref (ad (16 + 11 * r + 1))), (1, .int a)]) hx hb d_Router_forget_27 hl (k := 0) rfl rfl (by decide) rfl (fun ls hl => ?_)
        refine lv_goto (tgt := 12) hx hb d_Router_forget_30 (by decide) ?_
        exact ih12 _ _ _ _ _ (lv_sub hl [0, 1, 2] rfl) hP hS hf
  exact L12 _ _ _ _ _ _ (lv_sub hl [0, 1, 2] rfl) hP hS hf
end
section
def f_Packet_isForService (n : Nat) (M : Mem) : Option (Int32) :=
  if (M 9 0 0 4) = (-1) then (some 0) else (some 1)
abbrev rm_Packet_isForService : Room := { frames := 0, cells := 0, slots := 0, locals := 0 }
set_option maxHeartbeats 4000000 in
set_option maxRecDepth 100000 in
theorem c_Packet_isForService {l : Launch} {D : va_G} {n : Nat} {ad : Nat → Nat} {G : Nat → ClassId}  {M : Mem} {x : Int32} (hf : f_Packet_isForService n M = some x) : Met l y_Packet_isForService (wc y_Packet_isForService b_Packet_isForService 1 (some .boolean)) rm_Packet_isForService (va_Pc [.ref (ad 9)] (cB D n ad G M)) (rd_Q (some (.int x))) 0 0 (fun _ => False) := by
  refine k_met (by decide) (Nat.le_of_ble_eq_true rfl) ?_
  intro p e s m args below meth c S hr hlk hB ls hl
  obtain ⟨hx, hb, hml, hown, hts⟩ := id S
  obtain ⟨hP, hK, hA0⟩ := hB
  have hA := wl_own hA0
  have hl : lv_has ls 1 [(0, .ref (ad 9))] := hl
  unfold f_Packet_isForService at hf
  refine lv_aload_n hx hb d_Packet_isForService_0 rfl (lv_at hl 0 rfl) ?_
  refine va_get (D := D) (ci := 4) (v := .int (M 9 0 0 4)) (C := R_Packet) (T := F_Packet) (N := 7) hx hb hts in_Packet hown hK hP 9 (wl_to (PK_lt) (PK_at)) rfl 4 (by decide) (hts _ fl_Packet_22) (fun _ h => h) rfl d_Packet_isForService_1 ?_
  refine lv_iconst (v := (-1)) hx hb d_Packet_isForService_4 (by decide) ?_
  refine lv_icmp_eq (tgt := 12) hx hb d_Packet_isForService_5 (by decide) (fun h5 => ?_) (fun h5 => ?_)
  · rw [if_pos h5] at hf
    refine lv_iconst (v := 0) hx hb d_Packet_isForService_12 (by decide) ?_
    cases hf
    exact r_zret hx hb hr hlk (by decide) d_Packet_isForService_13
  · rw [if_neg h5] at hf
    refine lv_iconst (v := 1) hx hb d_Packet_isForService_8 (by decide) ?_
    refine lv_goto (tgt := 13) hx hb d_Packet_isForService_9 (by decide) ?_
    cases hf
    exact r_zret hx hb hr hlk (by decide) d_Packet_isForService_13
def f_Packet_isAtLastHop (n : Nat) (M : Mem) : Option (Int32) :=
  if 1 < (M 9 0 0 5) then (some 0) else (some 1)
abbrev rm_Packet_isAtLastHop : Room := { frames := 0, cells := 0, slots := 0, locals := 0 }
set_option maxHeartbeats 4000000 in
set_option maxRecDepth 100000 in
theorem c_Packet_isAtLastHop {l : Launch} {D : va_G} {n : Nat} {ad : Nat → Nat} {G : Nat → ClassId}  {M : Mem} {x : Int32} (hf : f_Packet_isAtLastHop n M = some x) : Met l y_Packet_isAtLastHop (wc y_Packet_isAtLastHop b_Packet_isAtLastHop 1 (some .boolean)) rm_Packet_isAtLastHop (va_Pc [.ref (ad 9)] (cB D n ad G M)) (rd_Q (some (.int x))) 0 0 (fun _ => False) := by
  refine k_met (by decide) (Nat.le_of_ble_eq_true rfl) ?_
  intro p e s m args below meth c S hr hlk hB ls hl
  obtain ⟨hx, hb, hml, hown, hts⟩ := id S
  obtain ⟨hP, hK, hA0⟩ := hB
  have hA := wl_own hA0
  have hl : lv_has ls 1 [(0, .ref (ad 9))] := hl
  unfold f_Packet_isAtLastHop at hf
  refine lv_aload_n hx hb d_Packet_isAtLastHop_0 rfl (lv_at hl 0 rfl) ?_
  refine va_get (D := D) (ci := 4) (v := .int (M 9 0 0 5)) (C := R_Packet) (T := F_Packet) (N := 7) hx hb hts in_Packet hown hK hP 9 (wl_to (PK_lt) (PK_at)) rfl 5 (by decide) (hts _ fl_Packet_25) (fun _ h => h) rfl d_Packet_isAtLastHop_1 ?_
  refine lv_iconst (v := 1) hx hb d_Packet_isAtLastHop_4 (by decide) ?_
  refine lv_icmp_gt (tgt := 12) hx hb d_Packet_isAtLastHop_5 (by decide) (fun h5 => ?_) (fun h5 => ?_)
  · rw [if_pos h5] at hf
    refine lv_iconst (v := 0) hx hb d_Packet_isAtLastHop_12 (by decide) ?_
    cases hf
    exact r_zret hx hb hr hlk (by decide) d_Packet_isAtLastHop_13
  · rw [if_neg h5] at hf
    refine lv_iconst (v := 1) hx hb d_Packet_isAtLastHop_8 (by decide) ?_
    refine lv_goto (tgt := 13) hx hb d_Packet_isAtLastHop_9 (by decide) ?_
    cases hf
    exact r_zret hx hb hr hlk (by decide) d_Packet_isAtLastHop_13
def f_Packet_targetPrefix (n : Nat) (M : Mem) : Option (Int32) :=
  some (M 9 0 0 3)
abbrev rm_Packet_targetPrefix : Room := { frames := 0, cells := 0, slots := 0, locals := 0 }
set_option maxHeartbeats 4000000 in
set_option maxRecDepth 100000 in
theorem c_Packet_targetPrefix {l : Launch} {D : va_G} {n : Nat} {ad : Nat → Nat} {G : Nat → ClassId}  {M : Mem} {x : Int32} (hf : f_Packet_targetPrefix n M = some x) : Met l y_Packet_targetPrefix (wc y_Packet_targetPrefix b_Packet_targetPrefix 1 (some .int)) rm_Packet_targetPrefix (va_Pc [.ref (ad 9)] (cB D n ad G M)) (rd_Q (some (.int x))) 0 0 (fun _ => False) := by
  refine k_met (by decide) (Nat.le_of_ble_eq_true rfl) ?_
  intro p e s m args below meth c S hr hlk hB ls hl
  obtain ⟨hx, hb, hml, hown, hts⟩ := id S
  obtain ⟨hP, hK, hA0⟩ := hB
  have hA := wl_own hA0
  have hl : lv_has ls 1 [(0, .ref (ad 9))] := hl
  unfold f_Packet_targetPrefix at hf
  refine lv_aload_n hx hb d_Packet_targetPrefix_0 rfl (lv_at hl 0 rfl) ?_
  refine va_get (D := D) (ci := 4) (v := .int (M 9 0 0 3)) (C := R_Packet) (T := F_Packet) (N := 7) hx hb hts in_Packet hown hK hP 9 (wl_to (PK_lt) (PK_at)) rfl 3 (by decide) (hts _ fl_Packet_18) (fun _ h => h) rfl d_Packet_targetPrefix_1 ?_
  cases hf
  exact r_iret hx hb hr hlk d_Packet_targetPrefix_4
def f_Packet_targetService (n : Nat) (M : Mem) : Option (Int32) :=
  some (M 9 0 0 4)
abbrev rm_Packet_targetService : Room := { frames := 0, cells := 0, slots := 0, locals := 0 }
set_option maxHeartbeats 4000000 in
set_option maxRecDepth 100000 in
theorem c_Packet_targetService {l : Launch} {D : va_G} {n : Nat} {ad : Nat → Nat} {G : Nat → ClassId}  {M : Mem} {x : Int32} (hf : f_Packet_targetService n M = some x) : Met l y_Packet_targetService (wc y_Packet_targetService b_Packet_targetService 1 (some .int)) rm_Packet_targetService (va_Pc [.ref (ad 9)] (cB D n ad G M)) (rd_Q (some (.int x))) 0 0 (fun _ => False) := by
  refine k_met (by decide) (Nat.le_of_ble_eq_true rfl) ?_
  intro p e s m args below meth c S hr hlk hB ls hl
  obtain ⟨hx, hb, hml, hown, hts⟩ := id S
  obtain ⟨hP, hK, hA0⟩ := hB
  have hA := wl_own hA0
  have hl : lv_has ls 1 [(0, .ref (ad 9))] := hl
  unfold f_Packet_targetService at hf
  refine lv_aload_n hx hb d_Packet_targetService_0 rfl (lv_at hl 0 rfl) ?_
  refine va_get (D := D) (ci := 4) (v := .int (M 9 0 0 4)) (C := R_Packet) (T := F_Packet) (N := 7) hx hb hts in_Packet hown hK hP 9 (wl_to (PK_lt) (PK_at)) rfl 4 (by decide) (hts _ fl_Packet_22) (fun _ h => h) rfl d_Packet_targetService_1 ?_
  cases hf
  exact r_iret hx hb hr hlk d_Packet_targetService_4
def f_Packet_topLabel (n : Nat) (M : Mem) : Option (Int32) :=
  some (M 9 0 0 6)
abbrev rm_Packet_topLabel : Room := { frames := 0, cells := 0, slots := 0, locals := 0 }
set_option maxHeartbeats 4000000 in
set_option maxRecDepth 100000 in
theorem c_Packet_topLabel {l : Launch} {D : va_G} {n : Nat} {ad : Nat → Nat} {G : Nat → ClassId}  {M : Mem} {x : Int32} (hf : f_Packet_topLabel n M = some x) : Met l y_Packet_topLabel (wc y_Packet_topLabel b_Packet_topLabel 1 (some .int)) rm_Packet_topLabel (va_Pc [.ref (ad 9)] (cB D n ad G M)) (rd_Q (some (.int x))) 0 0 (fun _ => False) := by
  refine k_met (by decide) (Nat.le_of_ble_eq_true rfl) ?_
  intro p e s m args below meth c S hr hlk hB ls hl
  obtain ⟨hx, hb, hml, hown, hts⟩ := id S
  obtain ⟨hP, hK, hA0⟩ := hB
  have hA := wl_own hA0
  have hl : lv_has ls 1 [(0, .ref (ad 9))] := hl
  unfold f_Packet_topLabel at hf
  refine lv_aload_n hx hb d_Packet_topLabel_0 rfl (lv_at hl 0 rfl) ?_
  refine va_get (D := D) (ci := 4) (v := .int (M 9 0 0 6)) (C := R_Packet) (T := F_Packet) (N := 7) hx hb hts in_Packet hown hK hP 9 (wl_to (PK_lt) (PK_at)) rfl 6 (by decide) (hts _ fl_Packet_28) (fun _ h => h) rfl d_Packet_topLabel_1 ?_
  cases hf
  exact r_iret hx hb hr hlk d_Packet_topLabel_4
def f_Packet_place (n : Nat) (M : Mem) : Option (Int32) :=
  (ix ((M 9 0 0 2) - 1) 255).bind fun j10 => some (M 10 0 0 j10)
abbrev rm_Packet_place : Room := { frames := 0, cells := 0, slots := 0, locals := 0 }
set_option maxHeartbeats 4000000 in
set_option maxRecDepth 100000 in
theorem c_Packet_place {l : Launch} {D : va_G} {n : Nat} {ad : Nat → Nat} {G : Nat → ClassId}  {M : Mem} {x : Int32} (hf : f_Packet_place n M = some x) : Met l y_Packet_place (wc y_Packet_place b_Packet_place 1 (some .int)) rm_Packet_place (va_Pc [.ref (ad 9)] (cB D n ad G M)) (rd_Q (some (.int x))) 0 0 (fun _ => False) := by
  refine k_met (by decide) (Nat.le_of_ble_eq_true rfl) ?_
  intro p e s m args below meth c S hr hlk hB ls hl
  obtain ⟨hx, hb, hml, hown, hts⟩ := id S
  obtain ⟨hP, hK, hA0⟩ := hB
  have hA := wl_own hA0
  have hl : lv_has ls 1 [(0, .ref (ad 9))] := hl
  unfold f_Packet_place at hf
  refine lv_aload_n hx hb d_Packet_place_0 rfl (lv_at hl 0 rfl) ?_
  refine va_get (D := D) (ci := 4) (v := .ref (ad 10)) (C := R_Packet) (T := F_Packet) (N := 7) hx hb hts in_Packet hown hK hP 9 (wl_to (PK_lt) (PK_at)) rfl 0 (by decide) (hts _ fl_Packet_9) (fun _ h => h) rfl d_Packet_place_1 ?_
  refine lv_aload_n hx hb d_Packet_place_4 rfl (lv_at hl 0 rfl) ?_
  refine va_get (D := D) (ci := 4) (v := .int (M 9 0 0 2)) (C := R_Packet) (T := F_Packet) (N := 7) hx hb hts in_Packet hown hK hP 9 (wl_to (PK_lt) (PK_at)) rfl 2 (by decide) (hts _ fl_Packet_31) (fun _ h => h) rfl d_Packet_place_5 ?_
  refine lv_iconst (v := 1) hx hb d_Packet_place_8 (by decide) ?_
  refine lv_isub hx hb d_Packet_place_9 ?_
  obtain ⟨j10, hj10, hf⟩ := ob hf
  refine k_iald hx hb hK hP 10 0 (TR_lt) (TR_at) rfl hj10 d_Packet_place_10 ?_
  cases hf
  exact r_iret hx hb hr hlk d_Packet_place_11
def f_Packet_placeCount (n : Nat) (M : Mem) : Option (Int32) :=
  some (M 9 0 0 2)
abbrev rm_Packet_placeCount : Room := { frames := 0, cells := 0, slots := 0, locals := 0 }
set_option maxHeartbeats 4000000 in
set_option maxRecDepth 100000 in
theorem c_Packet_placeCount {l : Launch} {D : va_G} {n : Nat} {ad : Nat → Nat} {G : Nat → ClassId}  {M : Mem} {x : Int32} (hf : f_Packet_placeCount n M = some x) : Met l y_Packet_placeCount (wc y_Packet_placeCount b_Packet_placeCount 1 (some .int)) rm_Packet_placeCount (va_Pc [.ref (ad 9)] (cB D n ad G M)) (rd_Q (some (.int x))) 0 0 (fun _ => False) := by
  refine k_met (by decide) (Nat.le_of_ble_eq_true rfl) ?_
  intro p e s m args below meth c S hr hlk hB ls hl
  obtain ⟨hx, hb, hml, hown, hts⟩ := id S
  obtain ⟨hP, hK, hA0⟩ := hB
  have hA := wl_own hA0
  have hl : lv_has ls 1 [(0, .ref (ad 9))] := hl
  unfold f_Packet_placeCount at hf
  refine lv_aload_n hx hb d_Packet_placeCount_0 rfl (lv_at hl 0 rfl) ?_
  refine va_get (D := D) (ci := 4) (v := .int (M 9 0 0 2)) (C := R_Packet) (T := F_Packet) (N := 7) hx hb hts in_Packet hown hK hP 9 (wl_to (PK_lt) (PK_at)) rfl 2 (by decide) (hts _ fl_Packet_31) (fun _ h => h) rfl d_Packet_placeCount_1 ?_
  cases hf
  exact r_iret hx hb hr hlk d_Packet_placeCount_4
def f_Packet_placeAt (n : Nat) (a : Int32) (M : Mem) : Option (Int32) :=
  (ix a 255).bind fun j5 => some (M 10 0 0 j5)
abbrev rm_Packet_placeAt : Room := { frames := 0, cells := 0, slots := 0, locals := 0 }
set_option maxHeartbeats 4000000 in
set_option maxRecDepth 100000 in
theorem c_Packet_placeAt {l : Launch} {D : va_G} {n : Nat} {ad : Nat → Nat} {G : Nat → ClassId} {a : Int32}  {M : Mem} {x : Int32} (hf : f_Packet_placeAt n a M = some x) : Met l y_Packet_placeAt (wc y_Packet_placeAt b_Packet_placeAt 2 (some .int)) rm_Packet_placeAt (va_Pc [.ref (ad 9), .int a] (cB D n ad G M)) (rd_Q (some (.int x))) 0 0 (fun _ => False) := by
  refine k_met (by decide) (Nat.le_of_ble_eq_true rfl) ?_
  intro p e s m args below meth c S hr hlk hB ls hl
  obtain ⟨hx, hb, hml, hown, hts⟩ := id S
  obtain ⟨hP, hK, hA0⟩ := hB
  have hA := wl_own hA0
  have hl : lv_has ls 2 [(0, .ref (ad 9)), (1, .int a)] := hl
  unfold f_Packet_placeAt at hf
  refine lv_aload_n hx hb d_Packet_placeAt_0 rfl (lv_at hl 0 rfl) ?_
  refine va_get (D := D) (ci := 4) (v := .ref (ad 10)) (C := R_Packet) (T := F_Packet) (N := 7) hx hb hts in_Packet hown hK hP 9 (wl_to (PK_lt) (PK_at)) rfl 0 (by decide) (hts _ fl_Packet_9) (fun _ h => h) rfl d_Packet_placeAt_1 ?_
  refine lv_iload_n hx hb d_Packet_placeAt_4 rfl (lv_at hl 1 rfl) ?_
  obtain ⟨j5, hj5, hf⟩ := ob hf
  refine k_iald hx hb hK hP 10 0 (TR_lt) (TR_at) rfl hj5 d_Packet_placeAt_5 ?_
  cases hf
  exact r_iret hx hb hr hlk d_Packet_placeAt_6
def f_Packet_entryAt (n : Nat) (a : Int32) (M : Mem) : Option (Int32) :=
  (ix a 255).bind fun j5 => some (M 11 0 0 j5)
abbrev rm_Packet_entryAt : Room := { frames := 0, cells := 0, slots := 0, locals := 0 }
set_option maxHeartbeats 4000000 in
set_option maxRecDepth 100000 in
theorem c_Packet_entryAt {l : Launch} {D : va_G} {n : Nat} {ad : Nat → Nat} {G : Nat → ClassId} {a : Int32}  {M : Mem} {x : Int32} (hf : f_Packet_entryAt n a M = some x) : Met l y_Packet_entryAt (wc y_Packet_entryAt b_Packet_entryAt 2 (some .int)) rm_Packet_entryAt (va_Pc [.ref (ad 9), .int a] (cB D n ad G M)) (rd_Q (some (.int x))) 0 0 (fun _ => False) := by
  refine k_met (by decide) (Nat.le_of_ble_eq_true rfl) ?_
  intro p e s m args below meth c S hr hlk hB ls hl
  obtain ⟨hx, hb, hml, hown, hts⟩ := id S
  obtain ⟨hP, hK, hA0⟩ := hB
  have hA := wl_own hA0
  have hl : lv_has ls 2 [(0, .ref (ad 9)), (1, .int a)] := hl
  unfold f_Packet_entryAt at hf
  refine lv_aload_n hx hb d_Packet_entryAt_0 rfl (lv_at hl 0 rfl) ?_
  refine va_get (D := D) (ci := 4) (v := .ref (ad 11)) (C := R_Packet) (T := F_Packet) (N := 7) hx hb hts in_Packet hown hK hP 9 (wl_to (PK_lt) (PK_at)) rfl 1 (by decide) (hts _ fl_Packet_15) (fun _ h => h) rfl d_Packet_entryAt_1 ?_
  refine lv_iload_n hx hb d_Packet_entryAt_4 rfl (lv_at hl 1 rfl) ?_
  obtain ⟨j5, hj5, hf⟩ := ob hf
  refine k_iald hx hb hK hP 11 0 (EN_lt) (EN_at) rfl hj5 d_Packet_entryAt_5 ?_
  cases hf
  exact r_iret hx hb hr hlk d_Packet_entryAt_6
def f_Packet_entryOf (n : Nat) (a : Int32) (b : Int32) (M : Mem) : Option (Int32) :=
  if b = 0 then (some (((4096 * a) + 0) + (M 9 0 0 5))) else (some (((4096 * a) + 256) + (M 9 0 0 5)))
abbrev rm_Packet_entryOf : Room := { frames := 0, cells := 0, slots := 0, locals := 0 }
set_option maxHeartbeats 4000000 in
set_option maxRecDepth 100000 in
theorem c_Packet_entryOf {l : Launch} {D : va_G} {n : Nat} {ad : Nat → Nat} {G : Nat → ClassId} {a : Int32} {b : Int32}  {M : Mem} {x : Int32} (hf : f_Packet_entryOf n a b M = some x) : Met l y_Packet_entryOf (wc y_Packet_entryOf b_Packet_entryOf 3 (some .int)) rm_Packet_entryOf (va_Pc [.ref (ad 9), .int a, .int b] (cB D n ad G M)) (rd_Q (some (.int x))) 0 0 (fun _ => False) := by
  refine k_met (by decide) (Nat.le_of_ble_eq_true rfl) ?_
  intro p e s m args below meth c S hr hlk hB ls hl
  obtain ⟨hx, hb, hml, hown, hts⟩ := id S
  obtain ⟨hP, hK, hA0⟩ := hB
  have hA := wl_own hA0
  have hl : lv_has ls 3 [(0, .ref (ad 9)), (1, .int a), (2, .int b)] := hl
  unfold f_Packet_entryOf at hf
  refine lv_sipush (v := 4096) hx hb d_Packet_entryOf_0 (by decide) ?_
  refine lv_iload_n hx hb d_Packet_entryOf_3 rfl (lv_at hl 1 rfl) ?_
  refine lv_imul hx hb d_Packet_entryOf_4 ?_
  refine lv_iload_n hx hb d_Packet_entryOf_5 rfl (lv_at hl 2 rfl) ?_
  refine lv_if_eq (tgt := 15) hx hb d_Packet_entryOf_6 (by decide) (fun h6 => ?_) (fun h6 => ?_)
  · rw [if_pos h6] at hf
    refine lv_iconst (v := 0) hx hb d_Packet_entryOf_15 (by decide) ?_
    refine lv_iadd hx hb d_Packet_entryOf_16 ?_
    refine lv_aload_n hx hb d_Packet_entryOf_17 rfl (lv_at hl 0 rfl) ?_
    refine va_get (D := D) (ci := 4) (v := .int (M 9 0 0 5)) (C := R_Packet) (T := F_Packet) (N := 7) hx hb hts in_Packet hown hK hP 9 (wl_to (PK_lt) (PK_at)) rfl 5 (by decide) (hts _ fl_Packet_25) (fun _ h => h) rfl d_Packet_entryOf_18 ?_
    refine lv_iadd hx hb d_Packet_entryOf_21 ?_
    cases hf
    exact r_iret hx hb hr hlk d_Packet_entryOf_22
  · rw [if_neg h6] at hf
    refine lv_sipush (v := 256) hx hb d_Packet_entryOf_9 (by decide) ?_
    refine lv_goto (tgt := 16) hx hb d_Packet_entryOf_12 (by decide) ?_
    refine lv_iadd hx hb d_Packet_entryOf_16 ?_
    refine lv_aload_n hx hb d_Packet_entryOf_17 rfl (lv_at hl 0 rfl) ?_
    refine va_get (D := D) (ci := 4) (v := .int (M 9 0 0 5)) (C := R_Packet) (T := F_Packet) (N := 7) hx hb hts in_Packet hown hK hP 9 (wl_to (PK_lt) (PK_at)) rfl 5 (by decide) (hts _ fl_Packet_25) (fun _ h => h) rfl d_Packet_entryOf_18 ?_
    refine lv_iadd hx hb d_Packet_entryOf_21 ?_
    cases hf
    exact r_iret hx hb hr hlk d_Packet_entryOf_22
def f_Packet_note (n : Nat) (a : Int32) (b : Int32) (M : Mem) : Option (Mem) :=
  (ix (M 9 0 0 2) 255).bind fun j9 => (ix ((mset M 10 0 0 j9 a) 9 0 0 2) 255).bind fun j19 => some (mset (mset (mset M 10 0 0 j9 a) 11 0 0 j19 b) 9 0 0 2 (((mset (mset M 10 0 0 j9 a) 11 0 0 j19 b) 9 0 0 2) + 1))
abbrev rm_Packet_note : Room := { frames := 0, cells := 0, slots := 0, locals := 0 }
set_option maxHeartbeats 4000000 in
set_option maxRecDepth 100000 in
theorem c_Packet_note {l : Launch} {D : va_G} {n : Nat} {ad : Nat → Nat} {G : Nat → ClassId} {a : Int32} {b : Int32}  {M : Mem} {x : Mem} (hf : f_Packet_note n a b M = some x) : Met l y_Packet_note (wc y_Packet_note b_Packet_note 3 (none)) rm_Packet_note (va_Pc [.ref (ad 9), .int a, .int b] (cB D n ad G M)) (wr_Q (none) D cls (cK n) ad (cE n ad G x)) 0 0 (wl_A (cK n) ad) := by
  refine k_met (by decide) (Nat.le_of_ble_eq_true rfl) ?_
  intro p e s m args below meth c S hr hlk hB ls hl
  obtain ⟨hx, hb, hml, hown, hts⟩ := id S
  obtain ⟨hP, hK, hA0⟩ := hB
  have hA := wl_own hA0
  have hl : lv_has ls 3 [(0, .ref (ad 9)), (1, .int a), (2, .int b)] := hl
  have hS : va_S (wl_A (cK n) ad) s.heap s.heap [] := va_S.rf
  unfold f_Packet_note at hf
  refine lv_aload_n hx hb d_Packet_note_0 rfl (lv_at hl 0 rfl) ?_
  refine va_get (D := D) (ci := 4) (v := .ref (ad 10)) (C := R_Packet) (T := F_Packet) (N := 7) hx hb hts in_Packet hown hK hP 9 (wl_to (PK_lt) (PK_at)) rfl 0 (by decide) (hts _ fl_Packet_9) (fun _ h => h) rfl d_Packet_note_1 ?_
  refine lv_aload_n hx hb d_Packet_note_4 rfl (lv_at hl 0 rfl) ?_
  refine va_get (D := D) (ci := 4) (v := .int (M 9 0 0 2)) (C := R_Packet) (T := F_Packet) (N := 7) hx hb hts in_Packet hown hK hP 9 (wl_to (PK_lt) (PK_at)) rfl 2 (by decide) (hts _ fl_Packet_31) (fun _ h => h) rfl d_Packet_note_5 ?_
  refine lv_iload_n hx hb d_Packet_note_8 rfl (lv_at hl 1 rfl) ?_
  obtain ⟨j9, hj9, hf⟩ := ob hf
  refine m_iast (x := a) hx hb hK hP hA hS cJ 10 0 (TR_lt) (TR_tg) (fun f => TR_row f) rfl hj9 d_Packet_note_9 (fun H locs hP hS => ?_)
  refine lv_aload_n hx hb d_Packet_note_10 rfl (lv_at hl 0 rfl) ?_
  refine va_get (D := D) (ci := 4) (v := .ref (ad 11)) (C := R_Packet) (T := F_Packet) (N := 7) hx hb hts in_Packet hown hK hP 9 (wl_to (PK_lt) (PK_at)) rfl 1 (by decide) (hts _ fl_Packet_15) (fun _ h => h) rfl d_Packet_note_11 ?_
  refine lv_aload_n hx hb d_Packet_note_14 rfl (lv_at hl 0 rfl) ?_
  refine va_get (D := D) (ci := 4) (v := .int ((mset M 10 0 0 j9 a) 9 0 0 2)) (C := R_Packet) (T := F_Packet) (N := 7) hx hb hts in_Packet hown hK hP 9 (wl_to (PK_lt) (PK_at)) rfl 2 (by decide) (hts _ fl_Packet_31) (fun _ h => h) rfl d_Packet_note_15 ?_
  refine lv_iload_n hx hb d_Packet_note_18 rfl (lv_at hl 2 rfl) ?_
  obtain ⟨j19, hj19, hf⟩ := ob hf
  refine m_iast (x := b) hx hb hK hP hA hS cJ 11 0 (EN_lt) (EN_tg) (fun f => EN_row f) rfl hj19 d_Packet_note_19 (fun H locs hP hS => ?_)
  refine lv_aload_n hx hb d_Packet_note_20 rfl (lv_at hl 0 rfl) ?_
  refine lv_dup hx hb d_Packet_note_21 rfl ?_
  refine va_get (D := D) (ci := 4) (v := .int ((mset (mset M 10 0 0 j9 a) 11 0 0 j19 b) 9 0 0 2)) (C := R_Packet) (T := F_Packet) (N := 7) hx hb hts in_Packet hown hK hP 9 (wl_to (PK_lt) (PK_at)) rfl 2 (by decide) (hts _ fl_Packet_31) (fun _ h => h) rfl d_Packet_note_22 ?_
  refine lv_iconst (v := 1) hx hb d_Packet_note_25 (by decide) ?_
  refine lv_iadd hx hb d_Packet_note_26 ?_
  refine m_put (x := (((mset (mset M 10 0 0 j9 a) 11 0 0 j19 b) 9 0 0 2) + 1)) (ci := 4) (C := R_Packet) (T := F_Packet) (N := 7) hx hb hts in_Packet t_Packet ty_Packet nm_Packet hown hK hP hA hS cJ 9 (PK_lt) (Packet_fs ad) (fun _ => rfl) ⟨rfl, rfl, rfl⟩ rfl 2 (by decide) (hts _ fl_Packet_31) rfl (by decide +kernel) (fun _ => ⟨Nat.le_of_ble_eq_true rfl, rfl⟩) d_Packet_note_27 (fun H locs hP hS => ?_)
  cases hf
  exact w_vret hx hb hr hlk hP hS d_Packet_note_30
def f_Packet_begin (n : Nat) (a : Int32) (b : Int32) (z : Int32) (d : Int32) (M : Mem) : Option (Mem) :=
  (f_Packet_isForService n (mset (mset (mset (mset (mset M 9 0 0 3 b) 9 0 0 4 z) 9 0 0 5 d) 9 0 0 6 0) 9 0 0 2 0)).bind fun r29 => if r29 = 0 then ((f_Packet_note n a 0 (mset (mset (mset (mset (mset M 9 0 0 3 b) 9 0 0 4 z) 9 0 0 5 d) 9 0 0 6 0) 9 0 0 2 0)).bind fun r51 => some r51) else ((f_Packet_entryOf n (32 + ((mset (mset (mset (mset (mset M 9 0 0 3 b) 9 0 0 4 z) 9 0 0 5 d) 9 0 0 6 0) 9 0 0 2 0) 9 0 0 4)) 1 (mset (mset (mset (mset (mset M 9 0 0 3 b) 9 0 0 4 z) 9 0 0 5 d) 9 0 0 6 0) 9 0 0 2 0)).bind fun r44 => (f_Packet_note n a r44 (mset (mset (mset (mset (mset M 9 0 0 3 b) 9 0 0 4 z) 9 0 0 5 d) 9 0 0 6 0) 9 0 0 2 0)).bind fun r51 => some r51)
abbrev rm_Packet_begin : Room := { frames := 1, cells := 0, slots := 0, locals := 22 }
set_option maxHeartbeats 4000000 in
set_option maxRecDepth 100000 in
theorem c_Packet_begin {l : Launch} {D : va_G} {n : Nat} {ad : Nat → Nat} {G : Nat → ClassId} {a : Int32} {b : Int32} {z : Int32} {d : Int32}  {M : Mem} {x : Mem} (hf : f_Packet_begin n a b z d M = some x) : Met l y_Packet_begin (wc y_Packet_begin b_Packet_begin 5 (none)) rm_Packet_begin (va_Pc [.ref (ad 9), .int a, .int b, .int z, .int d] (cB D n ad G M)) (wr_Q (none) D cls (cK n) ad (cE n ad G x)) 0 0 (wl_A (cK n) ad) := by
  refine k_met (by decide) (Nat.le_of_ble_eq_true rfl) ?_
  intro p e s m args below meth c S hr hlk hB ls hl
  obtain ⟨hx, hb, hml, hown, hts⟩ := id S
  obtain ⟨hP, hK, hA0⟩ := hB
  have hA := wl_own hA0
  have hl : lv_has ls 5 [(0, .ref (ad 9)), (1, .int a), (2, .int b), (3, .int z), (4, .int d)] := hl
  have hS : va_S (wl_A (cK n) ad) s.heap s.heap [] := va_S.rf
  unfold f_Packet_begin at hf
  refine lv_aload_n hx hb d_Packet_begin_0 rfl (lv_at hl 0 rfl) ?_
  refine lv_iload_n hx hb d_Packet_begin_1 rfl (lv_at hl 2 rfl) ?_
  refine m_put (x := b) (ci := 4) (C := R_Packet) (T := F_Packet) (N := 7) hx hb hts in_Packet t_Packet ty_Packet nm_Packet hown hK hP hA hS cJ 9 (PK_lt) (Packet_fs ad) (fun _ => rfl) ⟨rfl, rfl, rfl⟩ rfl 3 (by decide) (hts _ fl_Packet_18) rfl (by decide +kernel) (fun _ => ⟨Nat.le_of_ble_eq_true rfl, rfl⟩) d_Packet_begin_2 (fun H locs hP hS => ?_)
  refine lv_aload_n hx hb d_Packet_begin_5 rfl (lv_at hl 0 rfl) ?_
  refine lv_iload_n hx hb d_Packet_begin_6 rfl (lv_at hl 3 rfl) ?_
  refine m_put (x := z) (ci := 4) (C := R_Packet) (T := F_Packet) (N := 7) hx hb hts in_Packet t_Packet ty_Packet nm_Packet hown hK hP hA hS cJ 9 (PK_lt) (Packet_fs ad) (fun _ => rfl) ⟨rfl, rfl, rfl⟩ rfl 4 (by decide) (hts _ fl_Packet_22) rfl (by decide +kernel) (fun _ => ⟨Nat.le_of_ble_eq_true rfl, rfl⟩) d_Packet_begin_7 (fun H locs hP hS => ?_)
  refine lv_aload_n hx hb d_Packet_begin_10 rfl (lv_at hl 0 rfl) ?_
  refine lv_iload hx hb d_Packet_begin_11 (lv_at hl 4 rfl) ?_
  refine m_put (x := d) (ci := 4) (C := R_Packet) (T := F_Packet) (N := 7) hx hb hts in_Packet t_Packet ty_Packet nm_Packet hown hK hP hA hS cJ 9 (PK_lt) (Packet_fs ad) (fun _ => rfl) ⟨rfl, rfl, rfl⟩ rfl 5 (by decide) (hts _ fl_Packet_25) rfl (by decide +kernel) (fun _ => ⟨Nat.le_of_ble_eq_true rfl, rfl⟩) d_Packet_begin_13 (fun H locs hP hS => ?_)
  refine lv_aload_n hx hb d_Packet_begin_16 rfl (lv_at hl 0 rfl) ?_
  refine lv_iconst (v := 0) hx hb d_Packet_begin_17 (by decide) ?_
  refine m_put (x := 0) (ci := 4) (C := R_Packet) (T := F_Packet) (N := 7) hx hb hts in_Packet t_Packet ty_Packet nm_Packet hown hK hP hA hS cJ 9 (PK_lt) (Packet_fs ad) (fun _ => rfl) ⟨rfl, rfl, rfl⟩ rfl 6 (by decide) (hts _ fl_Packet_28) rfl (by decide +kernel) (fun _ => ⟨Nat.le_of_ble_eq_true rfl, rfl⟩) d_Packet_begin_18 (fun H locs hP hS => ?_)
  refine lv_aload_n hx hb d_Packet_begin_21 rfl (lv_at hl 0 rfl) ?_
  refine lv_iconst (v := 0) hx hb d_Packet_begin_22 (by decide) ?_
  refine m_put (x := 0) (ci := 4) (C := R_Packet) (T := F_Packet) (N := 7) hx hb hts in_Packet t_Packet ty_Packet nm_Packet hown hK hP hA hS cJ 9 (PK_lt) (Packet_fs ad) (fun _ => rfl) ⟨rfl, rfl, rfl⟩ rfl 2 (by decide) (hts _ fl_Packet_31) rfl (by decide +kernel) (fun _ => ⟨Nat.le_of_ble_eq_true rfl, rfl⟩) d_Packet_begin_23 (fun H locs hP hS => ?_)
  refine lv_aload_n hx hb d_Packet_begin_26 rfl (lv_at hl 0 rfl) ?_
  refine lv_iload_n hx hb d_Packet_begin_27 rfl (lv_at hl 1 rfl) ?_
  refine lv_aload_n hx hb d_Packet_begin_28 rfl (lv_at hl 0 rfl) ?_
  obtain ⟨r29, hc29, hf⟩ := ob hf
  refine k_rdi (k_vir S (c_Packet_isForService (l := l) (D := D) (n := n) (ad := ad) (G := G) hc29) g_Packet_34 hd_Packet_isForService ⟨rfl, rfl⟩ ⟨Nat.le_of_ble_eq_true rfl, Nat.le_of_ble_eq_true rfl⟩ wl_blind (va_recv hK hP rfl (wl_to (PK_lt) (PK_at))) (wl_pre hP hK hA) rfl hl.1 rfl (Nat.le_of_ble_eq_true rfl) d_Packet_begin_29 (Nat.zero_le _) (Nat.zero_le _)) ?_
  refine lv_if_eq (tgt := 50) hx hb d_Packet_begin_32 (by decide) (fun h32 => ?_) (fun h32 => ?_)
  · rw [if_pos h32] at hf
    refine lv_iconst (v := 0) hx hb d_Packet_begin_50 (by decide) ?_
    obtain ⟨r51, hc51, hf⟩ := ob hf
    refine k_wrv (k_vir S (c_Packet_note (l := l) (D := D) (n := n) (ad := ad) (G := G) hc51) g_Packet_42 hd_Packet_note ⟨rfl, rfl⟩ ⟨Nat.le_of_ble_eq_true rfl, Nat.le_of_ble_eq_true rfl⟩ wl_blind (va_recv hK hP rfl (wl_to (PK_lt) (PK_at))) (wl_pre hP hK hA) rfl hl.1 rfl (Nat.le_of_ble_eq_true rfl) d_Packet_begin_51 (Nat.zero_le _) (Nat.zero_le _)) hS (fun _ h => h) (fun H locs hP _ _ hS => ?_)
    cases hf
    exact w_vret hx hb hr hlk hP hS d_Packet_begin_54
  · rw [if_neg h32] at hf
    refine lv_aload_n hx hb d_Packet_begin_35 rfl (lv_at hl 0 rfl) ?_
    refine lv_bipush (v := 32) hx hb d_Packet_begin_36 (by decide) ?_
    refine lv_aload_n hx hb d_Packet_begin_38 rfl (lv_at hl 0 rfl) ?_
    refine va_get (D := D) (ci := 4) (v := .int ((mset (mset (mset (mset (mset M 9 0 0 3 b) 9 0 0 4 z) 9 0 0 5 d) 9 0 0 6 0) 9 0 0 2 0) 9 0 0 4)) (C := R_Packet) (T := F_Packet) (N := 7) hx hb hts in_Packet hown hK hP 9 (wl_to (PK_lt) (PK_at)) rfl 4 (by decide) (hts _ fl_Packet_22) (fun _ h => h) rfl d_Packet_begin_39 ?_
    refine lv_iadd hx hb d_Packet_begin_42 ?_
    refine lv_iconst (v := 1) hx hb d_Packet_begin_43 (by decide) ?_
    obtain ⟨r44, hc44, hf⟩ := ob hf
    refine k_rdi (k_vir S (c_Packet_entryOf (l := l) (D := D) (n := n) (ad := ad) (G := G) hc44) g_Packet_38 hd_Packet_entryOf ⟨rfl, rfl⟩ ⟨Nat.le_of_ble_eq_true rfl, Nat.le_of_ble_eq_true rfl⟩ wl_blind (va_recv hK hP rfl (wl_to (PK_lt) (PK_at))) (wl_pre hP hK hA) rfl hl.1 rfl (Nat.le_of_ble_eq_true rfl) d_Packet_begin_44 (Nat.zero_le _) (Nat.zero_le _)) ?_
    refine lv_goto (tgt := 51) hx hb d_Packet_begin_47 (by decide) ?_
    obtain ⟨r51, hc51, hf⟩ := ob hf
    refine k_wrv (k_vir S (c_Packet_note (l := l) (D := D) (n := n) (ad := ad) (G := G) hc51) g_Packet_42 hd_Packet_note ⟨rfl, rfl⟩ ⟨Nat.le_of_ble_eq_true rfl, Nat.le_of_ble_eq_true rfl⟩ wl_blind (va_recv hK hP rfl (wl_to (PK_lt) (PK_at))) (wl_pre hP hK hA) rfl hl.1 rfl (Nat.le_of_ble_eq_true rfl) d_Packet_begin_51 (Nat.zero_le _) (Nat.zero_le _)) hS (fun _ h => h) (fun H locs hP _ _ hS => ?_)
    cases hf
    exact w_vret hx hb hr hlk hP hS d_Packet_begin_54
def f_Packet_moveTo (n : Nat) (a : Int32) (b : Int32) (M : Mem) : Option (Mem) :=
  if b = 0 then ((f_Packet_note n a 0 (mset (mset M 9 0 0 5 ((M 9 0 0 5) - 1)) 9 0 0 6 b)).bind fun r42 => some r42) else ((f_Packet_isForService n (mset (mset M 9 0 0 5 ((M 9 0 0 5) - 1)) 9 0 0 6 b)).bind fun r28 => if r28 = 0 then ((f_Packet_entryOf n b 1 (mset (mset M 9 0 0 5 ((M 9 0 0 5) - 1)) 9 0 0 6 b)).bind fun r39 => (f_Packet_note n a r39 (mset (mset M 9 0 0 5 ((M 9 0 0 5) - 1)) 9 0 0 6 b)).bind fun r42 => some r42) else ((f_Packet_entryOf n b 0 (mset (mset M 9 0 0 5 ((M 9 0 0 5) - 1)) 9 0 0 6 b)).bind fun r39 => (f_Packet_note n a r39 (mset (mset M 9 0 0 5 ((M 9 0 0 5) - 1)) 9 0 0 6 b)).bind fun r42 => some r42))
abbrev rm_Packet_moveTo : Room := { frames := 1, cells := 0, slots := 0, locals := 22 }
set_option maxHeartbeats 4000000 in
set_option maxRecDepth 100000 in
theorem c_Packet_moveTo {l : Launch} {D : va_G} {n : Nat} {ad : Nat → Nat} {G : Nat → ClassId} {a : Int32} {b : Int32}  {M : Mem} {x : Mem} (hf : f_Packet_moveTo n a b M = some x) : Met l y_Packet_moveTo (wc y_Packet_moveTo b_Packet_moveTo 3 (none)) rm_Packet_moveTo (va_Pc [.ref (ad 9), .int a, .int b] (cB D n ad G M)) (wr_Q (none) D cls (cK n) ad (cE n ad G x)) 0 0 (wl_A (cK n) ad) := by
  refine k_met (by decide) (Nat.le_of_ble_eq_true rfl) ?_
  intro p e s m args below meth c S hr hlk hB ls hl
  obtain ⟨hx, hb, hml, hown, hts⟩ := id S
  obtain ⟨hP, hK, hA0⟩ := hB
  have hA := wl_own hA0
  have hl : lv_has ls 3 [(0, .ref (ad 9)), (1, .int a), (2, .int b)] := hl
  have hS : va_S (wl_A (cK n) ad) s.heap s.heap [] := va_S.rf
  unfold f_Packet_moveTo at hf
  refine lv_aload_n hx hb d_Packet_moveTo_0 rfl (lv_at hl 0 rfl) ?_
  refine lv_dup hx hb d_Packet_moveTo_1 rfl ?_
  refine va_get (D := D) (ci := 4) (v := .int (M 9 0 0 5)) (C := R_Packet) (T := F_Packet) (N := 7) hx hb hts in_Packet hown hK hP 9 (wl_to (PK_lt) (PK_at)) rfl 5 (by decide) (hts _ fl_Packet_25) (fun _ h => h) rfl d_Packet_moveTo_2 ?_
  refine lv_iconst (v := 1) hx hb d_Packet_moveTo_5 (by decide) ?_
  refine lv_isub hx hb d_Packet_moveTo_6 ?_
  refine m_put (x := ((M 9 0 0 5) - 1)) (ci := 4) (C := R_Packet) (T := F_Packet) (N := 7) hx hb hts in_Packet t_Packet ty_Packet nm_Packet hown hK hP hA hS cJ 9 (PK_lt) (Packet_fs ad) (fun _ => rfl) ⟨rfl, rfl, rfl⟩ rfl 5 (by decide) (hts _ fl_Packet_25) rfl (by decide +kernel) (fun _ => ⟨Nat.le_of_ble_eq_true rfl, rfl⟩) d_Packet_moveTo_7 (fun H locs hP hS => ?_)
  refine lv_aload_n hx hb d_Packet_moveTo_10 rfl (lv_at hl 0 rfl) ?_
  refine lv_iload_n hx hb d_Packet_moveTo_11 rfl (lv_at hl 2 rfl) ?_
  refine m_put (x := b) (ci := 4) (C := R_Packet) (T := F_Packet) (N := 7) hx hb hts in_Packet t_Packet ty_Packet nm_Packet hown hK hP hA hS cJ 9 (PK_lt) (Packet_fs ad) (fun _ => rfl) ⟨rfl, rfl, rfl⟩ rfl 6 (by decide) (hts _ fl_Packet_28) rfl (by decide +kernel) (fun _ => ⟨Nat.le_of_ble_eq_true rfl, rfl⟩) d_Packet_moveTo_12 (fun H locs hP hS => ?_)
  refine lv_aload_n hx hb d_Packet_moveTo_15 rfl (lv_at hl 0 rfl) ?_
  refine lv_iload_n hx hb d_Packet_moveTo_16 rfl (lv_at hl 1 rfl) ?_
  refine lv_iload_n hx hb d_Packet_moveTo_17 rfl (lv_at hl 2 rfl) ?_
  refine lv_if_ne (tgt := 25) hx hb d_Packet_moveTo_18 (by decide) (fun h18 => ?_) (fun h18 => ?_)
  · rw [if_neg h18] at hf
    refine lv_aload_n hx hb d_Packet_moveTo_25 rfl (lv_at hl 0 rfl) ?_
    refine lv_iload_n hx hb d_Packet_moveTo_26 rfl (lv_at hl 2 rfl) ?_
    refine lv_aload_n hx hb d_Packet_moveTo_27 rfl (lv_at hl 0 rfl) ?_
    obtain ⟨r28, hc28, hf⟩ := ob hf
    refine k_rdi (k_vir S (c_Packet_isForService (l := l) (D := D) (n := n) (ad := ad) (G := G) hc28) g_Packet_34 hd_Packet_isForService ⟨rfl, rfl⟩ ⟨Nat.le_of_ble_eq_true rfl, Nat.le_of_ble_eq_true rfl⟩ wl_blind (va_recv hK hP rfl (wl_to (PK_lt) (PK_at))) (wl_pre hP hK hA) rfl hl.1 rfl (Nat.le_of_ble_eq_true rfl) d_Packet_moveTo_28 (Nat.zero_le _) (Nat.zero_le _)) ?_
    refine lv_if_ne (tgt := 38) hx hb d_Packet_moveTo_31 (by decide) (fun h31 => ?_) (fun h31 => ?_)
    · rw [if_neg h31] at hf
      refine lv_iconst (v := 0) hx hb d_Packet_moveTo_38 (by decide) ?_
      obtain ⟨r39, hc39, hf⟩ := ob hf
      refine k_rdi (k_vir S (c_Packet_entryOf (l := l) (D := D) (n := n) (ad := ad) (G := G) hc39) g_Packet_38 hd_Packet_entryOf ⟨rfl, rfl⟩ ⟨Nat.le_of_ble_eq_true rfl, Nat.le_of_ble_eq_true rfl⟩ wl_blind (va_recv hK hP rfl (wl_to (PK_lt) (PK_at))) (wl_pre hP hK hA) rfl hl.1 rfl (Nat.le_of_ble_eq_true rfl) d_Packet_moveTo_39 (Nat.zero_le _) (Nat.zero_le _)) ?_
      obtain ⟨r42, hc42, hf⟩ := ob hf
      refine k_wrv (k_vir S (c_Packet_note (l := l) (D := D) (n := n) (ad := ad) (G := G) hc42) g_Packet_42 hd_Packet_note ⟨rfl, rfl⟩ ⟨Nat.le_of_ble_eq_true rfl, Nat.le_of_ble_eq_true rfl⟩ wl_blind (va_recv hK hP rfl (wl_to (PK_lt) (PK_at))) (wl_pre hP hK hA) rfl hl.1 rfl (Nat.le_of_ble_eq_true rfl) d_Packet_moveTo_42 (Nat.zero_le _) (Nat.zero_le _)) hS (fun _ h => h) (fun H locs hP _ _ hS => ?_)
      cases hf
      exact w_vret hx hb hr hlk hP hS d_Packet_moveTo_45
    · rw [if_pos h31] at hf
      refine lv_iconst (v := 1) hx hb d_Packet_moveTo_34 (by decide) ?_
      refine lv_goto (tgt := 39) hx hb d_Packet_moveTo_35 (by decide) ?_
      obtain ⟨r39, hc39, hf⟩ := ob hf
      refine k_rdi (k_vir S (c_Packet_entryOf (l := l) (D := D) (n := n) (ad := ad) (G := G) hc39) g_Packet_38 hd_Packet_entryOf ⟨rfl, rfl⟩ ⟨Nat.le_of_ble_eq_true rfl, Nat.le_of_ble_eq_true rfl⟩ wl_blind (va_recv hK hP rfl (wl_to (PK_lt) (PK_at))) (wl_pre hP hK hA) rfl hl.1 rfl (Nat.le_of_ble_eq_true rfl) d_Packet_moveTo_39 (Nat.zero_le _) (Nat.zero_le _)) ?_
      obtain ⟨r42, hc42, hf⟩ := ob hf
      refine k_wrv (k_vir S (c_Packet_note (l := l) (D := D) (n := n) (ad := ad) (G := G) hc42) g_Packet_42 hd_Packet_note ⟨rfl, rfl⟩ ⟨Nat.le_of_ble_eq_true rfl, Nat.le_of_ble_eq_true rfl⟩ wl_blind (va_recv hK hP rfl (wl_to (PK_lt) (PK_at))) (wl_pre hP hK hA) rfl hl.1 rfl (Nat.le_of_ble_eq_true rfl) d_Packet_moveTo_42 (Nat.zero_le _) (Nat.zero_le _)) hS (fun _ h => h) (fun H locs hP _ _ hS => ?_)
      cases hf
      exact w_vret hx hb hr hlk hP hS d_Packet_moveTo_45
  · rw [if_pos h18] at hf
    refine lv_iconst (v := 0) hx hb d_Packet_moveTo_21 (by decide) ?_
    refine lv_goto (tgt := 42) hx hb d_Packet_moveTo_22 (by decide) ?_
    obtain ⟨r42, hc42, hf⟩ := ob hf
    refine k_wrv (k_vir S (c_Packet_note (l := l) (D := D) (n := n) (ad := ad) (G := G) hc42) g_Packet_42 hd_Packet_note ⟨rfl, rfl⟩ ⟨Nat.le_of_ble_eq_true rfl, Nat.le_of_ble_eq_true rfl⟩ wl_blind (va_recv hK hP rfl (wl_to (PK_lt) (PK_at))) (wl_pre hP hK hA) rfl hl.1 rfl (Nat.le_of_ble_eq_true rfl) d_Packet_moveTo_42 (Nat.zero_le _) (Nat.zero_le _)) hS (fun _ h => h) (fun H locs hP _ _ hS => ?_)
    cases hf
    exact w_vret hx hb hr hlk hP hS d_Packet_moveTo_45
def f_Packet_pop (n : Nat) (M : Mem) : Option (Mem) :=
  some (mset M 9 0 0 6 0)
abbrev rm_Packet_pop : Room := { frames := 0, cells := 0, slots := 0, locals := 0 }
set_option maxHeartbeats 4000000 in
set_option maxRecDepth 100000 in
theorem c_Packet_pop {l : Launch} {D : va_G} {n : Nat} {ad : Nat → Nat} {G : Nat → ClassId}  {M : Mem} {x : Mem} (hf : f_Packet_pop n M = some x) : Met l y_Packet_pop (wc y_Packet_pop b_Packet_pop 1 (none)) rm_Packet_pop (va_Pc [.ref (ad 9)] (cB D n ad G M)) (wr_Q (none) D cls (cK n) ad (cE n ad G x)) 0 0 (wl_A (cK n) ad) := by
  refine k_met (by decide) (Nat.le_of_ble_eq_true rfl) ?_
  intro p e s m args below meth c S hr hlk hB ls hl
  obtain ⟨hx, hb, hml, hown, hts⟩ := id S
  obtain ⟨hP, hK, hA0⟩ := hB
  have hA := wl_own hA0
  have hl : lv_has ls 1 [(0, .ref (ad 9))] := hl
  have hS : va_S (wl_A (cK n) ad) s.heap s.heap [] := va_S.rf
  unfold f_Packet_pop at hf
  refine lv_aload_n hx hb d_Packet_pop_0 rfl (lv_at hl 0 rfl) ?_
  refine lv_iconst (v := 0) hx hb d_Packet_pop_1 (by decide) ?_
  refine m_put (x := 0) (ci := 4) (C := R_Packet) (T := F_Packet) (N := 7) hx hb hts in_Packet t_Packet ty_Packet nm_Packet hown hK hP hA hS cJ 9 (PK_lt) (Packet_fs ad) (fun _ => rfl) ⟨rfl, rfl, rfl⟩ rfl 6 (by decide) (hts _ fl_Packet_28) rfl (by decide +kernel) (fun _ => ⟨Nat.le_of_ble_eq_true rfl, rfl⟩) d_Packet_pop_2 (fun H locs hP hS => ?_)
  cases hf
  exact w_vret hx hb hr hlk hP hS d_Packet_pop_5
end
section
def f_LR_checkRange (a : Int32) (b : Int32) (z : Int32) : Option (Unit) :=
  if a < b then (none) else (if a ≤ z then (some ()) else (none))
abbrev rm_LR_checkRange : Room := { frames := 0, cells := 0, slots := 0, locals := 0 }
set_option maxHeartbeats 4000000 in
set_option maxRecDepth 100000 in
theorem c_LR_checkRange {l : Launch} {D : va_G} {n : Nat} {ad : Nat → Nat} {G : Nat → ClassId} {a : Int32} {b : Int32} {z : Int32}  {M : Mem} {x : Unit} (hf : f_LR_checkRange a b z = some x) : Met l y_LR_checkRange (wc y_LR_checkRange b_LR_checkRange 3 (none)) rm_LR_checkRange (va_Pc [.int a, .int b, .int z] (cB D n ad G M)) (rd_Q (none)) 0 0 (fun _ => False) := by
  refine k_met (by decide) (Nat.le_of_ble_eq_true rfl) ?_
  intro p e s m args below meth c S hr hlk hB ls hl
  obtain ⟨hx, hb, hml, hown, hts⟩ := id S
  obtain ⟨hP, hK, hA0⟩ := hB
  have hA := wl_own hA0
  have hl : lv_has ls 3 [(0, .int a), (1, .int b), (2, .int z)] := hl
  unfold f_LR_checkRange at hf
  refine lv_iload_n hx hb d_LR_checkRange_0 rfl (lv_at hl 0 rfl) ?_
  refine lv_iload_n hx hb d_LR_checkRange_1 rfl (lv_at hl 1 rfl) ?_
  refine lv_icmp_lt (tgt := 10) hx hb d_LR_checkRange_2 (by decide) (fun h2 => ?_) (fun h2 => ?_)
  · rw [if_pos h2] at hf
    cases hf
  · rw [if_neg h2] at hf
    refine lv_iload_n hx hb d_LR_checkRange_5 rfl (lv_at hl 0 rfl) ?_
    refine lv_iload_n hx hb d_LR_checkRange_6 rfl (lv_at hl 2 rfl) ?_
    refine lv_icmp_le (tgt := 20) hx hb d_LR_checkRange_7 (by decide) (fun h7 => ?_) (fun h7 => ?_)
    · rw [if_pos h7] at hf
      cases hf
      exact r_vret hx hb hr hlk d_LR_checkRange_20
    · rw [if_neg h7] at hf
      cases hf
def f_LR_checkRouter (n : Nat) (a : Int32) (M : Mem) : Option (Unit) :=
  (f_LR_checkRange a 0 ((nI n) - 1)).bind fun r8 => some ()
abbrev rm_LR_checkRouter : Room := { frames := 1, cells := 0, slots := 0, locals := 22 }
set_option maxHeartbeats 4000000 in
set_option maxRecDepth 100000 in
theorem c_LR_checkRouter {l : Launch} {D : va_G} {n : Nat} {ad : Nat → Nat} {G : Nat → ClassId} {a : Int32}  {M : Mem} {x : Unit} (hf : f_LR_checkRouter n a M = some x) : Met l y_LR_checkRouter (wc y_LR_checkRouter b_LR_checkRouter 2 (none)) rm_LR_checkRouter (va_Pc [.ref (ad 0), .int a] (cB D n ad G M)) (rd_Q (none)) 0 0 (fun _ => False) := by
  refine k_met (by decide) (Nat.le_of_ble_eq_true rfl) ?_
  intro p e s m args below meth c S hr hlk hB ls hl
  obtain ⟨hx, hb, hml, hown, hts⟩ := id S
  obtain ⟨hP, hK, hA0⟩ := hB
  have hA := wl_own hA0
  have hl : lv_has ls 2 [(0, .ref (ad 0)), (1, .int a)] := hl
  unfold f_LR_checkRouter at hf
  refine lv_iload_n hx hb d_LR_checkRouter_0 rfl (lv_at hl 1 rfl) ?_
  refine lv_iconst (v := 0) hx hb d_LR_checkRouter_1 (by decide) ?_
  refine lv_aload_n hx hb d_LR_checkRouter_2 rfl (lv_at hl 0 rfl) ?_
  refine va_get (D := D) (ci := 0) (v := .int (nI n)) (C := R_LR) (T := F_LR) (N := 6) hx hb hts in_LR hown hK hP 0 (wl_to (LR_lt) (LR_at)) rfl 0 (by decide) (hts _ fl_LR_18) (fun _ h => h) rfl d_LR_checkRouter_3 ?_
  refine lv_iconst (v := 1) hx hb d_LR_checkRouter_6 (by decide) ?_
  refine lv_isub hx hb d_LR_checkRouter_7 ?_
  obtain ⟨r8, hc8, hf⟩ := ob hf
  refine k_rdv (k_sta S (c_LR_checkRange (l := l) (D := D) (n := n) (ad := ad) (G := G) hc8) g_LR_66 hd_LR_checkRange ⟨rfl, rfl⟩ ⟨Nat.le_of_ble_eq_true rfl, Nat.le_of_ble_eq_true rfl⟩ wl_blind (wl_pre hP hK hA) rfl hl.1 rfl (Nat.le_of_ble_eq_true rfl) d_LR_checkRouter_8 (Nat.zero_le _) (Nat.zero_le _)) ?_
  cases hf
  exact r_vret hx hb hr hlk d_LR_checkRouter_11
def f_LR_checkRouterOrNone (n : Nat) (a : Int32) (M : Mem) : Option (Unit) :=
  (f_LR_checkRange a (-1) ((nI n) - 1)).bind fun r8 => some ()
abbrev rm_LR_checkRouterOrNone : Room := { frames := 1, cells := 0, slots := 0, locals := 22 }
set_option maxHeartbeats 4000000 in
set_option maxRecDepth 100000 in
theorem c_LR_checkRouterOrNone {l : Launch} {D : va_G} {n : Nat} {ad : Nat → Nat} {G : Nat → ClassId} {a : Int32}  {M : Mem} {x : Unit} (hf : f_LR_checkRouterOrNone n a M = some x) : Met l y_LR_checkRouterOrNone (wc y_LR_checkRouterOrNone b_LR_checkRouterOrNone 2 (none)) rm_LR_checkRouterOrNone (va_Pc [.ref (ad 0), .int a] (cB D n ad G M)) (rd_Q (none)) 0 0 (fun _ => False) := by
  refine k_met (by decide) (Nat.le_of_ble_eq_true rfl) ?_
  intro p e s m args below meth c S hr hlk hB ls hl
  obtain ⟨hx, hb, hml, hown, hts⟩ := id S
  obtain ⟨hP, hK, hA0⟩ := hB
  have hA := wl_own hA0
  have hl : lv_has ls 2 [(0, .ref (ad 0)), (1, .int a)] := hl
  unfold f_LR_checkRouterOrNone at hf
  refine lv_iload_n hx hb d_LR_checkRouterOrNone_0 rfl (lv_at hl 1 rfl) ?_
  refine lv_iconst (v := (-1)) hx hb d_LR_checkRouterOrNone_1 (by decide) ?_
  refine lv_aload_n hx hb d_LR_checkRouterOrNone_2 rfl (lv_at hl 0 rfl) ?_
  refine va_get (D := D) (ci := 0) (v := .int (nI n)) (C := R_LR) (T := F_LR) (N := 6) hx hb hts in_LR hown hK hP 0 (wl_to (LR_lt) (LR_at)) rfl 0 (by decide) (hts _ fl_LR_18) (fun _ h => h) rfl d_LR_checkRouterOrNone_3 ?_
  refine lv_iconst (v := 1) hx hb d_LR_checkRouterOrNone_6 (by decide) ?_
  refine lv_isub hx hb d_LR_checkRouterOrNone_7 ?_
  obtain ⟨r8, hc8, hf⟩ := ob hf
  refine k_rdv (k_sta S (c_LR_checkRange (l := l) (D := D) (n := n) (ad := ad) (G := G) hc8) g_LR_66 hd_LR_checkRange ⟨rfl, rfl⟩ ⟨Nat.le_of_ble_eq_true rfl, Nat.le_of_ble_eq_true rfl⟩ wl_blind (wl_pre hP hK hA) rfl hl.1 rfl (Nat.le_of_ble_eq_true rfl) d_LR_checkRouterOrNone_8 (Nat.zero_le _) (Nat.zero_le _)) ?_
  cases hf
  exact r_vret hx hb hr hlk d_LR_checkRouterOrNone_11
def f_LR_checkTwoRouters (n : Nat) (a : Int32) (b : Int32) (M : Mem) : Option (Unit) :=
  (f_LR_checkRouter n a M).bind fun r2 => (f_LR_checkRouter n b M).bind fun r7 => if a = b then (none) else (some ())
abbrev rm_LR_checkTwoRouters : Room := { frames := 2, cells := 0, slots := 0, locals := 43 }
set_option maxHeartbeats 4000000 in
set_option maxRecDepth 100000 in
theorem c_LR_checkTwoRouters {l : Launch} {D : va_G} {n : Nat} {ad : Nat → Nat} {G : Nat → ClassId} {a : Int32} {b : Int32}  {M : Mem} {x : Unit} (hf : f_LR_checkTwoRouters n a b M = some x) : Met l y_LR_checkTwoRouters (wc y_LR_checkTwoRouters b_LR_checkTwoRouters 3 (none)) rm_LR_checkTwoRouters (va_Pc [.ref (ad 0), .int a, .int b] (cB D n ad G M)) (rd_Q (none)) 0 0 (fun _ => False) := by
  refine k_met (by decide) (Nat.le_of_ble_eq_true rfl) ?_
  intro p e s m args below meth c S hr hlk hB ls hl
  obtain ⟨hx, hb, hml, hown, hts⟩ := id S
  obtain ⟨hP, hK, hA0⟩ := hB
  have hA := wl_own hA0
  have hl : lv_has ls 3 [(0, .ref (ad 0)), (1, .int a), (2, .int b)] := hl
  unfold f_LR_checkTwoRouters at hf
  refine lv_aload_n hx hb d_LR_checkTwoRouters_0 rfl (lv_at hl 0 rfl) ?_
  refine lv_iload_n hx hb d_LR_checkTwoRouters_1 rfl (lv_at hl 1 rfl) ?_
  obtain ⟨r2, hc2, hf⟩ := ob hf
  refine k_rdv (k_vir S (c_LR_checkRouter (l := l) (D := D) (n := n) (ad := ad) (G := G) hc2) g_LR_116 hd_LR_checkRouter ⟨rfl, rfl⟩ ⟨Nat.le_of_ble_eq_true rfl, Nat.le_of_ble_eq_true rfl⟩ wl_blind (va_recv hK hP rfl (wl_to (LR_lt) (LR_at))) (wl_pre hP hK hA) rfl hl.1 rfl (Nat.le_of_ble_eq_true rfl) d_LR_checkTwoRouters_2 (Nat.zero_le _) (Nat.zero_le _)) ?_
  refine lv_aload_n hx hb d_LR_checkTwoRouters_5 rfl (lv_at hl 0 rfl) ?_
  refine lv_iload_n hx hb d_LR_checkTwoRouters_6 rfl (lv_at hl 2 rfl) ?_
  obtain ⟨r7, hc7, hf⟩ := ob hf
  refine k_rdv (k_vir S (c_LR_checkRouter (l := l) (D := D) (n := n) (ad := ad) (G := G) hc7) g_LR_116 hd_LR_checkRouter ⟨rfl, rfl⟩ ⟨Nat.le_of_ble_eq_true rfl, Nat.le_of_ble_eq_true rfl⟩ wl_blind (va_recv hK hP rfl (wl_to (LR_lt) (LR_at))) (wl_pre hP hK hA) rfl hl.1 rfl (Nat.le_of_ble_eq_true rfl) d_LR_checkTwoRouters_7 (Nat.zero_le _) (Nat.zero_le _)) ?_
  refine lv_iload_n hx hb d_LR_checkTwoRouters_10 rfl (lv_at hl 1 rfl) ?_
  refine lv_iload_n hx hb d_LR_checkTwoRouters_11 rfl (lv_at hl 2 rfl) ?_
  refine lv_icmp_ne (tgt := 25) hx hb d_LR_checkTwoRouters_12 (by decide) (fun h12 => ?_) (fun h12 => ?_)
  · rw [if_neg h12] at hf
    cases hf
    exact r_vret hx hb hr hlk d_LR_checkTwoRouters_25
  · rw [if_pos h12] at hf
    cases hf
def f_LR_checkPrefix (a : Int32) : Option (Unit) :=
  (f_LR_checkRange a 0 3).bind fun r3 => some ()
abbrev rm_LR_checkPrefix : Room := { frames := 1, cells := 0, slots := 0, locals := 22 }
set_option maxHeartbeats 4000000 in
set_option maxRecDepth 100000 in
theorem c_LR_checkPrefix {l : Launch} {D : va_G} {n : Nat} {ad : Nat → Nat} {G : Nat → ClassId} {a : Int32}  {M : Mem} {x : Unit} (hf : f_LR_checkPrefix a = some x) : Met l y_LR_checkPrefix (wc y_LR_checkPrefix b_LR_checkPrefix 1 (none)) rm_LR_checkPrefix (va_Pc [.int a] (cB D n ad G M)) (rd_Q (none)) 0 0 (fun _ => False) := by
  refine k_met (by decide) (Nat.le_of_ble_eq_true rfl) ?_
  intro p e s m args below meth c S hr hlk hB ls hl
  obtain ⟨hx, hb, hml, hown, hts⟩ := id S
  obtain ⟨hP, hK, hA0⟩ := hB
  have hA := wl_own hA0
  have hl : lv_has ls 1 [(0, .int a)] := hl
  unfold f_LR_checkPrefix at hf
  refine lv_iload_n hx hb d_LR_checkPrefix_0 rfl (lv_at hl 0 rfl) ?_
  refine lv_iconst (v := 0) hx hb d_LR_checkPrefix_1 (by decide) ?_
  refine lv_iconst (v := 3) hx hb d_LR_checkPrefix_2 (by decide) ?_
  obtain ⟨r3, hc3, hf⟩ := ob hf
  refine k_rdv (k_sta S (c_LR_checkRange (l := l) (D := D) (n := n) (ad := ad) (G := G) hc3) g_LR_66 hd_LR_checkRange ⟨rfl, rfl⟩ ⟨Nat.le_of_ble_eq_true rfl, Nat.le_of_ble_eq_true rfl⟩ wl_blind (wl_pre hP hK hA) rfl hl.1 rfl (Nat.le_of_ble_eq_true rfl) d_LR_checkPrefix_3 (Nat.zero_le _) (Nat.zero_le _)) ?_
  cases hf
  exact r_vret hx hb hr hlk d_LR_checkPrefix_6
def f_LR_checkHop (n : Nat) (a : Int32) (M : Mem) : Option (Unit) :=
  if a < 0 then (none) else ((f_Packet_placeCount n M).bind fun r9 => if a < r9 then (some ()) else (none))
abbrev rm_LR_checkHop : Room := { frames := 1, cells := 0, slots := 0, locals := 20 }
set_option maxHeartbeats 4000000 in
set_option maxRecDepth 100000 in
theorem c_LR_checkHop {l : Launch} {D : va_G} {n : Nat} {ad : Nat → Nat} {G : Nat → ClassId} {a : Int32}  {M : Mem} {x : Unit} (hf : f_LR_checkHop n a M = some x) : Met l y_LR_checkHop (wc y_LR_checkHop b_LR_checkHop 2 (none)) rm_LR_checkHop (va_Pc [.ref (ad 0), .int a] (cB D n ad G M)) (rd_Q (none)) 0 0 (fun _ => False) := by
  refine k_met (by decide) (Nat.le_of_ble_eq_true rfl) ?_
  intro p e s m args below meth c S hr hlk hB ls hl
  obtain ⟨hx, hb, hml, hown, hts⟩ := id S
  obtain ⟨hP, hK, hA0⟩ := hB
  have hA := wl_own hA0
  have hl : lv_has ls 2 [(0, .ref (ad 0)), (1, .int a)] := hl
  unfold f_LR_checkHop at hf
  refine lv_iload_n hx hb d_LR_checkHop_0 rfl (lv_at hl 1 rfl) ?_
  refine lv_if_lt (tgt := 15) hx hb d_LR_checkHop_1 (by decide) (fun h1 => ?_) (fun h1 => ?_)
  · rw [if_pos h1] at hf
    cases hf
  · rw [if_neg h1] at hf
    refine lv_iload_n hx hb d_LR_checkHop_4 rfl (lv_at hl 1 rfl) ?_
    refine lv_aload_n hx hb d_LR_checkHop_5 rfl (lv_at hl 0 rfl) ?_
    refine va_get (D := D) (ci := 0) (v := .ref (ad 9)) (C := R_LR) (T := F_LR) (N := 6) hx hb hts in_LR hown hK hP 0 (wl_to (LR_lt) (LR_at)) rfl 5 (by decide) (hts _ fl_LR_58) (fun _ h => h) rfl d_LR_checkHop_6 ?_
    obtain ⟨r9, hc9, hf⟩ := ob hf
    refine k_rdi (k_vir S (c_Packet_placeCount (l := l) (D := D) (n := n) (ad := ad) (G := G) hc9) g_LR_141 hd_Packet_placeCount ⟨rfl, rfl⟩ ⟨Nat.le_of_ble_eq_true rfl, Nat.le_of_ble_eq_true rfl⟩ wl_blind (va_recv hK hP rfl (wl_to (PK_lt) (PK_at))) (wl_pre hP hK hA) rfl hl.1 rfl (Nat.le_of_ble_eq_true rfl) d_LR_checkHop_9 (Nat.zero_le _) (Nat.zero_le _)) ?_
    refine lv_icmp_lt (tgt := 25) hx hb d_LR_checkHop_12 (by decide) (fun h12 => ?_) (fun h12 => ?_)
    · rw [if_pos h12] at hf
      cases hf
      exact r_vret hx hb hr hlk d_LR_checkHop_25
    · rw [if_neg h12] at hf
      cases hf
def f_LR_cutOff (n : Nat) (a : Int32) (b : Int32) (M : Mem) : Option (Mem) :=
  (f_Mail_dropBetween n a b M).bind fun r6 => (ix a n).bind fun j14 => (f_Router_forget n j14 b r6).bind fun r16 => (ix b n).bind fun j24 => (f_Router_forget n j24 a r16).bind fun r26 => some r26
abbrev rm_LR_cutOff : Room := { frames := 2, cells := 0, slots := 0, locals := 47 }
set_option maxHeartbeats 4000000 in
set_option maxRecDepth 100000 in
theorem c_LR_cutOff {l : Launch} {D : va_G} {n : Nat} {ad : Nat → Nat} {G : Nat → ClassId} {a : Int32} {b : Int32}  {M : Mem} {x : Mem} (hf : f_LR_cutOff n a b M = some x) : Met l y_LR_cutOff (wc y_LR_cutOff b_LR_cutOff 3 (none)) rm_LR_cutOff (va_Pc [.ref (ad 0), .int a, .int b] (cB D n ad G M)) (wr_Q (none) D cls (cK n) ad (cE n ad G x)) 0 0 (wl_A (cK n) ad) := by
  refine k_met (by decide) (Nat.le_of_ble_eq_true rfl) ?_
  intro p e s m args below meth c S hr hlk hB ls hl
  obtain ⟨hx, hb, hml, hown, hts⟩ := id S
  obtain ⟨hP, hK, hA0⟩ := hB
  have hA := wl_own hA0
  have hl : lv_has ls 3 [(0, .ref (ad 0)), (1, .int a), (2, .int b)] := hl
  have hS : va_S (wl_A (cK n) ad) s.heap s.heap [] := va_S.rf
  unfold f_LR_cutOff at hf
  refine lv_aload_n hx hb d_LR_cutOff_0 rfl (lv_at hl 0 rfl) ?_
  refine va_get (D := D) (ci := 0) (v := .ref (ad 5)) (C := R_LR) (T := F_LR) (N := 6) hx hb hts in_LR hown hK hP 0 (wl_to (LR_lt) (LR_at)) rfl 2 (by decide) (hts _ fl_LR_34) (fun _ h => h) rfl d_LR_cutOff_1 ?_
  refine lv_iload_n hx hb d_LR_cutOff_4 rfl (lv_at hl 1 rfl) ?_
  refine lv_iload_n hx hb d_LR_cutOff_5 rfl (lv_at hl 2 rfl) ?_
  obtain ⟨r6, hc6, hf⟩ := ob hf
  refine k_wrv (k_vir S (c_Mail_dropBetween (l := l) (D := D) (n := n) (ad := ad) (G := G) hc6) g_LR_167 hd_Mail_dropBetween ⟨rfl, rfl⟩ ⟨Nat.le_of_ble_eq_true rfl, Nat.le_of_ble_eq_true rfl⟩ wl_blind (va_recv hK hP rfl (wl_to (Mail_lt) (Mail_at))) (wl_pre hP hK hA) rfl hl.1 rfl (Nat.le_of_ble_eq_true rfl) d_LR_cutOff_6 (Nat.zero_le _) (Nat.zero_le _)) hS (fun _ h => h) (fun H locs hP _ _ hS => ?_)
  refine lv_aload_n hx hb d_LR_cutOff_9 rfl (lv_at hl 0 rfl) ?_
  refine va_get (D := D) (ci := 0) (v := .ref (ad 7)) (C := R_LR) (T := F_LR) (N := 6) hx hb hts in_LR hown hK hP 0 (wl_to (LR_lt) (LR_at)) rfl 3 (by decide) (hts _ fl_LR_40) (fun _ h => h) rfl d_LR_cutOff_10 ?_
  refine lv_iload_n hx hb d_LR_cutOff_13 rfl (lv_at hl 1 rfl) ?_
  obtain ⟨j14, hj14, hf⟩ := ob hf
  refine k_aald hx hb hK hP 7 2 (RA_lt) (RA_at) rfl hj14 rfl d_LR_cutOff_14 ?_
  refine lv_iload_n hx hb d_LR_cutOff_15 rfl (lv_at hl 2 rfl) ?_
  obtain ⟨r16, hc16, hf⟩ := ob hf
  refine k_wrv (k_vir S (c_Router_forget (l := l) (D := D) (n := n) (ad := ad) (G := G) (ix_lt hj14) hc16) g_LR_170 hd_Router_forget ⟨rfl, rfl⟩ ⟨Nat.le_of_ble_eq_true rfl, Nat.le_of_ble_eq_true rfl⟩ wl_blind (va_recv hK hP rfl (wl_to (RT_lt (ix_lt hj14)) (RT_at (ix_lt hj14)))) (wl_pre hP hK hA) rfl hl.1 rfl (Nat.le_of_ble_eq_true rfl) d_LR_cutOff_16 (Nat.zero_le _) (Nat.zero_le _)) hS (fun _ h => h) (fun H locs hP _ _ hS => ?_)
  refine lv_aload_n hx hb d_LR_cutOff_19 rfl (lv_at hl 0 rfl) ?_
  refine va_get (D := D) (ci := 0) (v := .ref (ad 7)) (C := R_LR) (T := F_LR) (N := 6) hx hb hts in_LR hown hK hP 0 (wl_to (LR_lt) (LR_at)) rfl 3 (by decide) (hts _ fl_LR_40) (fun _ h => h) rfl d_LR_cutOff_20 ?_
  refine lv_iload_n hx hb d_LR_cutOff_23 rfl (lv_at hl 2 rfl) ?_
  obtain ⟨j24, hj24, hf⟩ := ob hf
  refine k_aald hx hb hK hP 7 2 (RA_lt) (RA_at) rfl hj24 rfl d_LR_cutOff_24 ?_
  refine lv_iload_n hx hb d_LR_cutOff_25 rfl (lv_at hl 1 rfl) ?_
  obtain ⟨r26, hc26, hf⟩ := ob hf
  refine k_wrv (k_vir S (c_Router_forget (l := l) (D := D) (n := n) (ad := ad) (G := G) (ix_lt hj24) hc26) g_LR_170 hd_Router_forget ⟨rfl, rfl⟩ ⟨Nat.le_of_ble_eq_true rfl, Nat.le_of_ble_eq_true rfl⟩ wl_blind (va_recv hK hP rfl (wl_to (RT_lt (ix_lt hj24)) (RT_at (ix_lt hj24)))) (wl_pre hP hK hA) rfl hl.1 rfl (Nat.le_of_ble_eq_true rfl) d_LR_cutOff_26 (Nat.zero_le _) (Nat.zero_le _)) hS (fun _ h => h) (fun H locs hP _ _ hS => ?_)
  cases hf
  exact w_vret hx hb hr hlk hP hS d_LR_cutOff_29
def f_LR_tellLabels_2 (n : Nat) (a : Int32) (b : Int32) : Nat → Int32 → Mem → Option (Mem)
  | 0, _, _ => none
  | k2 + 1, v3_2, N2 =>
    if 4 ≤ v3_2 then (some N2) else ((ix a n).bind fun j12 => (f_Router_labelOf n j12 v3_2 N2).bind fun r14 => if r14 = 0 then (f_LR_tellLabels_2 n a b k2 (v3_2 + 1) N2) else ((f_Mail_post n 1 a b v3_2 r14 N2).bind fun r34 => f_LR_tellLabels_2 n a b k2 (v3_2 + 1) r34))
def f_LR_tellLabels (n : Nat) (a : Int32) (b : Int32) (M : Mem) : Option (Mem) :=
  f_LR_tellLabels_2 n a b 1000 0 M
abbrev rm_LR_tellLabels : Room := { frames := 1, cells := 0, slots := 0, locals := 25 }
set_option maxHeartbeats 4000000 in
set_option maxRecDepth 100000 in
theorem c_LR_tellLabels {l : Launch} {D : va_G} {n : Nat} {ad : Nat → Nat} {G : Nat → ClassId} {a : Int32} {b : Int32}  {M : Mem} {x : Mem} (hf : f_LR_tellLabels n a b M = some x) : Met l y_LR_tellLabels (wc y_LR_tellLabels b_LR_tellLabels 5 (none)) rm_LR_tellLabels (va_Pc [.ref (ad 0), .int a, .int b] (cB D n ad G M)) (wr_Q (none) D cls (cK n) ad (cE n ad G x)) 0 0 (wl_A (cK n) ad) := by
  refine k_met (by decide) (Nat.le_of_ble_eq_true rfl) ?_
  intro p e s m args below meth c S hr hlk hB ls hl
  obtain ⟨hx, hb, hml, hown, hts⟩ := id S
  obtain ⟨hP, hK, hA0⟩ := hB
  have hA := wl_own hA0
  have hl : lv_has ls 5 [(0, .ref (ad 0)), (1, .int a), (2, .int b)] := hl
  have hS : va_S (wl_A (cK n) ad) s.heap s.heap [] := va_S.rf
  unfold f_LR_tellLabels at hf
  refine lv_iconst (v := 0) hx hb d_LR_tellLabels_0 (by decide) ?_
  refine lv_istore_n (lv' := [(3, .int 0), (0, .ref (ad 0)), (1, .int a), (2, .int b)]) hx hb d_LR_tellLabels_1 rfl hl (by decide) rfl (fun ls hl => ?_)
  have L2 : ∀ (k2 : Nat) (v3_2 : Int32) (N2 : Mem) (H : Heap) (locs : List Loc) (ls : Array Slot), lv_has ls 5 [(3, .int v3_2), (0, .ref (ad 0)), (1, .int a), (2, .int b)] → va_P D cls (cW n ad G N2) H → va_S (wl_A (cK n) ad) s.heap H locs → f_LR_tellLabels_2 n a b k2 v3_2 N2 = some x → W p l e rm_LR_tellLabels s m args below meth c H locs 0 0 (MQ below (wr_Q (none) D cls (cK n) ad (cE n ad G x)) args s 0 0 (wl_A (cK n) ad)) (F0 m 2 ls []) := by
    intro k2
    induction k2 with
    | zero =>
      intro v3_2 N2 H locs ls hl hP hS hf
      simp [f_LR_tellLabels_2] at hf
    | succ k2 ih2 =>
      intro v3_2 N2 H locs ls hl hP hS hf
      rw [f_LR_tellLabels_2] at hf
      refine lv_iload_n hx hb d_LR_tellLabels_2 rfl (lv_at hl 0 rfl) ?_
      refine lv_iconst (v := 4) hx hb d_LR_tellLabels_3 (by decide) ?_
      refine lv_icmp_ge (tgt := 43) hx hb d_LR_tellLabels_4 (by decide) (fun h4 => ?_) (fun h4 => ?_)
      · rw [if_pos h4] at hf
        cases hf
        exact w_vret hx hb hr hlk hP hS d_LR_tellLabels_43
      · rw [if_neg h4] at hf
        refine lv_aload_n hx hb d_LR_tellLabels_7 rfl (lv_at hl 1 rfl) ?_
        refine va_get (D := D) (ci := 0) (v := .ref (ad 7)) (C := R_LR) (T := F_LR) (N := 6) hx hb hts in_LR hown hK hP 0 (wl_to (LR_lt) (LR_at)) rfl 3 (by decide) (hts _ fl_LR_40) (fun _ h => h) rfl d_LR_tellLabels_8 ?_
        refine lv_iload_n hx hb d_LR_tellLabels_11 rfl (lv_at hl 2 rfl) ?_
        obtain ⟨j12, hj12, hf⟩ := ob hf
        refine k_aald hx hb hK hP 7 2 (RA_lt) (RA_at) rfl hj12 rfl d_LR_tellLabels_12 ?_
        refine lv_iload_n hx hb d_LR_tellLabels_13 rfl (lv_at hl 0 rfl) ?_
        obtain ⟨r14, hc14, hf⟩ := ob hf
        refine k_rdi (k_vir S (c_Router_labelOf (l := l) (D := D) (n := n) (ad := ad) (G := G) (ix_lt hj12) hc14) g_LR_125 hd_Router_labelOf ⟨rfl, rfl⟩ ⟨Nat.le_of_ble_eq_true rfl, Nat.le_of_ble_eq_true rfl⟩ wl_blind (va_recv hK hP rfl (wl_to (RT_lt (ix_lt hj12)) (RT_at (ix_lt hj12)))) (wl_pre hP hK hA) rfl hl.1 rfl (Nat.le_of_ble_eq_true rfl) d_LR_tellLabels_14 (Nat.zero_le _) (Nat.zero_le _)) ?_
        refine lv_istore (lv' := [(4, .int r14), (3, .int v3_2), (0, .ref (ad 0)), (1, .int a), (2, .int b)]) hx hb d_LR_tellLabels_17 hl (by decide) rfl (fun ls hl => ?_)
        refine lv_iload hx hb d_LR_tellLabels_19 (lv_at hl 0 rfl) ?_
        refine lv_if_eq (tgt := 37) hx hb d_LR_tellLabels_21 (by decide) (fun h21 => ?_) (fun h21 => ?_)
        · rw [if_pos h21] at hf
          refine lv_iinc (v := (v3_2 + 1)) (lv' := [(3, .int (v3_2 + 1)), (4, .int r14), (0, .ref (ad 0)), (1, .int a), (2, .int b)]) hx hb d_LR_tellLabels_37 hl (k := 1) rfl rfl (by decide) rfl (fun ls hl => ?_)
          refine lv_goto (tgt := 2) hx hb d_LR_tellLabels_40 (by decide) ?_
          exact ih2 _ _ _ _ _ (lv_sub hl [0, 2, 3, 4] rfl) hP hS hf
        · rw [if_neg h21] at hf
          refine lv_aload_n hx hb d_LR_tellLabels_24 rfl (lv_at hl 2 rfl) ?_
          refine va_get (D := D) (ci := 0) (v := .ref (ad 5)) (C := R_LR) (T := F_LR) (N := 6) hx hb hts in_LR hown hK hP 0 (wl_to (LR_lt) (LR_at)) rfl 2 (by decide) (hts _ fl_LR_34) (fun _ h => h) rfl d_LR_tellLabels_25 ?_
          refine lv_iconst (v := 1) hx hb d_LR_tellLabels_28 (by decide) ?_
          refine lv_iload_n hx hb d_LR_tellLabels_29 rfl (lv_at hl 3 rfl) ?_
          refine lv_iload_n hx hb d_LR_tellLabels_30 rfl (lv_at hl 4 rfl) ?_
          refine lv_iload_n hx hb d_LR_tellLabels_31 rfl (lv_at hl 1 rfl) ?_
          refine lv_iload hx hb d_LR_tellLabels_32 (lv_at hl 0 rfl) ?_
          obtain ⟨r34, hc34, hf⟩ := ob hf
          refine k_wrv (k_vir S (c_Mail_post (l := l) (D := D) (n := n) (ad := ad) (G := G) hc34) g_LR_173 hd_Mail_post ⟨rfl, rfl⟩ ⟨Nat.le_of_ble_eq_true rfl, Nat.le_of_ble_eq_true rfl⟩ wl_blind (va_recv hK hP rfl (wl_to (Mail_lt) (Mail_at))) (wl_pre hP hK hA) rfl hl.1 rfl (Nat.le_of_ble_eq_true rfl) d_LR_tellLabels_34 (Nat.zero_le _) (Nat.zero_le _)) hS (fun _ h => h) (fun H locs hP _ _ hS => ?_)
          refine lv_iinc (v := (v3_2 + 1)) (lv' := [(3, .int (v3_2 + 1)), (4, .int r14), (0, .ref (ad 0)), (1, .int a), (2, .int b)]) hx hb d_LR_tellLabels_37 hl (k := 1) rfl rfl (by decide) rfl (fun ls hl => ?_)
          refine lv_goto (tgt := 2) hx hb d_LR_tellLabels_40 (by decide) ?_
          exact ih2 _ _ _ _ _ (lv_sub hl [0, 2, 3, 4] rfl) hP hS hf
  exact L2 _ _ _ _ _ _ (lv_sub hl [0, 1, 2, 3] rfl) hP hS hf
def f_LR_isReady (n : Nat) (a : Int32) (b : Int32) (M : Mem) : Option (Int32) :=
  (f_Ways_owns n a b M).bind fun r6 => if r6 = 0 then ((f_Ways_nextOf n a b M).bind fun r20 => if r20 = (-1) then (some 0) else ((ix a n).bind fun j34 => (f_Router_toldBy n j34 r20 b M).bind fun r37 => if r37 = 0 then (some 0) else (some 1))) else (some 1)
abbrev rm_LR_isReady : Room := { frames := 2, cells := 0, slots := 0, locals := 46 }
set_option maxHeartbeats 4000000 in
set_option maxRecDepth 100000 in
theorem c_LR_isReady {l : Launch} {D : va_G} {n : Nat} {ad : Nat → Nat} {G : Nat → ClassId} {a : Int32} {b : Int32}  {M : Mem} {x : Int32} (hf : f_LR_isReady n a b M = some x) : Met l y_LR_isReady (wc y_LR_isReady b_LR_isReady 4 (some .boolean)) rm_LR_isReady (va_Pc [.ref (ad 0), .int a, .int b] (cB D n ad G M)) (rd_Q (some (.int x))) 0 0 (fun _ => False) := by
  refine k_met (by decide) (Nat.le_of_ble_eq_true rfl) ?_
  intro p e s m args below meth c S hr hlk hB ls hl
  obtain ⟨hx, hb, hml, hown, hts⟩ := id S
  obtain ⟨hP, hK, hA0⟩ := hB
  have hA := wl_own hA0
  have hl : lv_has ls 4 [(0, .ref (ad 0)), (1, .int a), (2, .int b)] := hl
  unfold f_LR_isReady at hf
  refine lv_aload_n hx hb d_LR_isReady_0 rfl (lv_at hl 0 rfl) ?_
  refine va_get (D := D) (ci := 0) (v := .ref (ad 1)) (C := R_LR) (T := F_LR) (N := 6) hx hb hts in_LR hown hK hP 0 (wl_to (LR_lt) (LR_at)) rfl 1 (by decide) (hts _ fl_LR_27) (fun _ h => h) rfl d_LR_isReady_1 ?_
  refine lv_iload_n hx hb d_LR_isReady_4 rfl (lv_at hl 1 rfl) ?_
  refine lv_iload_n hx hb d_LR_isReady_5 rfl (lv_at hl 2 rfl) ?_
  obtain ⟨r6, hc6, hf⟩ := ob hf
  refine k_rdi (k_vir S (c_Ways_owns (l := l) (D := D) (n := n) (ad := ad) (G := G) hc6) g_LR_193 hd_Ways_owns ⟨rfl, rfl⟩ ⟨Nat.le_of_ble_eq_true rfl, Nat.le_of_ble_eq_true rfl⟩ wl_blind (va_recv hK hP rfl (wl_to (Ways_lt) (Ways_at))) (wl_pre hP hK hA) rfl hl.1 rfl (Nat.le_of_ble_eq_true rfl) d_LR_isReady_6 (Nat.zero_le _) (Nat.zero_le _)) ?_
  refine lv_if_eq (tgt := 14) hx hb d_LR_isReady_9 (by decide) (fun h9 => ?_) (fun h9 => ?_)
  · rw [if_pos h9] at hf
    refine lv_aload_n hx hb d_LR_isReady_14 rfl (lv_at hl 0 rfl) ?_
    refine va_get (D := D) (ci := 0) (v := .ref (ad 1)) (C := R_LR) (T := F_LR) (N := 6) hx hb hts in_LR hown hK hP 0 (wl_to (LR_lt) (LR_at)) rfl 1 (by decide) (hts _ fl_LR_27) (fun _ h => h) rfl d_LR_isReady_15 ?_
    refine lv_iload_n hx hb d_LR_isReady_18 rfl (lv_at hl 1 rfl) ?_
    refine lv_iload_n hx hb d_LR_isReady_19 rfl (lv_at hl 2 rfl) ?_
    obtain ⟨r20, hc20, hf⟩ := ob hf
    refine k_rdi (k_vir S (c_Ways_nextOf (l := l) (D := D) (n := n) (ad := ad) (G := G) hc20) g_LR_122 hd_Ways_nextOf ⟨rfl, rfl⟩ ⟨Nat.le_of_ble_eq_true rfl, Nat.le_of_ble_eq_true rfl⟩ wl_blind (va_recv hK hP rfl (wl_to (Ways_lt) (Ways_at))) (wl_pre hP hK hA) rfl hl.1 rfl (Nat.le_of_ble_eq_true rfl) d_LR_isReady_20 (Nat.zero_le _) (Nat.zero_le _)) ?_
    refine lv_istore_n (lv' := [(3, .int r20), (0, .ref (ad 0)), (1, .int a), (2, .int b)]) hx hb d_LR_isReady_23 rfl hl (by decide) rfl (fun ls hl => ?_)
    refine lv_iload_n hx hb d_LR_isReady_24 rfl (lv_at hl 0 rfl) ?_
    refine lv_iconst (v := (-1)) hx hb d_LR_isReady_25 (by decide) ?_
    refine lv_icmp_eq (tgt := 47) hx hb d_LR_isReady_26 (by decide) (fun h26 => ?_) (fun h26 => ?_)
    · rw [if_pos h26] at hf
      refine lv_iconst (v := 0) hx hb d_LR_isReady_47 (by decide) ?_
      cases hf
      exact r_zret hx hb hr hlk (by decide) d_LR_isReady_48
    · rw [if_neg h26] at hf
      refine lv_aload_n hx hb d_LR_isReady_29 rfl (lv_at hl 1 rfl) ?_
      refine va_get (D := D) (ci := 0) (v := .ref (ad 7)) (C := R_LR) (T := F_LR) (N := 6) hx hb hts in_LR hown hK hP 0 (wl_to (LR_lt) (LR_at)) rfl 3 (by decide) (hts _ fl_LR_40) (fun _ h => h) rfl d_LR_isReady_30 ?_
      refine lv_iload_n hx hb d_LR_isReady_33 rfl (lv_at hl 2 rfl) ?_
      obtain ⟨j34, hj34, hf⟩ := ob hf
      refine k_aald hx hb hK hP 7 2 (RA_lt) (RA_at) rfl hj34 rfl d_LR_isReady_34 ?_
      refine lv_iload_n hx hb d_LR_isReady_35 rfl (lv_at hl 0 rfl) ?_
      refine lv_iload_n hx hb d_LR_isReady_36 rfl (lv_at hl 3 rfl) ?_
      obtain ⟨r37, hc37, hf⟩ := ob hf
      refine k_rdi (k_vir S (c_Router_toldBy (l := l) (D := D) (n := n) (ad := ad) (G := G) (ix_lt hj34) hc37) g_LR_128 hd_Router_toldBy ⟨rfl, rfl⟩ ⟨Nat.le_of_ble_eq_true rfl, Nat.le_of_ble_eq_true rfl⟩ wl_blind (va_recv hK hP rfl (wl_to (RT_lt (ix_lt hj34)) (RT_at (ix_lt hj34)))) (wl_pre hP hK hA) rfl hl.1 rfl (Nat.le_of_ble_eq_true rfl) d_LR_isReady_37 (Nat.zero_le _) (Nat.zero_le _)) ?_
      refine lv_if_eq (tgt := 47) hx hb d_LR_isReady_40 (by decide) (fun h40 => ?_) (fun h40 => ?_)
      · rw [if_pos h40] at hf
        refine lv_iconst (v := 0) hx hb d_LR_isReady_47 (by decide) ?_
        cases hf
        exact r_zret hx hb hr hlk (by decide) d_LR_isReady_48
      · rw [if_neg h40] at hf
        refine lv_iconst (v := 1) hx hb d_LR_isReady_43 (by decide) ?_
        refine lv_goto (tgt := 48) hx hb d_LR_isReady_44 (by decide) ?_
        cases hf
        exact r_zret hx hb hr hlk (by decide) d_LR_isReady_48
  · rw [if_neg h9] at hf
    refine lv_iconst (v := 1) hx hb d_LR_isReady_12 (by decide) ?_
    cases hf
    exact r_zret hx hb hr hlk (by decide) d_LR_isReady_13
def f_LR_giveLabel_29 (n : Nat) (a : Int32) (b : Int32) (r6 : Int32) : Nat → Int32 → Mem → Option (Mem)
  | 0, _, _ => none
  | k29 + 1, v4_29, N29 =>
    if (nI n) ≤ v4_29 then (some N29) else ((f_Ways_areLinked n a v4_29 N29).bind fun r45 => if r45 = 0 then (f_LR_giveLabel_29 n a b r6 k29 (v4_29 + 1) N29) else ((f_Mail_post n 1 a v4_29 b r6 N29).bind fun r61 => f_LR_giveLabel_29 n a b r6 k29 (v4_29 + 1) r61))
def f_LR_giveLabel (n : Nat) (a : Int32) (b : Int32) (M : Mem) : Option (Mem) :=
  (ix a n).bind fun j5 => (f_Router_leastFree n j5 M).bind fun r6 => if r6 = 0 then (some M) else ((ix a n).bind fun j20 => (f_Router_setLabel n j20 b r6 M).bind fun r23 => f_LR_giveLabel_29 n a b r6 1000 0 r23)
abbrev rm_LR_giveLabel : Room := { frames := 2, cells := 0, slots := 0, locals := 44 }
set_option maxHeartbeats 4000000 in
set_option maxRecDepth 100000 in
theorem c_LR_giveLabel {l : Launch} {D : va_G} {n : Nat} {ad : Nat → Nat} {G : Nat → ClassId} {a : Int32} {b : Int32}  {M : Mem} {x : Mem} (hf : f_LR_giveLabel n a b M = some x) : Met l y_LR_giveLabel (wc y_LR_giveLabel b_LR_giveLabel 5 (none)) rm_LR_giveLabel (va_Pc [.ref (ad 0), .int a, .int b] (cB D n ad G M)) (wr_Q (none) D cls (cK n) ad (cE n ad G x)) 0 0 (wl_A (cK n) ad) := by
  refine k_met (by decide) (Nat.le_of_ble_eq_true rfl) ?_
  intro p e s m args below meth c S hr hlk hB ls hl
  obtain ⟨hx, hb, hml, hown, hts⟩ := id S
  obtain ⟨hP, hK, hA0⟩ := hB
  have hA := wl_own hA0
  have hl : lv_has ls 5 [(0, .ref (ad 0)), (1, .int a), (2, .int b)] := hl
  have hS : va_S (wl_A (cK n) ad) s.heap s.heap [] := va_S.rf
  unfold f_LR_giveLabel at hf
  refine lv_aload_n hx hb d_LR_giveLabel_0 rfl (lv_at hl 0 rfl) ?_
  refine va_get (D := D) (ci := 0) (v := .ref (ad 7)) (C := R_LR) (T := F_LR) (N := 6) hx hb hts in_LR hown hK hP 0 (wl_to (LR_lt) (LR_at)) rfl 3 (by decide) (hts _ fl_LR_40) (fun _ h => h) rfl d_LR_giveLabel_1 ?_
  refine lv_iload_n hx hb d_LR_giveLabel_4 rfl (lv_at hl 1 rfl) ?_
  obtain ⟨j5, hj5, hf⟩ := ob hf
  refine k_aald hx hb hK hP 7 2 (RA_lt) (RA_at) rfl hj5 rfl d_LR_giveLabel_5 ?_
  obtain ⟨r6, hc6, hf⟩ := ob hf
  refine k_rdi (k_vir S (c_Router_leastFree (l := l) (D := D) (n := n) (ad := ad) (G := G) (ix_lt hj5) hc6) g_LR_196 hd_Router_leastFree ⟨rfl, rfl⟩ ⟨Nat.le_of_ble_eq_true rfl, Nat.le_of_ble_eq_true rfl⟩ wl_blind (va_recv hK hP rfl (wl_to (RT_lt (ix_lt hj5)) (RT_at (ix_lt hj5)))) (wl_pre hP hK hA) rfl hl.1 rfl (Nat.le_of_ble_eq_true rfl) d_LR_giveLabel_6 (Nat.zero_le _) (Nat.zero_le _)) ?_
  refine lv_istore_n (lv' := [(3, .int r6), (0, .ref (ad 0)), (1, .int a), (2, .int b)]) hx hb d_LR_giveLabel_9 rfl hl (by decide) rfl (fun ls hl => ?_)
  refine lv_iload_n hx hb d_LR_giveLabel_10 rfl (lv_at hl 0 rfl) ?_
  refine lv_if_ne (tgt := 15) hx hb d_LR_giveLabel_11 (by decide) (fun h11 => ?_) (fun h11 => ?_)
  · rw [if_neg h11] at hf
    refine lv_aload_n hx hb d_LR_giveLabel_15 rfl (lv_at hl 1 rfl) ?_
    refine va_get (D := D) (ci := 0) (v := .ref (ad 7)) (C := R_LR) (T := F_LR) (N := 6) hx hb hts in_LR hown hK hP 0 (wl_to (LR_lt) (LR_at)) rfl 3 (by decide) (hts _ fl_LR_40) (fun _ h => h) rfl d_LR_giveLabel_16 ?_
    refine lv_iload_n hx hb d_LR_giveLabel_19 rfl (lv_at hl 2 rfl) ?_
    obtain ⟨j20, hj20, hf⟩ := ob hf
    refine k_aald hx hb hK hP 7 2 (RA_lt) (RA_at) rfl hj20 rfl d_LR_giveLabel_20 ?_
    refine lv_iload_n hx hb d_LR_giveLabel_21 rfl (lv_at hl 3 rfl) ?_
    refine lv_iload_n hx hb d_LR_giveLabel_22 rfl (lv_at hl 0 rfl) ?_
    obtain ⟨r23, hc23, hf⟩ := ob hf
    refine k_wrv (k_vir S (c_Router_setLabel (l := l) (D := D) (n := n) (ad := ad) (G := G) (ix_lt hj20) hc23) g_LR_199 hd_Router_setLabel ⟨rfl, rfl⟩ ⟨Nat.le_of_ble_eq_true rfl, Nat.le_of_ble_eq_true rfl⟩ wl_blind (va_recv hK hP rfl (wl_to (RT_lt (ix_lt hj20)) (RT_at (ix_lt hj20)))) (wl_pre hP hK hA) rfl hl.1 rfl (Nat.le_of_ble_eq_true rfl) d_LR_giveLabel_23 (Nat.zero_le _) (Nat.zero_le _)) hS (fun _ h => h) (fun H locs hP _ _ hS => ?_)
    refine lv_iconst (v := 0) hx hb d_LR_giveLabel_26 (by decide) ?_
    refine lv_istore (lv' := [(4, .int 0), (3, .int r6), (0, .ref (ad 0)), (1, .int a), (2, .int b)]) hx hb d_LR_giveLabel_27 hl (by decide) rfl (fun ls hl => ?_)
    have L29 : ∀ (k29 : Nat) (v4_29 : Int32) (N29 : Mem) (H : Heap) (locs : List Loc) (ls : Array Slot), lv_has ls 5 [(4, .int v4_29), (3, .int r6), (0, .ref (ad 0)), (1, .int a), (2, .int b)] → va_P D cls (cW n ad G N29) H → va_S (wl_A (cK n) ad) s.heap H locs → f_LR_giveLabel_29 n a b r6 k29 v4_29 N29 = some x → W p l e rm_LR_giveLabel s m args below meth c H locs 0 0 (MQ below (wr_Q (none) D cls (cK n) ad (cE n ad G x)) args s 0 0 (wl_A (cK n) ad)) (F0 m 29 ls []) := by
      intro k29
      induction k29 with
      | zero =>
        intro v4_29 N29 H locs ls hl hP hS hf
        simp [f_LR_giveLabel_29] at hf
      | succ k29 ih29 =>
        intro v4_29 N29 H locs ls hl hP hS hf
        rw [f_LR_giveLabel_29] at hf
        refine lv_iload hx hb d_LR_giveLabel_29 (lv_at hl 0 rfl) ?_
        refine lv_aload_n hx hb d_LR_giveLabel_31 rfl (lv_at hl 2 rfl) ?_
        refine va_get (D := D) (ci := 0) (v := .int (nI n)) (C := R_LR) (T := F_LR) (N := 6) hx hb hts in_LR hown hK hP 0 (wl_to (LR_lt) (LR_at)) rfl 0 (by decide) (hts _ fl_LR_18) (fun _ h => h) rfl d_LR_giveLabel_32 ?_
        refine lv_icmp_ge (tgt := 70) hx hb d_LR_giveLabel_35 (by decide) (fun h35 => ?_) (fun h35 => ?_)
        · rw [if_pos h35] at hf
          cases hf
          exact w_vret hx hb hr hlk hP hS d_LR_giveLabel_70
        · rw [if_neg h35] at hf
          refine lv_aload_n hx hb d_LR_giveLabel_38 rfl (lv_at hl 2 rfl) ?_
          refine va_get (D := D) (ci := 0) (v := .ref (ad 1)) (C := R_LR) (T := F_LR) (N := 6) hx hb hts in_LR hown hK hP 0 (wl_to (LR_lt) (LR_at)) rfl 1 (by decide) (hts _ fl_LR_27) (fun _ h => h) rfl d_LR_giveLabel_39 ?_
          refine lv_iload_n hx hb d_LR_giveLabel_42 rfl (lv_at hl 3 rfl) ?_
          refine lv_iload hx hb d_LR_giveLabel_43 (lv_at hl 0 rfl) ?_
          obtain ⟨r45, hc45, hf⟩ := ob hf
          refine k_rdi (k_vir S (c_Ways_areLinked (l := l) (D := D) (n := n) (ad := ad) (G := G) hc45) g_LR_202 hd_Ways_areLinked ⟨rfl, rfl⟩ ⟨Nat.le_of_ble_eq_true rfl, Nat.le_of_ble_eq_true rfl⟩ wl_blind (va_recv hK hP rfl (wl_to (Ways_lt) (Ways_at))) (wl_pre hP hK hA) rfl hl.1 rfl (Nat.le_of_ble_eq_true rfl) d_LR_giveLabel_45 (Nat.zero_le _) (Nat.zero_le _)) ?_
          refine lv_if_eq (tgt := 64) hx hb d_LR_giveLabel_48 (by decide) (fun h48 => ?_) (fun h48 => ?_)
          · rw [if_pos h48] at hf
            refine lv_iinc (v := (v4_29 + 1)) (lv' := [(4, .int (v4_29 + 1)), (3, .int r6), (0, .ref (ad 0)), (1, .int a), (2, .int b)]) hx hb d_LR_giveLabel_64 hl (k := 0) rfl rfl (by decide) rfl (fun ls hl => ?_)
            refine lv_goto (tgt := 29) hx hb d_LR_giveLabel_67 (by decide) ?_
            exact ih29 _ _ _ _ _ (lv_sub hl [0, 1, 2, 3, 4] rfl) hP hS hf
          · rw [if_neg h48] at hf
            refine lv_aload_n hx hb d_LR_giveLabel_51 rfl (lv_at hl 2 rfl) ?_
            refine va_get (D := D) (ci := 0) (v := .ref (ad 5)) (C := R_LR) (T := F_LR) (N := 6) hx hb hts in_LR hown hK hP 0 (wl_to (LR_lt) (LR_at)) rfl 2 (by decide) (hts _ fl_LR_34) (fun _ h => h) rfl d_LR_giveLabel_52 ?_
            refine lv_iconst (v := 1) hx hb d_LR_giveLabel_55 (by decide) ?_
            refine lv_iload_n hx hb d_LR_giveLabel_56 rfl (lv_at hl 3 rfl) ?_
            refine lv_iload hx hb d_LR_giveLabel_57 (lv_at hl 0 rfl) ?_
            refine lv_iload_n hx hb d_LR_giveLabel_59 rfl (lv_at hl 4 rfl) ?_
            refine lv_iload_n hx hb d_LR_giveLabel_60 rfl (lv_at hl 1 rfl) ?_
            obtain ⟨r61, hc61, hf⟩ := ob hf
            refine k_wrv (k_vir S (c_Mail_post (l := l) (D := D) (n := n) (ad := ad) (G := G) hc61) g_LR_173 hd_Mail_post ⟨rfl, rfl⟩ ⟨Nat.le_of_ble_eq_true rfl, Nat.le_of_ble_eq_true rfl⟩ wl_blind (va_recv hK hP rfl (wl_to (Mail_lt) (Mail_at))) (wl_pre hP hK hA) rfl hl.1 rfl (Nat.le_of_ble_eq_true rfl) d_LR_giveLabel_61 (Nat.zero_le _) (Nat.zero_le _)) hS (fun _ h => h) (fun H locs hP _ _ hS => ?_)
            refine lv_iinc (v := (v4_29 + 1)) (lv' := [(4, .int (v4_29 + 1)), (3, .int r6), (0, .ref (ad 0)), (1, .int a), (2, .int b)]) hx hb d_LR_giveLabel_64 hl (k := 0) rfl rfl (by decide) rfl (fun ls hl => ?_)
            refine lv_goto (tgt := 29) hx hb d_LR_giveLabel_67 (by decide) ?_
            exact ih29 _ _ _ _ _ (lv_sub hl [0, 1, 2, 3, 4] rfl) hP hS hf
    exact L29 _ _ _ _ _ _ (lv_sub hl [0, 1, 2, 3, 4] rfl) hP hS hf
  · rw [if_pos h11] at hf
    cases hf
    exact w_vret hx hb hr hlk hP hS d_LR_giveLabel_14
def f_LR_withdrawLabel_14 (n : Nat) (a : Int32) (b : Int32) (r7 : Int32) : Nat → Int32 → Mem → Option (Mem)
  | 0, _, _ => none
  | k14 + 1, v4_14, N14 =>
    if (nI n) ≤ v4_14 then ((ix a n).bind fun j72 => (f_Router_setLabel n j72 b 0 N14).bind fun r75 => some r75) else ((f_Ways_areLinked n a v4_14 N14).bind fun r30 => if r30 = 0 then (f_LR_withdrawLabel_14 n a b r7 k14 (v4_14 + 1) N14) else ((f_Mail_post n 2 a v4_14 b r7 N14).bind fun r46 => (ix a n).bind fun j54 => (f_Router_awaitRelease n j54 r7 v4_14 r46).bind fun r58 => f_LR_withdrawLabel_14 n a b r7 k14 (v4_14 + 1) r58))
def f_LR_withdrawLabel (n : Nat) (a : Int32) (b : Int32) (M : Mem) : Option (Mem) :=
  (ix a n).bind fun j5 => (f_Router_labelOf n j5 b M).bind fun r7 => f_LR_withdrawLabel_14 n a b r7 1000 0 M
abbrev rm_LR_withdrawLabel : Room := { frames := 1, cells := 0, slots := 0, locals := 25 }
set_option maxHeartbeats 4000000 in
set_option maxRecDepth 100000 in
theorem c_LR_withdrawLabel {l : Launch} {D : va_G} {n : Nat} {ad : Nat → Nat} {G : Nat → ClassId} {a : Int32} {b : Int32}  {M : Mem} {x : Mem} (hf : f_LR_withdrawLabel n a b M = some x) : Met l y_LR_withdrawLabel (wc y_LR_withdrawLabel b_LR_withdrawLabel 5 (none)) rm_LR_withdrawLabel (va_Pc [.ref (ad 0), .int a, .int b] (cB D n ad G M)) (wr_Q (none) D cls (cK n) ad (cE n ad G x)) 0 0 (wl_A (cK n) ad) := by
  refine k_met (by decide) (Nat.le_of_ble_eq_true rfl) ?_
  intro p e s m args below meth c S hr hlk hB ls hl
  obtain ⟨hx, hb, hml, hown, hts⟩ := id S
  obtain ⟨hP, hK, hA0⟩ := hB
  have hA := wl_own hA0
  have hl : lv_has ls 5 [(0, .ref (ad 0)), (1, .int a), (2, .int b)] := hl
  have hS : va_S (wl_A (cK n) ad) s.heap s.heap [] := va_S.rf
  unfold f_LR_withdrawLabel at hf
  refine lv_aload_n hx hb d_LR_withdrawLabel_0 rfl (lv_at hl 0 rfl) ?_
  refine va_get (D := D) (ci := 0) (v := .ref (ad 7)) (C := R_LR) (T := F_LR) (N := 6) hx hb hts in_LR hown hK hP 0 (wl_to (LR_lt) (LR_at)) rfl 3 (by decide) (hts _ fl_LR_40) (fun _ h => h) rfl d_LR_withdrawLabel_1 ?_
  refine lv_iload_n hx hb d_LR_withdrawLabel_4 rfl (lv_at hl 1 rfl) ?_
  obtain ⟨j5, hj5, hf⟩ := ob hf
  refine k_aald hx hb hK hP 7 2 (RA_lt) (RA_at) rfl hj5 rfl d_LR_withdrawLabel_5 ?_
  refine lv_iload_n hx hb d_LR_withdrawLabel_6 rfl (lv_at hl 2 rfl) ?_
  obtain ⟨r7, hc7, hf⟩ := ob hf
  refine k_rdi (k_vir S (c_Router_labelOf (l := l) (D := D) (n := n) (ad := ad) (G := G) (ix_lt hj5) hc7) g_LR_125 hd_Router_labelOf ⟨rfl, rfl⟩ ⟨Nat.le_of_ble_eq_true rfl, Nat.le_of_ble_eq_true rfl⟩ wl_blind (va_recv hK hP rfl (wl_to (RT_lt (ix_lt hj5)) (RT_at (ix_lt hj5)))) (wl_pre hP hK hA) rfl hl.1 rfl (Nat.le_of_ble_eq_true rfl) d_LR_withdrawLabel_7 (Nat.zero_le _) (Nat.zero_le _)) ?_
  refine lv_istore_n (lv' := [(3, .int r7), (0, .ref (ad 0)), (1, .int a), (2, .int b)]) hx hb d_LR_withdrawLabel_10 rfl hl (by decide) rfl (fun ls hl => ?_)
  refine lv_iconst (v := 0) hx hb d_LR_withdrawLabel_11 (by decide) ?_
  refine lv_istore (lv' := [(4, .int 0), (3, .int r7), (0, .ref (ad 0)), (1, .int a), (2, .int b)]) hx hb d_LR_withdrawLabel_12 hl (by decide) rfl (fun ls hl => ?_)
  have L14 : ∀ (k14 : Nat) (v4_14 : Int32) (N14 : Mem) (H : Heap) (locs : List Loc) (ls : Array Slot), lv_has ls 5 [(4, .int v4_14), (3, .int r7), (0, .ref (ad 0)), (1, .int a), (2, .int b)] → va_P D cls (cW n ad G N14) H → va_S (wl_A (cK n) ad) s.heap H locs → f_LR_withdrawLabel_14 n a b r7 k14 v4_14 N14 = some x → W p l e rm_LR_withdrawLabel s m args below meth c H locs 0 0 (MQ below (wr_Q (none) D cls (cK n) ad (cE n ad G x)) args s 0 0 (wl_A (cK n) ad)) (F0 m 14 ls []) := by
    intro k14
    induction k14 with
    | zero =>
      intro v4_14 N14 H locs ls hl hP hS hf
      simp [f_LR_withdrawLabel_14] at hf
    | succ k14 ih14 =>
      intro v4_14 N14 H locs ls hl hP hS hf
      rw [f_LR_withdrawLabel_14] at hf
      refine lv_iload hx hb d_LR_withdrawLabel_14 (lv_at hl 0 rfl) ?_
      refine lv_aload_n hx hb d_LR_withdrawLabel_16 rfl (lv_at hl 2 rfl) ?_
      refine va_get (D := D) (ci := 0) (v := .int (nI n)) (C := R_LR) (T := F_LR) (N := 6) hx hb hts in_LR hown hK hP 0 (wl_to (LR_lt) (LR_at)) rfl 0 (by decide) (hts _ fl_LR_18) (fun _ h => h) rfl d_LR_withdrawLabel_17 ?_
      refine lv_icmp_ge (tgt := 67) hx hb d_LR_withdrawLabel_20 (by decide) (fun h20 => ?_) (fun h20 => ?_)
      · rw [if_pos h20] at hf
        refine lv_aload_n hx hb d_LR_withdrawLabel_67 rfl (lv_at hl 2 rfl) ?_
        refine va_get (D := D) (ci := 0) (v := .ref (ad 7)) (C := R_LR) (T := F_LR) (N := 6) hx hb hts in_LR hown hK hP 0 (wl_to (LR_lt) (LR_at)) rfl 3 (by decide) (hts _ fl_LR_40) (fun _ h => h) rfl d_LR_withdrawLabel_68 ?_
        refine lv_iload_n hx hb d_LR_withdrawLabel_71 rfl (lv_at hl 3 rfl) ?_
        obtain ⟨j72, hj72, hf⟩ := ob hf
        refine k_aald hx hb hK hP 7 2 (RA_lt) (RA_at) rfl hj72 rfl d_LR_withdrawLabel_72 ?_
        refine lv_iload_n hx hb d_LR_withdrawLabel_73 rfl (lv_at hl 4 rfl) ?_
        refine lv_iconst (v := 0) hx hb d_LR_withdrawLabel_74 (by decide) ?_
        obtain ⟨r75, hc75, hf⟩ := ob hf
        refine k_wrv (k_vir S (c_Router_setLabel (l := l) (D := D) (n := n) (ad := ad) (G := G) (ix_lt hj72) hc75) g_LR_199 hd_Router_setLabel ⟨rfl, rfl⟩ ⟨Nat.le_of_ble_eq_true rfl, Nat.le_of_ble_eq_true rfl⟩ wl_blind (va_recv hK hP rfl (wl_to (RT_lt (ix_lt hj72)) (RT_at (ix_lt hj72)))) (wl_pre hP hK hA) rfl hl.1 rfl (Nat.le_of_ble_eq_true rfl) d_LR_withdrawLabel_75 (Nat.zero_le _) (Nat.zero_le _)) hS (fun _ h => h) (fun H locs hP _ _ hS => ?_)
        cases hf
        exact w_vret hx hb hr hlk hP hS d_LR_withdrawLabel_78
      · rw [if_neg h20] at hf
        refine lv_aload_n hx hb d_LR_withdrawLabel_23 rfl (lv_at hl 2 rfl) ?_
        refine va_get (D := D) (ci := 0) (v := .ref (ad 1)) (C := R_LR) (T := F_LR) (N := 6) hx hb hts in_LR hown hK hP 0 (wl_to (LR_lt) (LR_at)) rfl 1 (by decide) (hts _ fl_LR_27) (fun _ h => h) rfl d_LR_withdrawLabel_24 ?_
        refine lv_iload_n hx hb d_LR_withdrawLabel_27 rfl (lv_at hl 3 rfl) ?_
        refine lv_iload hx hb d_LR_withdrawLabel_28 (lv_at hl 0 rfl) ?_
        obtain ⟨r30, hc30, hf⟩ := ob hf
        refine k_rdi (k_vir S (c_Ways_areLinked (l := l) (D := D) (n := n) (ad := ad) (G := G) hc30) g_LR_202 hd_Ways_areLinked ⟨rfl, rfl⟩ ⟨Nat.le_of_ble_eq_true rfl, Nat.le_of_ble_eq_true rfl⟩ wl_blind (va_recv hK hP rfl (wl_to (Ways_lt) (Ways_at))) (wl_pre hP hK hA) rfl hl.1 rfl (Nat.le_of_ble_eq_true rfl) d_LR_withdrawLabel_30 (Nat.zero_le _) (Nat.zero_le _)) ?_
        refine lv_if_eq (tgt := 61) hx hb d_LR_withdrawLabel_33 (by decide) (fun h33 => ?_) (fun h33 => ?_)
        · rw [if_pos h33] at hf
          refine lv_iinc (v := (v4_14 + 1)) (lv' := [(4, .int (v4_14 + 1)), (3, .int r7), (0, .ref (ad 0)), (1, .int a), (2, .int b)]) hx hb d_LR_withdrawLabel_61 hl (k := 0) rfl rfl (by decide) rfl (fun ls hl => ?_)
          refine lv_goto (tgt := 14) hx hb d_LR_withdrawLabel_64 (by decide) ?_
          exact ih14 _ _ _ _ _ (lv_sub hl [0, 1, 2, 3, 4] rfl) hP hS hf
        · rw [if_neg h33] at hf
          refine lv_aload_n hx hb d_LR_withdrawLabel_36 rfl (lv_at hl 2 rfl) ?_
          refine va_get (D := D) (ci := 0) (v := .ref (ad 5)) (C := R_LR) (T := F_LR) (N := 6) hx hb hts in_LR hown hK hP 0 (wl_to (LR_lt) (LR_at)) rfl 2 (by decide) (hts _ fl_LR_34) (fun _ h => h) rfl d_LR_withdrawLabel_37 ?_
          refine lv_iconst (v := 2) hx hb d_LR_withdrawLabel_40 (by decide) ?_
          refine lv_iload_n hx hb d_LR_withdrawLabel_41 rfl (lv_at hl 3 rfl) ?_
          refine lv_iload hx hb d_LR_withdrawLabel_42 (lv_at hl 0 rfl) ?_
          refine lv_iload_n hx hb d_LR_withdrawLabel_44 rfl (lv_at hl 4 rfl) ?_
          refine lv_iload_n hx hb d_LR_withdrawLabel_45 rfl (lv_at hl 1 rfl) ?_
          obtain ⟨r46, hc46, hf⟩ := ob hf
          refine k_wrv (k_vir S (c_Mail_post (l := l) (D := D) (n := n) (ad := ad) (G := G) hc46) g_LR_173 hd_Mail_post ⟨rfl, rfl⟩ ⟨Nat.le_of_ble_eq_true rfl, Nat.le_of_ble_eq_true rfl⟩ wl_blind (va_recv hK hP rfl (wl_to (Mail_lt) (Mail_at))) (wl_pre hP hK hA) rfl hl.1 rfl (Nat.le_of_ble_eq_true rfl) d_LR_withdrawLabel_46 (Nat.zero_le _) (Nat.zero_le _)) hS (fun _ h => h) (fun H locs hP _ _ hS => ?_)
          refine lv_aload_n hx hb d_LR_withdrawLabel_49 rfl (lv_at hl 2 rfl) ?_
          refine va_get (D := D) (ci := 0) (v := .ref (ad 7)) (C := R_LR) (T := F_LR) (N := 6) hx hb hts in_LR hown hK hP 0 (wl_to (LR_lt) (LR_at)) rfl 3 (by decide) (hts _ fl_LR_40) (fun _ h => h) rfl d_LR_withdrawLabel_50 ?_
          refine lv_iload_n hx hb d_LR_withdrawLabel_53 rfl (lv_at hl 3 rfl) ?_
          obtain ⟨j54, hj54, hf⟩ := ob hf
          refine k_aald hx hb hK hP 7 2 (RA_lt) (RA_at) rfl hj54 rfl d_LR_withdrawLabel_54 ?_
          refine lv_iload_n hx hb d_LR_withdrawLabel_55 rfl (lv_at hl 1 rfl) ?_
          refine lv_iload hx hb d_LR_withdrawLabel_56 (lv_at hl 0 rfl) ?_
          obtain ⟨r58, hc58, hf⟩ := ob hf
          refine k_wrv (k_vir S (c_Router_awaitRelease (l := l) (D := D) (n := n) (ad := ad) (G := G) (ix_lt hj54) hc58) g_LR_205 hd_Router_awaitRelease ⟨rfl, rfl⟩ ⟨Nat.le_of_ble_eq_true rfl, Nat.le_of_ble_eq_true rfl⟩ wl_blind (va_recv hK hP rfl (wl_to (RT_lt (ix_lt hj54)) (RT_at (ix_lt hj54)))) (wl_pre hP hK hA) rfl hl.1 rfl (Nat.le_of_ble_eq_true rfl) d_LR_withdrawLabel_58 (Nat.zero_le _) (Nat.zero_le _)) hS (fun _ h => h) (fun H locs hP _ _ hS => ?_)
          refine lv_iinc (v := (v4_14 + 1)) (lv' := [(4, .int (v4_14 + 1)), (3, .int r7), (0, .ref (ad 0)), (1, .int a), (2, .int b)]) hx hb d_LR_withdrawLabel_61 hl (k := 0) rfl rfl (by decide) rfl (fun ls hl => ?_)
          refine lv_goto (tgt := 14) hx hb d_LR_withdrawLabel_64 (by decide) ?_
          exact ih14 _ _ _ _ _ (lv_sub hl [0, 1, 2, 3, 4] rfl) hP hS hf
  exact L14 _ _ _ _ _ _ (lv_sub hl [0, 1, 2, 3, 4] rfl) hP hS hf
def f_LR_settle (n : Nat) (a : Int32) (b : Int32) (M : Mem) : Option (Mem) :=
  (f_LR_isReady n a b M).bind fun r3 => (ix a n).bind fun j12 => (f_Router_labelOf n j12 b M).bind fun r14 => if r14 = 0 then (if r3 = 0 then (if r3 = 0 then (some M) else (some M)) else ((f_LR_giveLabel n a b M).bind fun r39 => some r39)) else (if r3 = 0 then (if r3 = 0 then ((f_LR_withdrawLabel n a b M).bind fun r57 => some r57) else (some M)) else (if r3 = 0 then ((f_LR_withdrawLabel n a b M).bind fun r57 => some r57) else (some M)))
abbrev rm_LR_settle : Room := { frames := 3, cells := 0, slots := 0, locals := 69 }
set_option maxHeartbeats 4000000 in
set_option maxRecDepth 100000 in
theorem c_LR_settle {l : Launch} {D : va_G} {n : Nat} {ad : Nat → Nat} {G : Nat → ClassId} {a : Int32} {b : Int32}  {M : Mem} {x : Mem} (hf : f_LR_settle n a b M = some x) : Met l y_LR_settle (wc y_LR_settle b_LR_settle 5 (none)) rm_LR_settle (va_Pc [.ref (ad 0), .int a, .int b] (cB D n ad G M)) (wr_Q (none) D cls (cK n) ad (cE n ad G x)) 0 0 (wl_A (cK n) ad) := by
  refine k_met (by decide) (Nat.le_of_ble_eq_true rfl) ?_
  intro p e s m args below meth c S hr hlk hB ls hl
  obtain ⟨hx, hb, hml, hown, hts⟩ := id S
  obtain ⟨hP, hK, hA0⟩ := hB
  have hA := wl_own hA0
  have hl : lv_has ls 5 [(0, .ref (ad 0)), (1, .int a), (2, .int b)] := hl
  have hS : va_S (wl_A (cK n) ad) s.heap s.heap [] := va_S.rf
  unfold f_LR_settle at hf
  refine lv_aload_n hx hb d_LR_settle_0 rfl (lv_at hl 0 rfl) ?_
  refine lv_iload_n hx hb d_LR_settle_1 rfl (lv_at hl 1 rfl) ?_
  refine lv_iload_n hx hb d_LR_settle_2 rfl (lv_at hl 2 rfl) ?_
  obtain ⟨r3, hc3, hf⟩ := ob hf
  refine k_rdi (k_vir S (c_LR_isReady (l := l) (D := D) (n := n) (ad := ad) (G := G) hc3) g_LR_183 hd_LR_isReady ⟨rfl, rfl⟩ ⟨Nat.le_of_ble_eq_true rfl, Nat.le_of_ble_eq_true rfl⟩ wl_blind (va_recv hK hP rfl (wl_to (LR_lt) (LR_at))) (wl_pre hP hK hA) rfl hl.1 rfl (Nat.le_of_ble_eq_true rfl) d_LR_settle_3 (Nat.zero_le _) (Nat.zero_le _)) ?_
  refine lv_istore_n (lv' := [(3, .int r3), (0, .ref (ad 0)), (1, .int a), (2, .int b)]) hx hb d_LR_settle_6 rfl hl (by decide) rfl (fun ls hl => ?_)
  refine lv_aload_n hx hb d_LR_settle_7 rfl (lv_at hl 1 rfl) ?_
  refine va_get (D := D) (ci := 0) (v := .ref (ad 7)) (C := R_LR) (T := F_LR) (N := 6) hx hb hts in_LR hown hK hP 0 (wl_to (LR_lt) (LR_at)) rfl 3 (by decide) (hts _ fl_LR_40) (fun _ h => h) rfl d_LR_settle_8 ?_
  refine lv_iload_n hx hb d_LR_settle_11 rfl (lv_at hl 2 rfl) ?_
  obtain ⟨j12, hj12, hf⟩ := ob hf
  refine k_aald hx hb hK hP 7 2 (RA_lt) (RA_at) rfl hj12 rfl d_LR_settle_12 ?_
  refine lv_iload_n hx hb d_LR_settle_13 rfl (lv_at hl 3 rfl) ?_
  obtain ⟨r14, hc14, hf⟩ := ob hf
  refine k_rdi (k_vir S (c_Router_labelOf (l := l) (D := D) (n := n) (ad := ad) (G := G) (ix_lt hj12) hc14) g_LR_125 hd_Router_labelOf ⟨rfl, rfl⟩ ⟨Nat.le_of_ble_eq_true rfl, Nat.le_of_ble_eq_true rfl⟩ wl_blind (va_recv hK hP rfl (wl_to (RT_lt (ix_lt hj12)) (RT_at (ix_lt hj12)))) (wl_pre hP hK hA) rfl hl.1 rfl (Nat.le_of_ble_eq_true rfl) d_LR_settle_14 (Nat.zero_le _) (Nat.zero_le _)) ?_
  refine lv_if_eq (tgt := 24) hx hb d_LR_settle_17 (by decide) (fun h17 => ?_) (fun h17 => ?_)
  · rw [if_pos h17] at hf
    refine lv_iconst (v := 0) hx hb d_LR_settle_24 (by decide) ?_
    refine lv_istore (lv' := [(4, .int 0), (3, .int r3), (0, .ref (ad 0)), (1, .int a), (2, .int b)]) hx hb d_LR_settle_25 hl (by decide) rfl (fun ls hl => ?_)
    refine lv_iload_n hx hb d_LR_settle_27 rfl (lv_at hl 1 rfl) ?_
    refine lv_if_eq (tgt := 45) hx hb d_LR_settle_28 (by decide) (fun h28 => ?_) (fun h28 => ?_)
    · rw [if_pos h28] at hf
      refine lv_iload_n hx hb d_LR_settle_45 rfl (lv_at hl 1 rfl) ?_
      refine lv_if_ne (tgt := 60) hx hb d_LR_settle_46 (by decide) (fun h46 => ?_) (fun h46 => ?_)
      · rw [if_neg h46] at hf
        cases hf
        exact w_vret hx hb hr hlk hP hS d_LR_settle_60
      · rw [if_pos h46] at hf
        refine lv_iload hx hb d_LR_settle_49 (lv_at hl 0 rfl) ?_
        refine lv_if_eq (tgt := 60) hx hb d_LR_settle_51 (by decide) (fun _ => ?_) (fun h => absurd h (by decide))
        cases hf
        exact w_vret hx hb hr hlk hP hS d_LR_settle_60
    · rw [if_neg h28] at hf
      refine lv_iload hx hb d_LR_settle_31 (lv_at hl 0 rfl) ?_
      refine lv_if_ne (tgt := 45) hx hb d_LR_settle_33 (by decide) (fun h => absurd h (by decide)) (fun _ => ?_)
      refine lv_aload_n hx hb d_LR_settle_36 rfl (lv_at hl 2 rfl) ?_
      refine lv_iload_n hx hb d_LR_settle_37 rfl (lv_at hl 3 rfl) ?_
      refine lv_iload_n hx hb d_LR_settle_38 rfl (lv_at hl 4 rfl) ?_
      obtain ⟨r39, hc39, hf⟩ := ob hf
      refine k_wrv (k_vir S (c_LR_giveLabel (l := l) (D := D) (n := n) (ad := ad) (G := G) hc39) g_LR_187 hd_LR_giveLabel ⟨rfl, rfl⟩ ⟨Nat.le_of_ble_eq_true rfl, Nat.le_of_ble_eq_true rfl⟩ wl_blind (va_recv hK hP rfl (wl_to (LR_lt) (LR_at))) (wl_pre hP hK hA) rfl hl.1 rfl (Nat.le_of_ble_eq_true rfl) d_LR_settle_39 (Nat.zero_le _) (Nat.zero_le _)) hS (fun _ h => h) (fun H locs hP _ _ hS => ?_)
      refine lv_goto (tgt := 60) hx hb d_LR_settle_42 (by decide) ?_
      cases hf
      exact w_vret hx hb hr hlk hP hS d_LR_settle_60
  · rw [if_neg h17] at hf
    refine lv_iconst (v := 1) hx hb d_LR_settle_20 (by decide) ?_
    refine lv_goto (tgt := 25) hx hb d_LR_settle_21 (by decide) ?_
    refine lv_istore (lv' := [(4, .int 1), (3, .int r3), (0, .ref (ad 0)), (1, .int a), (2, .int b)]) hx hb d_LR_settle_25 hl (by decide) rfl (fun ls hl => ?_)
    refine lv_iload_n hx hb d_LR_settle_27 rfl (lv_at hl 1 rfl) ?_
    refine lv_if_eq (tgt := 45) hx hb d_LR_settle_28 (by decide) (fun h28 => ?_) (fun h28 => ?_)
    · rw [if_pos h28] at hf
      refine lv_iload_n hx hb d_LR_settle_45 rfl (lv_at hl 1 rfl) ?_
      refine lv_if_ne (tgt := 60) hx hb d_LR_settle_46 (by decide) (fun h46 => ?_) (fun h46 => ?_)
      · rw [if_neg h46] at hf
        cases hf
        exact w_vret hx hb hr hlk hP hS d_LR_settle_60
      · rw [if_pos h46] at hf
        refine lv_iload hx hb d_LR_settle_49 (lv_at hl 0 rfl) ?_
        refine lv_if_eq (tgt := 60) hx hb d_LR_settle_51 (by decide) (fun h => absurd h (by decide)) (fun _ => ?_)
        refine lv_aload_n hx hb d_LR_settle_54 rfl (lv_at hl 2 rfl) ?_
        refine lv_iload_n hx hb d_LR_settle_55 rfl (lv_at hl 3 rfl) ?_
        refine lv_iload_n hx hb d_LR_settle_56 rfl (lv_at hl 4 rfl) ?_
        obtain ⟨r57, hc57, hf⟩ := ob hf
        refine k_wrv (k_vir S (c_LR_withdrawLabel (l := l) (D := D) (n := n) (ad := ad) (G := G) hc57) g_LR_190 hd_LR_withdrawLabel ⟨rfl, rfl⟩ ⟨Nat.le_of_ble_eq_true rfl, Nat.le_of_ble_eq_true rfl⟩ wl_blind (va_recv hK hP rfl (wl_to (LR_lt) (LR_at))) (wl_pre hP hK hA) rfl hl.1 rfl (Nat.le_of_ble_eq_true rfl) d_LR_settle_57 (Nat.zero_le _) (Nat.zero_le _)) hS (fun _ h => h) (fun H locs hP _ _ hS => ?_)
        cases hf
        exact w_vret hx hb hr hlk hP hS d_LR_settle_60
    · rw [if_neg h28] at hf
      refine lv_iload hx hb d_LR_settle_31 (lv_at hl 0 rfl) ?_
      refine lv_if_ne (tgt := 45) hx hb d_LR_settle_33 (by decide) (fun _ => ?_) (fun h => absurd h (by decide))
      refine lv_iload_n hx hb d_LR_settle_45 rfl (lv_at hl 1 rfl) ?_
      refine lv_if_ne (tgt := 60) hx hb d_LR_settle_46 (by decide) (fun h46 => ?_) (fun h46 => ?_)
      · rw [if_neg h46] at hf
        cases hf
        exact w_vret hx hb hr hlk hP hS d_LR_settle_60
      · rw [if_pos h46] at hf
        refine lv_iload hx hb d_LR_settle_49 (lv_at hl 0 rfl) ?_
        refine lv_if_eq (tgt := 60) hx hb d_LR_settle_51 (by decide) (fun h => absurd h (by decide)) (fun _ => ?_)
        refine lv_aload_n hx hb d_LR_settle_54 rfl (lv_at hl 2 rfl) ?_
        refine lv_iload_n hx hb d_LR_settle_55 rfl (lv_at hl 3 rfl) ?_
        refine lv_iload_n hx hb d_LR_settle_56 rfl (lv_at hl 4 rfl) ?_
        obtain ⟨r57, hc57, hf⟩ := ob hf
        refine k_wrv (k_vir S (c_LR_withdrawLabel (l := l) (D := D) (n := n) (ad := ad) (G := G) hc57) g_LR_190 hd_LR_withdrawLabel ⟨rfl, rfl⟩ ⟨Nat.le_of_ble_eq_true rfl, Nat.le_of_ble_eq_true rfl⟩ wl_blind (va_recv hK hP rfl (wl_to (LR_lt) (LR_at))) (wl_pre hP hK hA) rfl hl.1 rfl (Nat.le_of_ble_eq_true rfl) d_LR_settle_57 (Nat.zero_le _) (Nat.zero_le _)) hS (fun _ h => h) (fun H locs hP _ _ hS => ?_)
        cases hf
        exact w_vret hx hb hr hlk hP hS d_LR_settle_60
def f_LR_settlePrefixes_2 (n : Nat) (a : Int32) : Nat → Int32 → Mem → Option (Mem)
  | 0, _, _ => none
  | k2 + 1, v2_2, N2 =>
    if 4 ≤ v2_2 then (some N2) else ((f_LR_settle n a v2_2 N2).bind fun r10 => f_LR_settlePrefixes_2 n a k2 (v2_2 + 1) r10)
def f_LR_settlePrefixes (n : Nat) (a : Int32) (M : Mem) : Option (Mem) :=
  f_LR_settlePrefixes_2 n a 1000 0 M
abbrev rm_LR_settlePrefixes : Room := { frames := 4, cells := 0, slots := 0, locals := 93 }
set_option maxHeartbeats 4000000 in
set_option maxRecDepth 100000 in
theorem c_LR_settlePrefixes {l : Launch} {D : va_G} {n : Nat} {ad : Nat → Nat} {G : Nat → ClassId} {a : Int32}  {M : Mem} {x : Mem} (hf : f_LR_settlePrefixes n a M = some x) : Met l y_LR_settlePrefixes (wc y_LR_settlePrefixes b_LR_settlePrefixes 3 (none)) rm_LR_settlePrefixes (va_Pc [.ref (ad 0), .int a] (cB D n ad G M)) (wr_Q (none) D cls (cK n) ad (cE n ad G x)) 0 0 (wl_A (cK n) ad) := by
  refine k_met (by decide) (Nat.le_of_ble_eq_true rfl) ?_
  intro p e s m args below meth c S hr hlk hB ls hl
  obtain ⟨hx, hb, hml, hown, hts⟩ := id S
  obtain ⟨hP, hK, hA0⟩ := hB
  have hA := wl_own hA0
  have hl : lv_has ls 3 [(0, .ref (ad 0)), (1, .int a)] := hl
  have hS : va_S (wl_A (cK n) ad) s.heap s.heap [] := va_S.rf
  unfold f_LR_settlePrefixes at hf
  refine lv_iconst (v := 0) hx hb d_LR_settlePrefixes_0 (by decide) ?_
  refine lv_istore_n (lv' := [(2, .int 0), (0, .ref (ad 0)), (1, .int a)]) hx hb d_LR_settlePrefixes_1 rfl hl (by decide) rfl (fun ls hl => ?_)
  have L2 : ∀ (k2 : Nat) (v2_2 : Int32) (N2 : Mem) (H : Heap) (locs : List Loc) (ls : Array Slot), lv_has ls 3 [(2, .int v2_2), (0, .ref (ad 0)), (1, .int a)] → va_P D cls (cW n ad G N2) H → va_S (wl_A (cK n) ad) s.heap H locs → f_LR_settlePrefixes_2 n a k2 v2_2 N2 = some x → W p l e rm_LR_settlePrefixes s m args below meth c H locs 0 0 (MQ below (wr_Q (none) D cls (cK n) ad (cE n ad G x)) args s 0 0 (wl_A (cK n) ad)) (F0 m 2 ls []) := by
    intro k2
    induction k2 with
    | zero =>
      intro v2_2 N2 H locs ls hl hP hS hf
      simp [f_LR_settlePrefixes_2] at hf
    | succ k2 ih2 =>
      intro v2_2 N2 H locs ls hl hP hS hf
      rw [f_LR_settlePrefixes_2] at hf
      refine lv_iload_n hx hb d_LR_settlePrefixes_2 rfl (lv_at hl 0 rfl) ?_
      refine lv_iconst (v := 4) hx hb d_LR_settlePrefixes_3 (by decide) ?_
      refine lv_icmp_ge (tgt := 19) hx hb d_LR_settlePrefixes_4 (by decide) (fun h4 => ?_) (fun h4 => ?_)
      · rw [if_pos h4] at hf
        cases hf
        exact w_vret hx hb hr hlk hP hS d_LR_settlePrefixes_19
      · rw [if_neg h4] at hf
        refine lv_aload_n hx hb d_LR_settlePrefixes_7 rfl (lv_at hl 1 rfl) ?_
        refine lv_iload_n hx hb d_LR_settlePrefixes_8 rfl (lv_at hl 2 rfl) ?_
        refine lv_iload_n hx hb d_LR_settlePrefixes_9 rfl (lv_at hl 0 rfl) ?_
        obtain ⟨r10, hc10, hf⟩ := ob hf
        refine k_wrv (k_vir S (c_LR_settle (l := l) (D := D) (n := n) (ad := ad) (G := G) hc10) g_LR_180 hd_LR_settle ⟨rfl, rfl⟩ ⟨Nat.le_of_ble_eq_true rfl, Nat.le_of_ble_eq_true rfl⟩ wl_blind (va_recv hK hP rfl (wl_to (LR_lt) (LR_at))) (wl_pre hP hK hA) rfl hl.1 rfl (Nat.le_of_ble_eq_true rfl) d_LR_settlePrefixes_10 (Nat.zero_le _) (Nat.zero_le _)) hS (fun _ h => h) (fun H locs hP _ _ hS => ?_)
        refine lv_iinc (v := (v2_2 + 1)) (lv' := [(2, .int (v2_2 + 1)), (0, .ref (ad 0)), (1, .int a)]) hx hb d_LR_settlePrefixes_13 hl (k := 0) rfl rfl (by decide) rfl (fun ls hl => ?_)
        refine lv_goto (tgt := 2) hx hb d_LR_settlePrefixes_16 (by decide) ?_
        exact ih2 _ _ _ _ _ (lv_sub hl [0, 1, 2] rfl) hP hS hf
  exact L2 _ _ _ _ _ _ (lv_sub hl [0, 1, 2] rfl) hP hS hf
def f_LR_settleAll_2 (n : Nat) : Nat → Int32 → Mem → Option (Mem)
  | 0, _, _ => none
  | k2 + 1, v1_2, N2 =>
    if (nI n) ≤ v1_2 then (some N2) else ((f_LR_settlePrefixes n v1_2 N2).bind fun r12 => f_LR_settleAll_2 n k2 (v1_2 + 1) r12)
def f_LR_settleAll (n : Nat) (M : Mem) : Option (Mem) :=
  f_LR_settleAll_2 n 1000 0 M
abbrev rm_LR_settleAll : Room := { frames := 5, cells := 0, slots := 0, locals := 115 }
set_option maxHeartbeats 4000000 in
set_option maxRecDepth 100000 in
theorem c_LR_settleAll {l : Launch} {D : va_G} {n : Nat} {ad : Nat → Nat} {G : Nat → ClassId}  {M : Mem} {x : Mem} (hf : f_LR_settleAll n M = some x) : Met l y_LR_settleAll (wc y_LR_settleAll b_LR_settleAll 2 (none)) rm_LR_settleAll (va_Pc [.ref (ad 0)] (cB D n ad G M)) (wr_Q (none) D cls (cK n) ad (cE n ad G x)) 0 0 (wl_A (cK n) ad) := by
  refine k_met (by decide) (Nat.le_of_ble_eq_true rfl) ?_
  intro p e s m args below meth c S hr hlk hB ls hl
  obtain ⟨hx, hb, hml, hown, hts⟩ := id S
  obtain ⟨hP, hK, hA0⟩ := hB
  have hA := wl_own hA0
  have hl : lv_has ls 2 [(0, .ref (ad 0))] := hl
  have hS : va_S (wl_A (cK n) ad) s.heap s.heap [] := va_S.rf
  unfold f_LR_settleAll at hf
  refine lv_iconst (v := 0) hx hb d_LR_settleAll_0 (by decide) ?_
  refine lv_istore_n (lv' := [(1, .int 0), (0, .ref (ad 0))]) hx hb d_LR_settleAll_1 rfl hl (by decide) rfl (fun ls hl => ?_)
  have L2 : ∀ (k2 : Nat) (v1_2 : Int32) (N2 : Mem) (H : Heap) (locs : List Loc) (ls : Array Slot), lv_has ls 2 [(1, .int v1_2), (0, .ref (ad 0))] → va_P D cls (cW n ad G N2) H → va_S (wl_A (cK n) ad) s.heap H locs → f_LR_settleAll_2 n k2 v1_2 N2 = some x → W p l e rm_LR_settleAll s m args below meth c H locs 0 0 (MQ below (wr_Q (none) D cls (cK n) ad (cE n ad G x)) args s 0 0 (wl_A (cK n) ad)) (F0 m 2 ls []) := by
    intro k2
    induction k2 with
    | zero =>
      intro v1_2 N2 H locs ls hl hP hS hf
      simp [f_LR_settleAll_2] at hf
    | succ k2 ih2 =>
      intro v1_2 N2 H locs ls hl hP hS hf
      rw [f_LR_settleAll_2] at hf
      refine lv_iload_n hx hb d_LR_settleAll_2 rfl (lv_at hl 0 rfl) ?_
      refine lv_aload_n hx hb d_LR_settleAll_3 rfl (lv_at hl 1 rfl) ?_
      refine va_get (D := D) (ci := 0) (v := .int (nI n)) (C := R_LR) (T := F_LR) (N := 6) hx hb hts in_LR hown hK hP 0 (wl_to (LR_lt) (LR_at)) rfl 0 (by decide) (hts _ fl_LR_18) (fun _ h => h) rfl d_LR_settleAll_4 ?_
      refine lv_icmp_ge (tgt := 21) hx hb d_LR_settleAll_7 (by decide) (fun h7 => ?_) (fun h7 => ?_)
      · rw [if_pos h7] at hf
        cases hf
        exact w_vret hx hb hr hlk hP hS d_LR_settleAll_21
      · rw [if_neg h7] at hf
        refine lv_aload_n hx hb d_LR_settleAll_10 rfl (lv_at hl 1 rfl) ?_
        refine lv_iload_n hx hb d_LR_settleAll_11 rfl (lv_at hl 0 rfl) ?_
        obtain ⟨r12, hc12, hf⟩ := ob hf
        refine k_wrv (k_vir S (c_LR_settlePrefixes (l := l) (D := D) (n := n) (ad := ad) (G := G) hc12) g_LR_177 hd_LR_settlePrefixes ⟨rfl, rfl⟩ ⟨Nat.le_of_ble_eq_true rfl, Nat.le_of_ble_eq_true rfl⟩ wl_blind (va_recv hK hP rfl (wl_to (LR_lt) (LR_at))) (wl_pre hP hK hA) rfl hl.1 rfl (Nat.le_of_ble_eq_true rfl) d_LR_settleAll_12 (Nat.zero_le _) (Nat.zero_le _)) hS (fun _ h => h) (fun H locs hP _ _ hS => ?_)
        refine lv_iinc (v := (v1_2 + 1)) (lv' := [(1, .int (v1_2 + 1)), (0, .ref (ad 0))]) hx hb d_LR_settleAll_15 hl (k := 0) rfl rfl (by decide) rfl (fun ls hl => ?_)
        refine lv_goto (tgt := 2) hx hb d_LR_settleAll_18 (by decide) ?_
        exact ih2 _ _ _ _ _ (lv_sub hl [0, 1] rfl) hP hS hf
  exact L2 _ _ _ _ _ _ (lv_sub hl [0, 1] rfl) hP hS hf
def f_LR_receive (n : Nat) (a : Int32) (M : Mem) : Option (Mem) :=
  (f_Mail_fromOf a).bind fun r1 => (f_Mail_toOf a).bind fun r6 => (f_Mail_prefixOf a).bind fun r11 => (f_Mail_labelOf a).bind fun r17 => (f_Mail_kindOf a).bind fun r23 => if r23 = 1 then ((ix r6 n).bind fun j57 => (f_Router_hear n j57 r1 r11 r17 M).bind fun r63 => (f_LR_settle n r6 r11 r63).bind fun r70 => some r70) else if r23 = 2 then ((ix r6 n).bind fun j81 => (f_Router_unhear n j81 r1 r11 r17 M).bind fun r87 => (f_Mail_post n 3 r6 r1 r11 r17 r87).bind fun r101 => (f_LR_settle n r6 r11 r101).bind fun r108 => some r108) else ((ix r6 n).bind fun j119 => (f_Router_endRelease n j119 r17 r1 M).bind fun r123 => (f_LR_settlePrefixes n r6 r123).bind fun r128 => some r128)
abbrev rm_LR_receive : Room := { frames := 5, cells := 0, slots := 0, locals := 115 }
set_option maxHeartbeats 4000000 in
set_option maxRecDepth 100000 in
theorem c_LR_receive {l : Launch} {D : va_G} {n : Nat} {ad : Nat → Nat} {G : Nat → ClassId} {a : Int32}  {M : Mem} {x : Mem} (hf : f_LR_receive n a M = some x) : Met l y_LR_receive (wc y_LR_receive b_LR_receive 6 (none)) rm_LR_receive (va_Pc [.ref (ad 0), .int a] (cB D n ad G M)) (wr_Q (none) D cls (cK n) ad (cE n ad G x)) 0 0 (wl_A (cK n) ad) := by
  refine k_met (by decide) (Nat.le_of_ble_eq_true rfl) ?_
  intro p e s m args below meth c S hr hlk hB ls hl
  obtain ⟨hx, hb, hml, hown, hts⟩ := id S
  obtain ⟨hP, hK, hA0⟩ := hB
  have hA := wl_own hA0
  have hl : lv_has ls 6 [(0, .ref (ad 0)), (1, .int a)] := hl
  have hS : va_S (wl_A (cK n) ad) s.heap s.heap [] := va_S.rf
  unfold f_LR_receive at hf
  refine lv_iload_n hx hb d_LR_receive_0 rfl (lv_at hl 1 rfl) ?_
  obtain ⟨r1, hc1, hf⟩ := ob hf
  refine k_rdi (k_sta S (c_Mail_fromOf (l := l) (D := D) (n := n) (ad := ad) (G := G) hc1) g_LR_208 hd_Mail_fromOf ⟨rfl, rfl⟩ ⟨Nat.le_of_ble_eq_true rfl, Nat.le_of_ble_eq_true rfl⟩ wl_blind (wl_pre hP hK hA) rfl hl.1 rfl (Nat.le_of_ble_eq_true rfl) d_LR_receive_1 (Nat.zero_le _) (Nat.zero_le _)) ?_
  refine lv_istore_n (lv' := [(2, .int r1), (0, .ref (ad 0)), (1, .int a)]) hx hb d_LR_receive_4 rfl hl (by decide) rfl (fun ls hl => ?_)
  refine lv_iload_n hx hb d_LR_receive_5 rfl (lv_at hl 2 rfl) ?_
  obtain ⟨r6, hc6, hf⟩ := ob hf
  refine k_rdi (k_sta S (c_Mail_toOf (l := l) (D := D) (n := n) (ad := ad) (G := G) hc6) g_LR_211 hd_Mail_toOf ⟨rfl, rfl⟩ ⟨Nat.le_of_ble_eq_true rfl, Nat.le_of_ble_eq_true rfl⟩ wl_blind (wl_pre hP hK hA) rfl hl.1 rfl (Nat.le_of_ble_eq_true rfl) d_LR_receive_6 (Nat.zero_le _) (Nat.zero_le _)) ?_
  refine lv_istore_n (lv' := [(3, .int r6), (2, .int r1), (0, .ref (ad 0)), (1, .int a)]) hx hb d_LR_receive_9 rfl hl (by decide) rfl (fun ls hl => ?_)
  refine lv_iload_n hx hb d_LR_receive_10 rfl (lv_at hl 3 rfl) ?_
  obtain ⟨r11, hc11, hf⟩ := ob hf
  refine k_rdi (k_sta S (c_Mail_prefixOf (l := l) (D := D) (n := n) (ad := ad) (G := G) hc11) g_LR_214 hd_Mail_prefixOf ⟨rfl, rfl⟩ ⟨Nat.le_of_ble_eq_true rfl, Nat.le_of_ble_eq_true rfl⟩ wl_blind (wl_pre hP hK hA) rfl hl.1 rfl (Nat.le_of_ble_eq_true rfl) d_LR_receive_11 (Nat.zero_le _) (Nat.zero_le _)) ?_
  refine lv_istore (lv' := [(4, .int r11), (3, .int r6), (2, .int r1), (0, .ref (ad 0)), (1, .int a)]) hx hb d_LR_receive_14 hl (by decide) rfl (fun ls hl => ?_)
  refine lv_iload_n hx hb d_LR_receive_16 rfl (lv_at hl 4 rfl) ?_
  obtain ⟨r17, hc17, hf⟩ := ob hf
  refine k_rdi (k_sta S (c_Mail_labelOf (l := l) (D := D) (n := n) (ad := ad) (G := G) hc17) g_LR_217 hd_Mail_labelOf ⟨rfl, rfl⟩ ⟨Nat.le_of_ble_eq_true rfl, Nat.le_of_ble_eq_true rfl⟩ wl_blind (wl_pre hP hK hA) rfl hl.1 rfl (Nat.le_of_ble_eq_true rfl) d_LR_receive_17 (Nat.zero_le _) (Nat.zero_le _)) ?_
  refine lv_istore (lv' := [(5, .int r17), (4, .int r11), (3, .int r6), (2, .int r1), (0, .ref (ad 0)), (1, .int a)]) hx hb d_LR_receive_20 hl (by decide) rfl (fun ls hl => ?_)
  refine lv_iload_n hx hb d_LR_receive_22 rfl (lv_at hl 5 rfl) ?_
  obtain ⟨r23, hc23, hf⟩ := ob hf
  refine k_rdi (k_sta S (c_Mail_kindOf (l := l) (D := D) (n := n) (ad := ad) (G := G) hc23) g_LR_107 hd_Mail_kindOf ⟨rfl, rfl⟩ ⟨Nat.le_of_ble_eq_true rfl, Nat.le_of_ble_eq_true rfl⟩ wl_blind (wl_pre hP hK hA) rfl hl.1 rfl (Nat.le_of_ble_eq_true rfl) d_LR_receive_23 (Nat.zero_le _) (Nat.zero_le _)) ?_
  by_cases hs26_1 : r23 = 1
  · rw [if_pos hs26_1] at hf
    refine lv_lookup (off := 26) (tgt := 52) hx hb d_LR_receive_26 (by decide) (by rw [hs26_1]; rfl) (by decide) ?_
    refine lv_aload_n hx hb d_LR_receive_52 rfl (lv_at hl 4 rfl) ?_
    refine va_get (D := D) (ci := 0) (v := .ref (ad 7)) (C := R_LR) (T := F_LR) (N := 6) hx hb hts in_LR hown hK hP 0 (wl_to (LR_lt) (LR_at)) rfl 3 (by decide) (hts _ fl_LR_40) (fun _ h => h) rfl d_LR_receive_53 ?_
    refine lv_iload_n hx hb d_LR_receive_56 rfl (lv_at hl 2 rfl) ?_
    obtain ⟨j57, hj57, hf⟩ := ob hf
    refine k_aald hx hb hK hP 7 2 (RA_lt) (RA_at) rfl hj57 rfl d_LR_receive_57 ?_
    refine lv_iload_n hx hb d_LR_receive_58 rfl (lv_at hl 3 rfl) ?_
    refine lv_iload hx hb d_LR_receive_59 (lv_at hl 1 rfl) ?_
    refine lv_iload hx hb d_LR_receive_61 (lv_at hl 0 rfl) ?_
    obtain ⟨r63, hc63, hf⟩ := ob hf
    refine k_wrv (k_vir S (c_Router_hear (l := l) (D := D) (n := n) (ad := ad) (G := G) (ix_lt hj57) hc63) g_LR_218 hd_Router_hear ⟨rfl, rfl⟩ ⟨Nat.le_of_ble_eq_true rfl, Nat.le_of_ble_eq_true rfl⟩ wl_blind (va_recv hK hP rfl (wl_to (RT_lt (ix_lt hj57)) (RT_at (ix_lt hj57)))) (wl_pre hP hK hA) rfl hl.1 rfl (Nat.le_of_ble_eq_true rfl) d_LR_receive_63 (Nat.zero_le _) (Nat.zero_le _)) hS (fun _ h => h) (fun H locs hP _ _ hS => ?_)
    refine lv_aload_n hx hb d_LR_receive_66 rfl (lv_at hl 4 rfl) ?_
    refine lv_iload_n hx hb d_LR_receive_67 rfl (lv_at hl 2 rfl) ?_
    refine lv_iload hx hb d_LR_receive_68 (lv_at hl 1 rfl) ?_
    obtain ⟨r70, hc70, hf⟩ := ob hf
    refine k_wrv (k_vir S (c_LR_settle (l := l) (D := D) (n := n) (ad := ad) (G := G) hc70) g_LR_180 hd_LR_settle ⟨rfl, rfl⟩ ⟨Nat.le_of_ble_eq_true rfl, Nat.le_of_ble_eq_true rfl⟩ wl_blind (va_recv hK hP rfl (wl_to (LR_lt) (LR_at))) (wl_pre hP hK hA) rfl hl.1 rfl (Nat.le_of_ble_eq_true rfl) d_LR_receive_70 (Nat.zero_le _) (Nat.zero_le _)) hS (fun _ h => h) (fun H locs hP _ _ hS => ?_)
    refine lv_goto (tgt := 131) hx hb d_LR_receive_73 (by decide) ?_
    cases hf
    exact w_vret hx hb hr hlk hP hS d_LR_receive_131
  rw [if_neg hs26_1] at hf
  by_cases hs26_2 : r23 = 2
  · rw [if_pos hs26_2] at hf
    refine lv_lookup (off := 50) (tgt := 76) hx hb d_LR_receive_26 (by decide) (by rw [hs26_2]; rfl) (by decide) ?_
    refine lv_aload_n hx hb d_LR_receive_76 rfl (lv_at hl 4 rfl) ?_
    refine va_get (D := D) (ci := 0) (v := .ref (ad 7)) (C := R_LR) (T := F_LR) (N := 6) hx hb hts in_LR hown hK hP 0 (wl_to (LR_lt) (LR_at)) rfl 3 (by decide) (hts _ fl_LR_40) (fun _ h => h) rfl d_LR_receive_77 ?_
    refine lv_iload_n hx hb d_LR_receive_80 rfl (lv_at hl 2 rfl) ?_
    obtain ⟨j81, hj81, hf⟩ := ob hf
    refine k_aald hx hb hK hP 7 2 (RA_lt) (RA_at) rfl hj81 rfl d_LR_receive_81 ?_
    refine lv_iload_n hx hb d_LR_receive_82 rfl (lv_at hl 3 rfl) ?_
    refine lv_iload hx hb d_LR_receive_83 (lv_at hl 1 rfl) ?_
    refine lv_iload hx hb d_LR_receive_85 (lv_at hl 0 rfl) ?_
    obtain ⟨r87, hc87, hf⟩ := ob hf
    refine k_wrv (k_vir S (c_Router_unhear (l := l) (D := D) (n := n) (ad := ad) (G := G) (ix_lt hj81) hc87) g_LR_221 hd_Router_unhear ⟨rfl, rfl⟩ ⟨Nat.le_of_ble_eq_true rfl, Nat.le_of_ble_eq_true rfl⟩ wl_blind (va_recv hK hP rfl (wl_to (RT_lt (ix_lt hj81)) (RT_at (ix_lt hj81)))) (wl_pre hP hK hA) rfl hl.1 rfl (Nat.le_of_ble_eq_true rfl) d_LR_receive_87 (Nat.zero_le _) (Nat.zero_le _)) hS (fun _ h => h) (fun H locs hP _ _ hS => ?_)
    refine lv_aload_n hx hb d_LR_receive_90 rfl (lv_at hl 4 rfl) ?_
    refine va_get (D := D) (ci := 0) (v := .ref (ad 5)) (C := R_LR) (T := F_LR) (N := 6) hx hb hts in_LR hown hK hP 0 (wl_to (LR_lt) (LR_at)) rfl 2 (by decide) (hts _ fl_LR_34) (fun _ h => h) rfl d_LR_receive_91 ?_
    refine lv_iconst (v := 3) hx hb d_LR_receive_94 (by decide) ?_
    refine lv_iload_n hx hb d_LR_receive_95 rfl (lv_at hl 2 rfl) ?_
    refine lv_iload_n hx hb d_LR_receive_96 rfl (lv_at hl 3 rfl) ?_
    refine lv_iload hx hb d_LR_receive_97 (lv_at hl 1 rfl) ?_
    refine lv_iload hx hb d_LR_receive_99 (lv_at hl 0 rfl) ?_
    obtain ⟨r101, hc101, hf⟩ := ob hf
    refine k_wrv (k_vir S (c_Mail_post (l := l) (D := D) (n := n) (ad := ad) (G := G) hc101) g_LR_173 hd_Mail_post ⟨rfl, rfl⟩ ⟨Nat.le_of_ble_eq_true rfl, Nat.le_of_ble_eq_true rfl⟩ wl_blind (va_recv hK hP rfl (wl_to (Mail_lt) (Mail_at))) (wl_pre hP hK hA) rfl hl.1 rfl (Nat.le_of_ble_eq_true rfl) d_LR_receive_101 (Nat.zero_le _) (Nat.zero_le _)) hS (fun _ h => h) (fun H locs hP _ _ hS => ?_)
    refine lv_aload_n hx hb d_LR_receive_104 rfl (lv_at hl 4 rfl) ?_
    refine lv_iload_n hx hb d_LR_receive_105 rfl (lv_at hl 2 rfl) ?_
    refine lv_iload hx hb d_LR_receive_106 (lv_at hl 1 rfl) ?_
    obtain ⟨r108, hc108, hf⟩ := ob hf
    refine k_wrv (k_vir S (c_LR_settle (l := l) (D := D) (n := n) (ad := ad) (G := G) hc108) g_LR_180 hd_LR_settle ⟨rfl, rfl⟩ ⟨Nat.le_of_ble_eq_true rfl, Nat.le_of_ble_eq_true rfl⟩ wl_blind (va_recv hK hP rfl (wl_to (LR_lt) (LR_at))) (wl_pre hP hK hA) rfl hl.1 rfl (Nat.le_of_ble_eq_true rfl) d_LR_receive_108 (Nat.zero_le _) (Nat.zero_le _)) hS (fun _ h => h) (fun H locs hP _ _ hS => ?_)
    refine lv_goto (tgt := 131) hx hb d_LR_receive_111 (by decide) ?_
    cases hf
    exact w_vret hx hb hr hlk hP hS d_LR_receive_131
  rw [if_neg hs26_2] at hf
  refine lv_lookup (off := 88) (tgt := 114) hx hb d_LR_receive_26 (by decide) ((lv_osw hs26_1 rfl).trans ((lv_osw hs26_2 rfl).trans rfl)) (by decide) ?_
  refine lv_aload_n hx hb d_LR_receive_114 rfl (lv_at hl 4 rfl) ?_
  refine va_get (D := D) (ci := 0) (v := .ref (ad 7)) (C := R_LR) (T := F_LR) (N := 6) hx hb hts in_LR hown hK hP 0 (wl_to (LR_lt) (LR_at)) rfl 3 (by decide) (hts _ fl_LR_40) (fun _ h => h) rfl d_LR_receive_115 ?_
  refine lv_iload_n hx hb d_LR_receive_118 rfl (lv_at hl 2 rfl) ?_
  obtain ⟨j119, hj119, hf⟩ := ob hf
  refine k_aald hx hb hK hP 7 2 (RA_lt) (RA_at) rfl hj119 rfl d_LR_receive_119 ?_
  refine lv_iload hx hb d_LR_receive_120 (lv_at hl 0 rfl) ?_
  refine lv_iload_n hx hb d_LR_receive_122 rfl (lv_at hl 3 rfl) ?_
  obtain ⟨r123, hc123, hf⟩ := ob hf
  refine k_wrv (k_vir S (c_Router_endRelease (l := l) (D := D) (n := n) (ad := ad) (G := G) (ix_lt hj119) hc123) g_LR_224 hd_Router_endRelease ⟨rfl, rfl⟩ ⟨Nat.le_of_ble_eq_true rfl, Nat.le_of_ble_eq_true rfl⟩ wl_blind (va_recv hK hP rfl (wl_to (RT_lt (ix_lt hj119)) (RT_at (ix_lt hj119)))) (wl_pre hP hK hA) rfl hl.1 rfl (Nat.le_of_ble_eq_true rfl) d_LR_receive_123 (Nat.zero_le _) (Nat.zero_le _)) hS (fun _ h => h) (fun H locs hP _ _ hS => ?_)
  refine lv_aload_n hx hb d_LR_receive_126 rfl (lv_at hl 4 rfl) ?_
  refine lv_iload_n hx hb d_LR_receive_127 rfl (lv_at hl 2 rfl) ?_
  obtain ⟨r128, hc128, hf⟩ := ob hf
  refine k_wrv (k_vir S (c_LR_settlePrefixes (l := l) (D := D) (n := n) (ad := ad) (G := G) hc128) g_LR_177 hd_LR_settlePrefixes ⟨rfl, rfl⟩ ⟨Nat.le_of_ble_eq_true rfl, Nat.le_of_ble_eq_true rfl⟩ wl_blind (va_recv hK hP rfl (wl_to (LR_lt) (LR_at))) (wl_pre hP hK hA) rfl hl.1 rfl (Nat.le_of_ble_eq_true rfl) d_LR_receive_128 (Nat.zero_le _) (Nat.zero_le _)) hS (fun _ h => h) (fun H locs hP _ _ hS => ?_)
  cases hf
  exact w_vret hx hb hr hlk hP hS d_LR_receive_131
def f_LR_goOn (n : Nat) (a : Int32) (b : Int32) (z : Int32) (M : Mem) : Option (Int32 × Mem) :=
  (f_Ways_nextOf n a b M).bind fun r6 => if r6 = (-1) then (some (1, M)) else ((ix a n).bind fun j24 => (f_Router_toldBy n j24 r6 b M).bind fun r28 => if z = 0 then ((f_Packet_isAtLastHop n M).bind fun r48 => if r48 = 0 then ((f_Packet_moveTo n r6 r28 M).bind fun r64 => some ((-1), r64)) else (some (2, M))) else (if r28 = 0 then (some (4, M)) else ((f_Packet_isAtLastHop n M).bind fun r48 => if r48 = 0 then ((f_Packet_moveTo n r6 r28 M).bind fun r64 => some ((-1), r64)) else (some (2, M)))))
abbrev rm_LR_goOn : Room := { frames := 2, cells := 0, slots := 0, locals := 46 }
set_option maxHeartbeats 4000000 in
set_option maxRecDepth 100000 in
theorem c_LR_goOn {l : Launch} {D : va_G} {n : Nat} {ad : Nat → Nat} {G : Nat → ClassId} {a : Int32} {b : Int32} {z : Int32}  {M : Mem} {x : Int32 × Mem} (hf : f_LR_goOn n a b z M = some x) : Met l y_LR_goOn (wc y_LR_goOn b_LR_goOn 6 (some .int)) rm_LR_goOn (va_Pc [.ref (ad 0), .int a, .int b, .int z] (cB D n ad G M)) (wr_Q (some (.int x.1)) D cls (cK n) ad (cE n ad G x.2)) 0 0 (wl_A (cK n) ad) := by
  refine k_met (by decide) (Nat.le_of_ble_eq_true rfl) ?_
  intro p e s m args below meth c S hr hlk hB ls hl
  obtain ⟨hx, hb, hml, hown, hts⟩ := id S
  obtain ⟨hP, hK, hA0⟩ := hB
  have hA := wl_own hA0
  have hl : lv_has ls 6 [(0, .ref (ad 0)), (1, .int a), (2, .int b), (3, .int z)] := hl
  have hS : va_S (wl_A (cK n) ad) s.heap s.heap [] := va_S.rf
  unfold f_LR_goOn at hf
  refine lv_aload_n hx hb d_LR_goOn_0 rfl (lv_at hl 0 rfl) ?_
  refine va_get (D := D) (ci := 0) (v := .ref (ad 1)) (C := R_LR) (T := F_LR) (N := 6) hx hb hts in_LR hown hK hP 0 (wl_to (LR_lt) (LR_at)) rfl 1 (by decide) (hts _ fl_LR_27) (fun _ h => h) rfl d_LR_goOn_1 ?_
  refine lv_iload_n hx hb d_LR_goOn_4 rfl (lv_at hl 1 rfl) ?_
  refine lv_iload_n hx hb d_LR_goOn_5 rfl (lv_at hl 2 rfl) ?_
  obtain ⟨r6, hc6, hf⟩ := ob hf
  refine k_rdi (k_vir S (c_Ways_nextOf (l := l) (D := D) (n := n) (ad := ad) (G := G) hc6) g_LR_122 hd_Ways_nextOf ⟨rfl, rfl⟩ ⟨Nat.le_of_ble_eq_true rfl, Nat.le_of_ble_eq_true rfl⟩ wl_blind (va_recv hK hP rfl (wl_to (Ways_lt) (Ways_at))) (wl_pre hP hK hA) rfl hl.1 rfl (Nat.le_of_ble_eq_true rfl) d_LR_goOn_6 (Nat.zero_le _) (Nat.zero_le _)) ?_
  refine lv_istore (lv' := [(4, .int r6), (0, .ref (ad 0)), (1, .int a), (2, .int b), (3, .int z)]) hx hb d_LR_goOn_9 hl (by decide) rfl (fun ls hl => ?_)
  refine lv_iload hx hb d_LR_goOn_11 (lv_at hl 0 rfl) ?_
  refine lv_iconst (v := (-1)) hx hb d_LR_goOn_13 (by decide) ?_
  refine lv_icmp_ne (tgt := 19) hx hb d_LR_goOn_14 (by decide) (fun h14 => ?_) (fun h14 => ?_)
  · rw [if_neg h14] at hf
    refine lv_aload_n hx hb d_LR_goOn_19 rfl (lv_at hl 1 rfl) ?_
    refine va_get (D := D) (ci := 0) (v := .ref (ad 7)) (C := R_LR) (T := F_LR) (N := 6) hx hb hts in_LR hown hK hP 0 (wl_to (LR_lt) (LR_at)) rfl 3 (by decide) (hts _ fl_LR_40) (fun _ h => h) rfl d_LR_goOn_20 ?_
    refine lv_iload_n hx hb d_LR_goOn_23 rfl (lv_at hl 2 rfl) ?_
    obtain ⟨j24, hj24, hf⟩ := ob hf
    refine k_aald hx hb hK hP 7 2 (RA_lt) (RA_at) rfl hj24 rfl d_LR_goOn_24 ?_
    refine lv_iload hx hb d_LR_goOn_25 (lv_at hl 0 rfl) ?_
    refine lv_iload_n hx hb d_LR_goOn_27 rfl (lv_at hl 3 rfl) ?_
    obtain ⟨r28, hc28, hf⟩ := ob hf
    refine k_rdi (k_vir S (c_Router_toldBy (l := l) (D := D) (n := n) (ad := ad) (G := G) (ix_lt hj24) hc28) g_LR_128 hd_Router_toldBy ⟨rfl, rfl⟩ ⟨Nat.le_of_ble_eq_true rfl, Nat.le_of_ble_eq_true rfl⟩ wl_blind (va_recv hK hP rfl (wl_to (RT_lt (ix_lt hj24)) (RT_at (ix_lt hj24)))) (wl_pre hP hK hA) rfl hl.1 rfl (Nat.le_of_ble_eq_true rfl) d_LR_goOn_28 (Nat.zero_le _) (Nat.zero_le _)) ?_
    refine lv_istore (lv' := [(5, .int r28), (4, .int r6), (0, .ref (ad 0)), (1, .int a), (2, .int b), (3, .int z)]) hx hb d_LR_goOn_31 hl (by decide) rfl (fun ls hl => ?_)
    refine lv_iload_n hx hb d_LR_goOn_33 rfl (lv_at hl 5 rfl) ?_
    refine lv_if_eq (tgt := 44) hx hb d_LR_goOn_34 (by decide) (fun h34 => ?_) (fun h34 => ?_)
    · rw [if_pos h34] at hf
      refine lv_aload_n hx hb d_LR_goOn_44 rfl (lv_at hl 2 rfl) ?_
      refine va_get (D := D) (ci := 0) (v := .ref (ad 9)) (C := R_LR) (T := F_LR) (N := 6) hx hb hts in_LR hown hK hP 0 (wl_to (LR_lt) (LR_at)) rfl 5 (by decide) (hts _ fl_LR_58) (fun _ h => h) rfl d_LR_goOn_45 ?_
      obtain ⟨r48, hc48, hf⟩ := ob hf
      refine k_rdi (k_vir S (c_Packet_isAtLastHop (l := l) (D := D) (n := n) (ad := ad) (G := G) hc48) g_LR_257 hd_Packet_isAtLastHop ⟨rfl, rfl⟩ ⟨Nat.le_of_ble_eq_true rfl, Nat.le_of_ble_eq_true rfl⟩ wl_blind (va_recv hK hP rfl (wl_to (PK_lt) (PK_at))) (wl_pre hP hK hA) rfl hl.1 rfl (Nat.le_of_ble_eq_true rfl) d_LR_goOn_48 (Nat.zero_le _) (Nat.zero_le _)) ?_
      refine lv_if_eq (tgt := 56) hx hb d_LR_goOn_51 (by decide) (fun h51 => ?_) (fun h51 => ?_)
      · rw [if_pos h51] at hf
        refine lv_aload_n hx hb d_LR_goOn_56 rfl (lv_at hl 2 rfl) ?_
        refine va_get (D := D) (ci := 0) (v := .ref (ad 9)) (C := R_LR) (T := F_LR) (N := 6) hx hb hts in_LR hown hK hP 0 (wl_to (LR_lt) (LR_at)) rfl 5 (by decide) (hts _ fl_LR_58) (fun _ h => h) rfl d_LR_goOn_57 ?_
        refine lv_iload hx hb d_LR_goOn_60 (lv_at hl 1 rfl) ?_
        refine lv_iload hx hb d_LR_goOn_62 (lv_at hl 0 rfl) ?_
        obtain ⟨r64, hc64, hf⟩ := ob hf
        refine k_wrv (k_vir S (c_Packet_moveTo (l := l) (D := D) (n := n) (ad := ad) (G := G) hc64) g_LR_260 hd_Packet_moveTo ⟨rfl, rfl⟩ ⟨Nat.le_of_ble_eq_true rfl, Nat.le_of_ble_eq_true rfl⟩ wl_blind (va_recv hK hP rfl (wl_to (PK_lt) (PK_at))) (wl_pre hP hK hA) rfl hl.1 rfl (Nat.le_of_ble_eq_true rfl) d_LR_goOn_64 (Nat.zero_le _) (Nat.zero_le _)) hS (fun _ h => h) (fun H locs hP _ _ hS => ?_)
        refine lv_iconst (v := (-1)) hx hb d_LR_goOn_67 (by decide) ?_
        cases hf
        exact w_iret hx hb hr hlk hP hS d_LR_goOn_68
      · rw [if_neg h51] at hf
        refine lv_iconst (v := 2) hx hb d_LR_goOn_54 (by decide) ?_
        cases hf
        exact w_iret hx hb hr hlk hP hS d_LR_goOn_55
    · rw [if_neg h34] at hf
      refine lv_iload hx hb d_LR_goOn_37 (lv_at hl 0 rfl) ?_
      refine lv_if_ne (tgt := 44) hx hb d_LR_goOn_39 (by decide) (fun h39 => ?_) (fun h39 => ?_)
      · rw [if_neg h39] at hf
        refine lv_aload_n hx hb d_LR_goOn_44 rfl (lv_at hl 2 rfl) ?_
        refine va_get (D := D) (ci := 0) (v := .ref (ad 9)) (C := R_LR) (T := F_LR) (N := 6) hx hb hts in_LR hown hK hP 0 (wl_to (LR_lt) (LR_at)) rfl 5 (by decide) (hts _ fl_LR_58) (fun _ h => h) rfl d_LR_goOn_45 ?_
        obtain ⟨r48, hc48, hf⟩ := ob hf
        refine k_rdi (k_vir S (c_Packet_isAtLastHop (l := l) (D := D) (n := n) (ad := ad) (G := G) hc48) g_LR_257 hd_Packet_isAtLastHop ⟨rfl, rfl⟩ ⟨Nat.le_of_ble_eq_true rfl, Nat.le_of_ble_eq_true rfl⟩ wl_blind (va_recv hK hP rfl (wl_to (PK_lt) (PK_at))) (wl_pre hP hK hA) rfl hl.1 rfl (Nat.le_of_ble_eq_true rfl) d_LR_goOn_48 (Nat.zero_le _) (Nat.zero_le _)) ?_
        refine lv_if_eq (tgt := 56) hx hb d_LR_goOn_51 (by decide) (fun h51 => ?_) (fun h51 => ?_)
        · rw [if_pos h51] at hf
          refine lv_aload_n hx hb d_LR_goOn_56 rfl (lv_at hl 2 rfl) ?_
          refine va_get (D := D) (ci := 0) (v := .ref (ad 9)) (C := R_LR) (T := F_LR) (N := 6) hx hb hts in_LR hown hK hP 0 (wl_to (LR_lt) (LR_at)) rfl 5 (by decide) (hts _ fl_LR_58) (fun _ h => h) rfl d_LR_goOn_57 ?_
          refine lv_iload hx hb d_LR_goOn_60 (lv_at hl 1 rfl) ?_
          refine lv_iload hx hb d_LR_goOn_62 (lv_at hl 0 rfl) ?_
          obtain ⟨r64, hc64, hf⟩ := ob hf
          refine k_wrv (k_vir S (c_Packet_moveTo (l := l) (D := D) (n := n) (ad := ad) (G := G) hc64) g_LR_260 hd_Packet_moveTo ⟨rfl, rfl⟩ ⟨Nat.le_of_ble_eq_true rfl, Nat.le_of_ble_eq_true rfl⟩ wl_blind (va_recv hK hP rfl (wl_to (PK_lt) (PK_at))) (wl_pre hP hK hA) rfl hl.1 rfl (Nat.le_of_ble_eq_true rfl) d_LR_goOn_64 (Nat.zero_le _) (Nat.zero_le _)) hS (fun _ h => h) (fun H locs hP _ _ hS => ?_)
          refine lv_iconst (v := (-1)) hx hb d_LR_goOn_67 (by decide) ?_
          cases hf
          exact w_iret hx hb hr hlk hP hS d_LR_goOn_68
        · rw [if_neg h51] at hf
          refine lv_iconst (v := 2) hx hb d_LR_goOn_54 (by decide) ?_
          cases hf
          exact w_iret hx hb hr hlk hP hS d_LR_goOn_55
      · rw [if_pos h39] at hf
        refine lv_iconst (v := 4) hx hb d_LR_goOn_42 (by decide) ?_
        cases hf
        exact w_iret hx hb hr hlk hP hS d_LR_goOn_43
  · rw [if_pos h14] at hf
    refine lv_iconst (v := 1) hx hb d_LR_goOn_17 (by decide) ?_
    cases hf
    exact w_iret hx hb hr hlk hP hS d_LR_goOn_18
def f_LR_tryService (n : Nat) (a : Int32) (M : Mem) : Option (Int32) :=
  (f_Packet_targetService n M).bind fun r8 => (ix r8 4).bind fun j11 => if (M 8 0 0 j11) = a then (some 0) else (some 3)
abbrev rm_LR_tryService : Room := { frames := 1, cells := 0, slots := 0, locals := 20 }
set_option maxHeartbeats 4000000 in
set_option maxRecDepth 100000 in
theorem c_LR_tryService {l : Launch} {D : va_G} {n : Nat} {ad : Nat → Nat} {G : Nat → ClassId} {a : Int32}  {M : Mem} {x : Int32} (hf : f_LR_tryService n a M = some x) : Met l y_LR_tryService (wc y_LR_tryService b_LR_tryService 2 (some .int)) rm_LR_tryService (va_Pc [.ref (ad 0), .int a] (cB D n ad G M)) (rd_Q (some (.int x))) 0 0 (fun _ => False) := by
  refine k_met (by decide) (Nat.le_of_ble_eq_true rfl) ?_
  intro p e s m args below meth c S hr hlk hB ls hl
  obtain ⟨hx, hb, hml, hown, hts⟩ := id S
  obtain ⟨hP, hK, hA0⟩ := hB
  have hA := wl_own hA0
  have hl : lv_has ls 2 [(0, .ref (ad 0)), (1, .int a)] := hl
  unfold f_LR_tryService at hf
  refine lv_aload_n hx hb d_LR_tryService_0 rfl (lv_at hl 0 rfl) ?_
  refine va_get (D := D) (ci := 0) (v := .ref (ad 8)) (C := R_LR) (T := F_LR) (N := 6) hx hb hts in_LR hown hK hP 0 (wl_to (LR_lt) (LR_at)) rfl 4 (by decide) (hts _ fl_LR_45) (fun _ h => h) rfl d_LR_tryService_1 ?_
  refine lv_aload_n hx hb d_LR_tryService_4 rfl (lv_at hl 0 rfl) ?_
  refine va_get (D := D) (ci := 0) (v := .ref (ad 9)) (C := R_LR) (T := F_LR) (N := 6) hx hb hts in_LR hown hK hP 0 (wl_to (LR_lt) (LR_at)) rfl 5 (by decide) (hts _ fl_LR_58) (fun _ h => h) rfl d_LR_tryService_5 ?_
  obtain ⟨r8, hc8, hf⟩ := ob hf
  refine k_rdi (k_vir S (c_Packet_targetService (l := l) (D := D) (n := n) (ad := ad) (G := G) hc8) g_LR_254 hd_Packet_targetService ⟨rfl, rfl⟩ ⟨Nat.le_of_ble_eq_true rfl, Nat.le_of_ble_eq_true rfl⟩ wl_blind (va_recv hK hP rfl (wl_to (PK_lt) (PK_at))) (wl_pre hP hK hA) rfl hl.1 rfl (Nat.le_of_ble_eq_true rfl) d_LR_tryService_8 (Nat.zero_le _) (Nat.zero_le _)) ?_
  obtain ⟨j11, hj11, hf⟩ := ob hf
  refine k_iald hx hb hK hP 8 0 (PL_lt) (PL_at) rfl hj11 d_LR_tryService_11 ?_
  refine lv_iload_n hx hb d_LR_tryService_12 rfl (lv_at hl 1 rfl) ?_
  refine lv_icmp_ne (tgt := 20) hx hb d_LR_tryService_13 (by decide) (fun h13 => ?_) (fun h13 => ?_)
  · rw [if_neg h13] at hf
    refine lv_iconst (v := 3) hx hb d_LR_tryService_20 (by decide) ?_
    cases hf
    exact r_iret hx hb hr hlk d_LR_tryService_21
  · rw [if_pos h13] at hf
    refine lv_iconst (v := 0) hx hb d_LR_tryService_16 (by decide) ?_
    refine lv_goto (tgt := 21) hx hb d_LR_tryService_17 (by decide) ?_
    cases hf
    exact r_iret hx hb hr hlk d_LR_tryService_21
def f_LR_passUnlabelled (n : Nat) (a : Int32) (M : Mem) : Option (Int32 × Mem) :=
  (f_Packet_isForService n M).bind fun r4 => (f_Packet_targetPrefix n M).bind fun r17 => (f_Ways_owns n a r17 M).bind fun r20 => if r20 = 0 then ((f_Packet_targetPrefix n M).bind fun r46 => (f_LR_goOn n a r46 r4 M).bind fun r50 => some (r50.1, r50.2)) else (if r4 = 0 then (some (0, M)) else ((f_LR_tryService n a M).bind fun r32 => some (r32, M)))
abbrev rm_LR_passUnlabelled : Room := { frames := 3, cells := 0, slots := 0, locals := 71 }
set_option maxHeartbeats 4000000 in
set_option maxRecDepth 100000 in
theorem c_LR_passUnlabelled {l : Launch} {D : va_G} {n : Nat} {ad : Nat → Nat} {G : Nat → ClassId} {a : Int32}  {M : Mem} {x : Int32 × Mem} (hf : f_LR_passUnlabelled n a M = some x) : Met l y_LR_passUnlabelled (wc y_LR_passUnlabelled b_LR_passUnlabelled 3 (some .int)) rm_LR_passUnlabelled (va_Pc [.ref (ad 0), .int a] (cB D n ad G M)) (wr_Q (some (.int x.1)) D cls (cK n) ad (cE n ad G x.2)) 0 0 (wl_A (cK n) ad) := by
  refine k_met (by decide) (Nat.le_of_ble_eq_true rfl) ?_
  intro p e s m args below meth c S hr hlk hB ls hl
  obtain ⟨hx, hb, hml, hown, hts⟩ := id S
  obtain ⟨hP, hK, hA0⟩ := hB
  have hA := wl_own hA0
  have hl : lv_has ls 3 [(0, .ref (ad 0)), (1, .int a)] := hl
  have hS : va_S (wl_A (cK n) ad) s.heap s.heap [] := va_S.rf
  unfold f_LR_passUnlabelled at hf
  refine lv_aload_n hx hb d_LR_passUnlabelled_0 rfl (lv_at hl 0 rfl) ?_
  refine va_get (D := D) (ci := 0) (v := .ref (ad 9)) (C := R_LR) (T := F_LR) (N := 6) hx hb hts in_LR hown hK hP 0 (wl_to (LR_lt) (LR_at)) rfl 5 (by decide) (hts _ fl_LR_58) (fun _ h => h) rfl d_LR_passUnlabelled_1 ?_
  obtain ⟨r4, hc4, hf⟩ := ob hf
  refine k_rdi (k_vir S (c_Packet_isForService (l := l) (D := D) (n := n) (ad := ad) (G := G) hc4) g_LR_244 hd_Packet_isForService ⟨rfl, rfl⟩ ⟨Nat.le_of_ble_eq_true rfl, Nat.le_of_ble_eq_true rfl⟩ wl_blind (va_recv hK hP rfl (wl_to (PK_lt) (PK_at))) (wl_pre hP hK hA) rfl hl.1 rfl (Nat.le_of_ble_eq_true rfl) d_LR_passUnlabelled_4 (Nat.zero_le _) (Nat.zero_le _)) ?_
  refine lv_istore_n (lv' := [(2, .int r4), (0, .ref (ad 0)), (1, .int a)]) hx hb d_LR_passUnlabelled_7 rfl hl (by decide) rfl (fun ls hl => ?_)
  refine lv_aload_n hx hb d_LR_passUnlabelled_8 rfl (lv_at hl 1 rfl) ?_
  refine va_get (D := D) (ci := 0) (v := .ref (ad 1)) (C := R_LR) (T := F_LR) (N := 6) hx hb hts in_LR hown hK hP 0 (wl_to (LR_lt) (LR_at)) rfl 1 (by decide) (hts _ fl_LR_27) (fun _ h => h) rfl d_LR_passUnlabelled_9 ?_
  refine lv_iload_n hx hb d_LR_passUnlabelled_12 rfl (lv_at hl 2 rfl) ?_
  refine lv_aload_n hx hb d_LR_passUnlabelled_13 rfl (lv_at hl 1 rfl) ?_
  refine va_get (D := D) (ci := 0) (v := .ref (ad 9)) (C := R_LR) (T := F_LR) (N := 6) hx hb hts in_LR hown hK hP 0 (wl_to (LR_lt) (LR_at)) rfl 5 (by decide) (hts _ fl_LR_58) (fun _ h => h) rfl d_LR_passUnlabelled_14 ?_
  obtain ⟨r17, hc17, hf⟩ := ob hf
  refine k_rdi (k_vir S (c_Packet_targetPrefix (l := l) (D := D) (n := n) (ad := ad) (G := G) hc17) g_LR_251 hd_Packet_targetPrefix ⟨rfl, rfl⟩ ⟨Nat.le_of_ble_eq_true rfl, Nat.le_of_ble_eq_true rfl⟩ wl_blind (va_recv hK hP rfl (wl_to (PK_lt) (PK_at))) (wl_pre hP hK hA) rfl hl.1 rfl (Nat.le_of_ble_eq_true rfl) d_LR_passUnlabelled_17 (Nat.zero_le _) (Nat.zero_le _)) ?_
  obtain ⟨r20, hc20, hf⟩ := ob hf
  refine k_rdi (k_vir S (c_Ways_owns (l := l) (D := D) (n := n) (ad := ad) (G := G) hc20) g_LR_193 hd_Ways_owns ⟨rfl, rfl⟩ ⟨Nat.le_of_ble_eq_true rfl, Nat.le_of_ble_eq_true rfl⟩ wl_blind (va_recv hK hP rfl (wl_to (Ways_lt) (Ways_at))) (wl_pre hP hK hA) rfl hl.1 rfl (Nat.le_of_ble_eq_true rfl) d_LR_passUnlabelled_20 (Nat.zero_le _) (Nat.zero_le _)) ?_
  refine lv_if_eq (tgt := 40) hx hb d_LR_passUnlabelled_23 (by decide) (fun h23 => ?_) (fun h23 => ?_)
  · rw [if_pos h23] at hf
    refine lv_aload_n hx hb d_LR_passUnlabelled_40 rfl (lv_at hl 1 rfl) ?_
    refine lv_iload_n hx hb d_LR_passUnlabelled_41 rfl (lv_at hl 2 rfl) ?_
    refine lv_aload_n hx hb d_LR_passUnlabelled_42 rfl (lv_at hl 1 rfl) ?_
    refine va_get (D := D) (ci := 0) (v := .ref (ad 9)) (C := R_LR) (T := F_LR) (N := 6) hx hb hts in_LR hown hK hP 0 (wl_to (LR_lt) (LR_at)) rfl 5 (by decide) (hts _ fl_LR_58) (fun _ h => h) rfl d_LR_passUnlabelled_43 ?_
    obtain ⟨r46, hc46, hf⟩ := ob hf
    refine k_rdi (k_vir S (c_Packet_targetPrefix (l := l) (D := D) (n := n) (ad := ad) (G := G) hc46) g_LR_251 hd_Packet_targetPrefix ⟨rfl, rfl⟩ ⟨Nat.le_of_ble_eq_true rfl, Nat.le_of_ble_eq_true rfl⟩ wl_blind (va_recv hK hP rfl (wl_to (PK_lt) (PK_at))) (wl_pre hP hK hA) rfl hl.1 rfl (Nat.le_of_ble_eq_true rfl) d_LR_passUnlabelled_46 (Nat.zero_le _) (Nat.zero_le _)) ?_
    refine lv_iload_n hx hb d_LR_passUnlabelled_49 rfl (lv_at hl 0 rfl) ?_
    obtain ⟨r50, hc50, hf⟩ := ob hf
    refine k_wri (k_vir S (c_LR_goOn (l := l) (D := D) (n := n) (ad := ad) (G := G) hc50) g_LR_237 hd_LR_goOn ⟨rfl, rfl⟩ ⟨Nat.le_of_ble_eq_true rfl, Nat.le_of_ble_eq_true rfl⟩ wl_blind (va_recv hK hP rfl (wl_to (LR_lt) (LR_at))) (wl_pre hP hK hA) rfl hl.1 rfl (Nat.le_of_ble_eq_true rfl) d_LR_passUnlabelled_50 (Nat.zero_le _) (Nat.zero_le _)) hS (fun _ h => h) (fun H locs hP _ _ hS => ?_)
    cases hf
    exact w_iret hx hb hr hlk hP hS d_LR_passUnlabelled_53
  · rw [if_neg h23] at hf
    refine lv_iload_n hx hb d_LR_passUnlabelled_26 rfl (lv_at hl 0 rfl) ?_
    refine lv_if_eq (tgt := 38) hx hb d_LR_passUnlabelled_27 (by decide) (fun h27 => ?_) (fun h27 => ?_)
    · rw [if_pos h27] at hf
      refine lv_iconst (v := 0) hx hb d_LR_passUnlabelled_38 (by decide) ?_
      cases hf
      exact w_iret hx hb hr hlk hP hS d_LR_passUnlabelled_39
    · rw [if_neg h27] at hf
      refine lv_aload_n hx hb d_LR_passUnlabelled_30 rfl (lv_at hl 1 rfl) ?_
      refine lv_iload_n hx hb d_LR_passUnlabelled_31 rfl (lv_at hl 2 rfl) ?_
      obtain ⟨r32, hc32, hf⟩ := ob hf
      refine k_rdi (k_vir S (c_LR_tryService (l := l) (D := D) (n := n) (ad := ad) (G := G) hc32) g_LR_248 hd_LR_tryService ⟨rfl, rfl⟩ ⟨Nat.le_of_ble_eq_true rfl, Nat.le_of_ble_eq_true rfl⟩ wl_blind (va_recv hK hP rfl (wl_to (LR_lt) (LR_at))) (wl_pre hP hK hA) rfl hl.1 rfl (Nat.le_of_ble_eq_true rfl) d_LR_passUnlabelled_32 (Nat.zero_le _) (Nat.zero_le _)) ?_
      refine lv_goto (tgt := 39) hx hb d_LR_passUnlabelled_35 (by decide) ?_
      cases hf
      exact w_iret hx hb hr hlk hP hS d_LR_passUnlabelled_39
def f_LR_passRouter (n : Nat) (M : Mem) : Option (Int32 × Mem) :=
  (f_Packet_place n M).bind fun r4 => (f_Packet_topLabel n M).bind fun r12 => if r12 = 0 then ((f_LR_passUnlabelled n r4 M).bind fun r20 => some (r20.1, r20.2)) else ((ix r4 n).bind fun j29 => (f_Packet_topLabel n M).bind fun r34 => (f_Router_prefixOf n j29 r34 M).bind fun r37 => if r37 = (-1) then (some (3, M)) else ((f_Ways_owns n r4 r37 M).bind fun r54 => if r54 = 0 then ((f_LR_goOn n r4 r37 1 M).bind fun r64 => some (r64.1, r64.2)) else ((f_Packet_pop n M).bind fun r72 => (f_Packet_isForService n r72).bind fun r79 => if r79 = 0 then ((f_LR_passUnlabelled n r4 r72).bind fun r95 => some (r95.1, r95.2)) else ((f_LR_tryService n r4 r72).bind fun r87 => some (r87, r72)))))
abbrev rm_LR_passRouter : Room := { frames := 4, cells := 0, slots := 0, locals := 93 }
set_option maxHeartbeats 4000000 in
set_option maxRecDepth 100000 in
theorem c_LR_passRouter {l : Launch} {D : va_G} {n : Nat} {ad : Nat → Nat} {G : Nat → ClassId}  {M : Mem} {x : Int32 × Mem} (hf : f_LR_passRouter n M = some x) : Met l y_LR_passRouter (wc y_LR_passRouter b_LR_passRouter 3 (some .int)) rm_LR_passRouter (va_Pc [.ref (ad 0)] (cB D n ad G M)) (wr_Q (some (.int x.1)) D cls (cK n) ad (cE n ad G x.2)) 0 0 (wl_A (cK n) ad) := by
  refine k_met (by decide) (Nat.le_of_ble_eq_true rfl) ?_
  intro p e s m args below meth c S hr hlk hB ls hl
  obtain ⟨hx, hb, hml, hown, hts⟩ := id S
  obtain ⟨hP, hK, hA0⟩ := hB
  have hA := wl_own hA0
  have hl : lv_has ls 3 [(0, .ref (ad 0))] := hl
  have hS : va_S (wl_A (cK n) ad) s.heap s.heap [] := va_S.rf
  unfold f_LR_passRouter at hf
  refine lv_aload_n hx hb d_LR_passRouter_0 rfl (lv_at hl 0 rfl) ?_
  refine va_get (D := D) (ci := 0) (v := .ref (ad 9)) (C := R_LR) (T := F_LR) (N := 6) hx hb hts in_LR hown hK hP 0 (wl_to (LR_lt) (LR_at)) rfl 5 (by decide) (hts _ fl_LR_58) (fun _ h => h) rfl d_LR_passRouter_1 ?_
  obtain ⟨r4, hc4, hf⟩ := ob hf
  refine k_rdi (k_vir S (c_Packet_place (l := l) (D := D) (n := n) (ad := ad) (G := G) hc4) g_LR_227 hd_Packet_place ⟨rfl, rfl⟩ ⟨Nat.le_of_ble_eq_true rfl, Nat.le_of_ble_eq_true rfl⟩ wl_blind (va_recv hK hP rfl (wl_to (PK_lt) (PK_at))) (wl_pre hP hK hA) rfl hl.1 rfl (Nat.le_of_ble_eq_true rfl) d_LR_passRouter_4 (Nat.zero_le _) (Nat.zero_le _)) ?_
  refine lv_istore_n (lv' := [(1, .int r4), (0, .ref (ad 0))]) hx hb d_LR_passRouter_7 rfl hl (by decide) rfl (fun ls hl => ?_)
  refine lv_aload_n hx hb d_LR_passRouter_8 rfl (lv_at hl 1 rfl) ?_
  refine va_get (D := D) (ci := 0) (v := .ref (ad 9)) (C := R_LR) (T := F_LR) (N := 6) hx hb hts in_LR hown hK hP 0 (wl_to (LR_lt) (LR_at)) rfl 5 (by decide) (hts _ fl_LR_58) (fun _ h => h) rfl d_LR_passRouter_9 ?_
  obtain ⟨r12, hc12, hf⟩ := ob hf
  refine k_rdi (k_vir S (c_Packet_topLabel (l := l) (D := D) (n := n) (ad := ad) (G := G) hc12) g_LR_230 hd_Packet_topLabel ⟨rfl, rfl⟩ ⟨Nat.le_of_ble_eq_true rfl, Nat.le_of_ble_eq_true rfl⟩ wl_blind (va_recv hK hP rfl (wl_to (PK_lt) (PK_at))) (wl_pre hP hK hA) rfl hl.1 rfl (Nat.le_of_ble_eq_true rfl) d_LR_passRouter_12 (Nat.zero_le _) (Nat.zero_le _)) ?_
  refine lv_if_ne (tgt := 24) hx hb d_LR_passRouter_15 (by decide) (fun h15 => ?_) (fun h15 => ?_)
  · rw [if_neg h15] at hf
    refine lv_aload_n hx hb d_LR_passRouter_24 rfl (lv_at hl 1 rfl) ?_
    refine va_get (D := D) (ci := 0) (v := .ref (ad 7)) (C := R_LR) (T := F_LR) (N := 6) hx hb hts in_LR hown hK hP 0 (wl_to (LR_lt) (LR_at)) rfl 3 (by decide) (hts _ fl_LR_40) (fun _ h => h) rfl d_LR_passRouter_25 ?_
    refine lv_iload_n hx hb d_LR_passRouter_28 rfl (lv_at hl 0 rfl) ?_
    obtain ⟨j29, hj29, hf⟩ := ob hf
    refine k_aald hx hb hK hP 7 2 (RA_lt) (RA_at) rfl hj29 rfl d_LR_passRouter_29 ?_
    refine lv_aload_n hx hb d_LR_passRouter_30 rfl (lv_at hl 1 rfl) ?_
    refine va_get (D := D) (ci := 0) (v := .ref (ad 9)) (C := R_LR) (T := F_LR) (N := 6) hx hb hts in_LR hown hK hP 0 (wl_to (LR_lt) (LR_at)) rfl 5 (by decide) (hts _ fl_LR_58) (fun _ h => h) rfl d_LR_passRouter_31 ?_
    obtain ⟨r34, hc34, hf⟩ := ob hf
    refine k_rdi (k_vir S (c_Packet_topLabel (l := l) (D := D) (n := n) (ad := ad) (G := G) hc34) g_LR_230 hd_Packet_topLabel ⟨rfl, rfl⟩ ⟨Nat.le_of_ble_eq_true rfl, Nat.le_of_ble_eq_true rfl⟩ wl_blind (va_recv hK hP rfl (wl_to (PK_lt) (PK_at))) (wl_pre hP hK hA) rfl hl.1 rfl (Nat.le_of_ble_eq_true rfl) d_LR_passRouter_34 (Nat.zero_le _) (Nat.zero_le _)) ?_
    obtain ⟨r37, hc37, hf⟩ := ob hf
    refine k_rdi (k_vir S (c_Router_prefixOf (l := l) (D := D) (n := n) (ad := ad) (G := G) (ix_lt hj29) hc37) g_LR_236 hd_Router_prefixOf ⟨rfl, rfl⟩ ⟨Nat.le_of_ble_eq_true rfl, Nat.le_of_ble_eq_true rfl⟩ wl_blind (va_recv hK hP rfl (wl_to (RT_lt (ix_lt hj29)) (RT_at (ix_lt hj29)))) (wl_pre hP hK hA) rfl hl.1 rfl (Nat.le_of_ble_eq_true rfl) d_LR_passRouter_37 (Nat.zero_le _) (Nat.zero_le _)) ?_
    refine lv_istore_n (lv' := [(2, .int r37), (1, .int r4), (0, .ref (ad 0))]) hx hb d_LR_passRouter_40 rfl hl (by decide) rfl (fun ls hl => ?_)
    refine lv_iload_n hx hb d_LR_passRouter_41 rfl (lv_at hl 0 rfl) ?_
    refine lv_iconst (v := (-1)) hx hb d_LR_passRouter_42 (by decide) ?_
    refine lv_icmp_ne (tgt := 48) hx hb d_LR_passRouter_43 (by decide) (fun h43 => ?_) (fun h43 => ?_)
    · rw [if_neg h43] at hf
      refine lv_aload_n hx hb d_LR_passRouter_48 rfl (lv_at hl 2 rfl) ?_
      refine va_get (D := D) (ci := 0) (v := .ref (ad 1)) (C := R_LR) (T := F_LR) (N := 6) hx hb hts in_LR hown hK hP 0 (wl_to (LR_lt) (LR_at)) rfl 1 (by decide) (hts _ fl_LR_27) (fun _ h => h) rfl d_LR_passRouter_49 ?_
      refine lv_iload_n hx hb d_LR_passRouter_52 rfl (lv_at hl 1 rfl) ?_
      refine lv_iload_n hx hb d_LR_passRouter_53 rfl (lv_at hl 0 rfl) ?_
      obtain ⟨r54, hc54, hf⟩ := ob hf
      refine k_rdi (k_vir S (c_Ways_owns (l := l) (D := D) (n := n) (ad := ad) (G := G) hc54) g_LR_193 hd_Ways_owns ⟨rfl, rfl⟩ ⟨Nat.le_of_ble_eq_true rfl, Nat.le_of_ble_eq_true rfl⟩ wl_blind (va_recv hK hP rfl (wl_to (Ways_lt) (Ways_at))) (wl_pre hP hK hA) rfl hl.1 rfl (Nat.le_of_ble_eq_true rfl) d_LR_passRouter_54 (Nat.zero_le _) (Nat.zero_le _)) ?_
      refine lv_if_ne (tgt := 68) hx hb d_LR_passRouter_57 (by decide) (fun h57 => ?_) (fun h57 => ?_)
      · rw [if_neg h57] at hf
        refine lv_aload_n hx hb d_LR_passRouter_68 rfl (lv_at hl 2 rfl) ?_
        refine va_get (D := D) (ci := 0) (v := .ref (ad 9)) (C := R_LR) (T := F_LR) (N := 6) hx hb hts in_LR hown hK hP 0 (wl_to (LR_lt) (LR_at)) rfl 5 (by decide) (hts _ fl_LR_58) (fun _ h => h) rfl d_LR_passRouter_69 ?_
        obtain ⟨r72, hc72, hf⟩ := ob hf
        refine k_wrv (k_vir S (c_Packet_pop (l := l) (D := D) (n := n) (ad := ad) (G := G) hc72) g_LR_241 hd_Packet_pop ⟨rfl, rfl⟩ ⟨Nat.le_of_ble_eq_true rfl, Nat.le_of_ble_eq_true rfl⟩ wl_blind (va_recv hK hP rfl (wl_to (PK_lt) (PK_at))) (wl_pre hP hK hA) rfl hl.1 rfl (Nat.le_of_ble_eq_true rfl) d_LR_passRouter_72 (Nat.zero_le _) (Nat.zero_le _)) hS (fun _ h => h) (fun H locs hP _ _ hS => ?_)
        refine lv_aload_n hx hb d_LR_passRouter_75 rfl (lv_at hl 2 rfl) ?_
        refine va_get (D := D) (ci := 0) (v := .ref (ad 9)) (C := R_LR) (T := F_LR) (N := 6) hx hb hts in_LR hown hK hP 0 (wl_to (LR_lt) (LR_at)) rfl 5 (by decide) (hts _ fl_LR_58) (fun _ h => h) rfl d_LR_passRouter_76 ?_
        obtain ⟨r79, hc79, hf⟩ := ob hf
        refine k_rdi (k_vir S (c_Packet_isForService (l := l) (D := D) (n := n) (ad := ad) (G := G) hc79) g_LR_244 hd_Packet_isForService ⟨rfl, rfl⟩ ⟨Nat.le_of_ble_eq_true rfl, Nat.le_of_ble_eq_true rfl⟩ wl_blind (va_recv hK hP rfl (wl_to (PK_lt) (PK_at))) (wl_pre hP hK hA) rfl hl.1 rfl (Nat.le_of_ble_eq_true rfl) d_LR_passRouter_79 (Nat.zero_le _) (Nat.zero_le _)) ?_
        refine lv_if_eq (tgt := 93) hx hb d_LR_passRouter_82 (by decide) (fun h82 => ?_) (fun h82 => ?_)
        · rw [if_pos h82] at hf
          refine lv_aload_n hx hb d_LR_passRouter_93 rfl (lv_at hl 2 rfl) ?_
          refine lv_iload_n hx hb d_LR_passRouter_94 rfl (lv_at hl 1 rfl) ?_
          obtain ⟨r95, hc95, hf⟩ := ob hf
          refine k_wri (k_vir S (c_LR_passUnlabelled (l := l) (D := D) (n := n) (ad := ad) (G := G) hc95) g_LR_233 hd_LR_passUnlabelled ⟨rfl, rfl⟩ ⟨Nat.le_of_ble_eq_true rfl, Nat.le_of_ble_eq_true rfl⟩ wl_blind (va_recv hK hP rfl (wl_to (LR_lt) (LR_at))) (wl_pre hP hK hA) rfl hl.1 rfl (Nat.le_of_ble_eq_true rfl) d_LR_passRouter_95 (Nat.zero_le _) (Nat.zero_le _)) hS (fun _ h => h) (fun H locs hP _ _ hS => ?_)
          cases hf
          exact w_iret hx hb hr hlk hP hS d_LR_passRouter_98
        · rw [if_neg h82] at hf
          refine lv_aload_n hx hb d_LR_passRouter_85 rfl (lv_at hl 2 rfl) ?_
          refine lv_iload_n hx hb d_LR_passRouter_86 rfl (lv_at hl 1 rfl) ?_
          obtain ⟨r87, hc87, hf⟩ := ob hf
          refine k_rdi (k_vir S (c_LR_tryService (l := l) (D := D) (n := n) (ad := ad) (G := G) hc87) g_LR_248 hd_LR_tryService ⟨rfl, rfl⟩ ⟨Nat.le_of_ble_eq_true rfl, Nat.le_of_ble_eq_true rfl⟩ wl_blind (va_recv hK hP rfl (wl_to (LR_lt) (LR_at))) (wl_pre hP hK hA) rfl hl.1 rfl (Nat.le_of_ble_eq_true rfl) d_LR_passRouter_87 (Nat.zero_le _) (Nat.zero_le _)) ?_
          refine lv_goto (tgt := 98) hx hb d_LR_passRouter_90 (by decide) ?_
          cases hf
          exact w_iret hx hb hr hlk hP hS d_LR_passRouter_98
      · rw [if_pos h57] at hf
        refine lv_aload_n hx hb d_LR_passRouter_60 rfl (lv_at hl 2 rfl) ?_
        refine lv_iload_n hx hb d_LR_passRouter_61 rfl (lv_at hl 1 rfl) ?_
        refine lv_iload_n hx hb d_LR_passRouter_62 rfl (lv_at hl 0 rfl) ?_
        refine lv_iconst (v := 1) hx hb d_LR_passRouter_63 (by decide) ?_
        obtain ⟨r64, hc64, hf⟩ := ob hf
        refine k_wri (k_vir S (c_LR_goOn (l := l) (D := D) (n := n) (ad := ad) (G := G) hc64) g_LR_237 hd_LR_goOn ⟨rfl, rfl⟩ ⟨Nat.le_of_ble_eq_true rfl, Nat.le_of_ble_eq_true rfl⟩ wl_blind (va_recv hK hP rfl (wl_to (LR_lt) (LR_at))) (wl_pre hP hK hA) rfl hl.1 rfl (Nat.le_of_ble_eq_true rfl) d_LR_passRouter_64 (Nat.zero_le _) (Nat.zero_le _)) hS (fun _ h => h) (fun H locs hP _ _ hS => ?_)
        cases hf
        exact w_iret hx hb hr hlk hP hS d_LR_passRouter_67
    · rw [if_pos h43] at hf
      refine lv_iconst (v := 3) hx hb d_LR_passRouter_46 (by decide) ?_
      cases hf
      exact w_iret hx hb hr hlk hP hS d_LR_passRouter_47
  · rw [if_pos h15] at hf
    refine lv_aload_n hx hb d_LR_passRouter_18 rfl (lv_at hl 1 rfl) ?_
    refine lv_iload_n hx hb d_LR_passRouter_19 rfl (lv_at hl 0 rfl) ?_
    obtain ⟨r20, hc20, hf⟩ := ob hf
    refine k_wri (k_vir S (c_LR_passUnlabelled (l := l) (D := D) (n := n) (ad := ad) (G := G) hc20) g_LR_233 hd_LR_passUnlabelled ⟨rfl, rfl⟩ ⟨Nat.le_of_ble_eq_true rfl, Nat.le_of_ble_eq_true rfl⟩ wl_blind (va_recv hK hP rfl (wl_to (LR_lt) (LR_at))) (wl_pre hP hK hA) rfl hl.1 rfl (Nat.le_of_ble_eq_true rfl) d_LR_passRouter_20 (Nat.zero_le _) (Nat.zero_le _)) hS (fun _ h => h) (fun H locs hP _ _ hS => ?_)
    cases hf
    exact w_iret hx hb hr hlk hP hS d_LR_passRouter_23
def f_LR_link (n : Nat) (a : Int32) (b : Int32) (z : Int32) (M : Mem) : Option (Int32 × Mem) :=
  (f_LR_checkTwoRouters n a b M).bind fun r3 => (f_LR_checkRange z 0 15).bind fun r10 => (f_Ways_costOf n a b M).bind fun r19 => if z = r19 then (some (r19, M)) else ((f_Ways_setCost n a b z M).bind fun r40 => if z = 0 then ((f_LR_cutOff n a b r40).bind fun r50 => (f_LR_settleAll n r50).bind fun r90 => some (r19, r90)) else (if r19 = 0 then ((f_LR_tellLabels n (if b < a then b else a) (if a < b then b else a) r40).bind fun r72 => (f_LR_tellLabels n (if a < b then b else a) (if b < a then b else a) r72).bind fun r86 => (f_LR_settleAll n r86).bind fun r90 => some (r19, r90)) else ((f_LR_settleAll n r40).bind fun r90 => some (r19, r90))))
abbrev rm_LR_link : Room := { frames := 6, cells := 0, slots := 0, locals := 136 }
set_option maxHeartbeats 4000000 in
set_option maxRecDepth 100000 in
theorem c_LR_link {l : Launch} {D : va_G} {n : Nat} {ad : Nat → Nat} {G : Nat → ClassId} {a : Int32} {b : Int32} {z : Int32}  {M : Mem} {x : Int32 × Mem} (hf : f_LR_link n a b z M = some x) : Met l y_LR_link (wc y_LR_link b_LR_link 5 (some .int)) rm_LR_link (va_Pc [.ref (ad 0), .int a, .int b, .int z] (cB D n ad G M)) (wr_Q (some (.int x.1)) D cls (cK n) ad (cE n ad G x.2)) 0 0 (wl_A (cK n) ad) := by
  refine k_met (by decide) (Nat.le_of_ble_eq_true rfl) ?_
  intro p e s m args below meth c S hr hlk hB ls hl
  obtain ⟨hx, hb, hml, hown, hts⟩ := id S
  obtain ⟨hP, hK, hA0⟩ := hB
  have hA := wl_own hA0
  have hl : lv_has ls 5 [(0, .ref (ad 0)), (1, .int a), (2, .int b), (3, .int z)] := hl
  have hS : va_S (wl_A (cK n) ad) s.heap s.heap [] := va_S.rf
  unfold f_LR_link at hf
  refine lv_aload_n hx hb d_LR_link_0 rfl (lv_at hl 0 rfl) ?_
  refine lv_iload_n hx hb d_LR_link_1 rfl (lv_at hl 1 rfl) ?_
  refine lv_iload_n hx hb d_LR_link_2 rfl (lv_at hl 2 rfl) ?_
  obtain ⟨r3, hc3, hf⟩ := ob hf
  refine k_rdv (k_vir S (c_LR_checkTwoRouters (l := l) (D := D) (n := n) (ad := ad) (G := G) hc3) g_LR_62 hd_LR_checkTwoRouters ⟨rfl, rfl⟩ ⟨Nat.le_of_ble_eq_true rfl, Nat.le_of_ble_eq_true rfl⟩ wl_blind (va_recv hK hP rfl (wl_to (LR_lt) (LR_at))) (wl_pre hP hK hA) rfl hl.1 rfl (Nat.le_of_ble_eq_true rfl) d_LR_link_3 (Nat.zero_le _) (Nat.zero_le _)) ?_
  refine lv_iload_n hx hb d_LR_link_6 rfl (lv_at hl 3 rfl) ?_
  refine lv_iconst (v := 0) hx hb d_LR_link_7 (by decide) ?_
  refine lv_bipush (v := 15) hx hb d_LR_link_8 (by decide) ?_
  obtain ⟨r10, hc10, hf⟩ := ob hf
  refine k_rdv (k_sta S (c_LR_checkRange (l := l) (D := D) (n := n) (ad := ad) (G := G) hc10) g_LR_66 hd_LR_checkRange ⟨rfl, rfl⟩ ⟨Nat.le_of_ble_eq_true rfl, Nat.le_of_ble_eq_true rfl⟩ wl_blind (wl_pre hP hK hA) rfl hl.1 rfl (Nat.le_of_ble_eq_true rfl) d_LR_link_10 (Nat.zero_le _) (Nat.zero_le _)) ?_
  refine lv_aload_n hx hb d_LR_link_13 rfl (lv_at hl 0 rfl) ?_
  refine va_get (D := D) (ci := 0) (v := .ref (ad 1)) (C := R_LR) (T := F_LR) (N := 6) hx hb hts in_LR hown hK hP 0 (wl_to (LR_lt) (LR_at)) rfl 1 (by decide) (hts _ fl_LR_27) (fun _ h => h) rfl d_LR_link_14 ?_
  refine lv_iload_n hx hb d_LR_link_17 rfl (lv_at hl 1 rfl) ?_
  refine lv_iload_n hx hb d_LR_link_18 rfl (lv_at hl 2 rfl) ?_
  obtain ⟨r19, hc19, hf⟩ := ob hf
  refine k_rdi (k_vir S (c_Ways_costOf (l := l) (D := D) (n := n) (ad := ad) (G := G) hc19) g_LR_70 hd_Ways_costOf ⟨rfl, rfl⟩ ⟨Nat.le_of_ble_eq_true rfl, Nat.le_of_ble_eq_true rfl⟩ wl_blind (va_recv hK hP rfl (wl_to (Ways_lt) (Ways_at))) (wl_pre hP hK hA) rfl hl.1 rfl (Nat.le_of_ble_eq_true rfl) d_LR_link_19 (Nat.zero_le _) (Nat.zero_le _)) ?_
  refine lv_istore (lv' := [(4, .int r19), (0, .ref (ad 0)), (1, .int a), (2, .int b), (3, .int z)]) hx hb d_LR_link_22 hl (by decide) rfl (fun ls hl => ?_)
  refine lv_iload_n hx hb d_LR_link_24 rfl (lv_at hl 4 rfl) ?_
  refine lv_iload hx hb d_LR_link_25 (lv_at hl 0 rfl) ?_
  refine lv_icmp_ne (tgt := 33) hx hb d_LR_link_27 (by decide) (fun h27 => ?_) (fun h27 => ?_)
  · rw [if_neg h27] at hf
    refine lv_aload_n hx hb d_LR_link_33 rfl (lv_at hl 1 rfl) ?_
    refine va_get (D := D) (ci := 0) (v := .ref (ad 1)) (C := R_LR) (T := F_LR) (N := 6) hx hb hts in_LR hown hK hP 0 (wl_to (LR_lt) (LR_at)) rfl 1 (by decide) (hts _ fl_LR_27) (fun _ h => h) rfl d_LR_link_34 ?_
    refine lv_iload_n hx hb d_LR_link_37 rfl (lv_at hl 2 rfl) ?_
    refine lv_iload_n hx hb d_LR_link_38 rfl (lv_at hl 3 rfl) ?_
    refine lv_iload_n hx hb d_LR_link_39 rfl (lv_at hl 4 rfl) ?_
    obtain ⟨r40, hc40, hf⟩ := ob hf
    refine k_wrv (k_vir S (c_Ways_setCost (l := l) (D := D) (n := n) (ad := ad) (G := G) hc40) g_LR_73 hd_Ways_setCost ⟨rfl, rfl⟩ ⟨Nat.le_of_ble_eq_true rfl, Nat.le_of_ble_eq_true rfl⟩ wl_blind (va_recv hK hP rfl (wl_to (Ways_lt) (Ways_at))) (wl_pre hP hK hA) rfl hl.1 rfl (Nat.le_of_ble_eq_true rfl) d_LR_link_40 (Nat.zero_le _) (Nat.zero_le _)) hS (fun _ h => h) (fun H locs hP _ _ hS => ?_)
    refine lv_iload_n hx hb d_LR_link_43 rfl (lv_at hl 4 rfl) ?_
    refine lv_if_ne (tgt := 56) hx hb d_LR_link_44 (by decide) (fun h44 => ?_) (fun h44 => ?_)
    · rw [if_neg h44] at hf
      refine lv_iload hx hb d_LR_link_56 (lv_at hl 0 rfl) ?_
      refine lv_if_ne (tgt := 89) hx hb d_LR_link_58 (by decide) (fun h58 => ?_) (fun h58 => ?_)
      · rw [if_neg h58] at hf
        refine lv_aload_n hx hb d_LR_link_89 rfl (lv_at hl 1 rfl) ?_
        obtain ⟨r90, hc90, hf⟩ := ob hf
        refine k_wrv (k_vir S (c_LR_settleAll (l := l) (D := D) (n := n) (ad := ad) (G := G) hc90) g_LR_82 hd_LR_settleAll ⟨rfl, rfl⟩ ⟨Nat.le_of_ble_eq_true rfl, Nat.le_of_ble_eq_true rfl⟩ wl_blind (va_recv hK hP rfl (wl_to (LR_lt) (LR_at))) (wl_pre hP hK hA) rfl hl.1 rfl (Nat.le_of_ble_eq_true rfl) d_LR_link_90 (Nat.zero_le _) (Nat.zero_le _)) hS (fun _ h => h) (fun H locs hP _ _ hS => ?_)
        refine lv_iload hx hb d_LR_link_93 (lv_at hl 0 rfl) ?_
        cases hf
        exact w_iret hx hb hr hlk hP hS d_LR_link_95
      · rw [if_pos h58] at hf
        refine lv_aload_n hx hb d_LR_link_61 rfl (lv_at hl 1 rfl) ?_
        refine lv_iload_n hx hb d_LR_link_62 rfl (lv_at hl 2 rfl) ?_
        refine lv_iload_n hx hb d_LR_link_63 rfl (lv_at hl 3 rfl) ?_
        refine va_mmin hx hb (hml.trans hl.1.symm) hown (hts _ ml_LR_9) (hts _ ma_smin) (hts _ ma_ini) (hts _ ma_cmin) (by decide) (Nat.le_of_ble_eq_true rfl) (Nat.zero_le _) (Nat.zero_le _) d_LR_link_64 ?_
        refine lv_iload_n hx hb d_LR_link_67 rfl (lv_at hl 2 rfl) ?_
        refine lv_iload_n hx hb d_LR_link_68 rfl (lv_at hl 3 rfl) ?_
        refine va_mmax hx hb (hml.trans hl.1.symm) hown (hts _ ml_LR_15) (hts _ ma_smax) (hts _ ma_ini) (hts _ ma_cmax) (by decide) (Nat.le_of_ble_eq_true rfl) (Nat.zero_le _) (Nat.zero_le _) d_LR_link_69 ?_
        obtain ⟨r72, hc72, hf⟩ := ob hf
        refine k_wrv (k_vir S (c_LR_tellLabels (l := l) (D := D) (n := n) (ad := ad) (G := G) hc72) g_LR_79 hd_LR_tellLabels ⟨rfl, rfl⟩ ⟨Nat.le_of_ble_eq_true rfl, Nat.le_of_ble_eq_true rfl⟩ wl_blind (va_recv hK hP rfl (wl_to (LR_lt) (LR_at))) (wl_pre hP hK hA) rfl hl.1 rfl (Nat.le_of_ble_eq_true rfl) d_LR_link_72 (Nat.zero_le _) (Nat.zero_le _)) hS (fun _ h => h) (fun H locs hP _ _ hS => ?_)
        refine lv_aload_n hx hb d_LR_link_75 rfl (lv_at hl 1 rfl) ?_
        refine lv_iload_n hx hb d_LR_link_76 rfl (lv_at hl 2 rfl) ?_
        refine lv_iload_n hx hb d_LR_link_77 rfl (lv_at hl 3 rfl) ?_
        refine va_mmax hx hb (hml.trans hl.1.symm) hown (hts _ ml_LR_15) (hts _ ma_smax) (hts _ ma_ini) (hts _ ma_cmax) (by decide) (Nat.le_of_ble_eq_true rfl) (Nat.zero_le _) (Nat.zero_le _) d_LR_link_78 ?_
        refine lv_iload_n hx hb d_LR_link_81 rfl (lv_at hl 2 rfl) ?_
        refine lv_iload_n hx hb d_LR_link_82 rfl (lv_at hl 3 rfl) ?_
        refine va_mmin hx hb (hml.trans hl.1.symm) hown (hts _ ml_LR_9) (hts _ ma_smin) (hts _ ma_ini) (hts _ ma_cmin) (by decide) (Nat.le_of_ble_eq_true rfl) (Nat.zero_le _) (Nat.zero_le _) d_LR_link_83 ?_
        obtain ⟨r86, hc86, hf⟩ := ob hf
        refine k_wrv (k_vir S (c_LR_tellLabels (l := l) (D := D) (n := n) (ad := ad) (G := G) hc86) g_LR_79 hd_LR_tellLabels ⟨rfl, rfl⟩ ⟨Nat.le_of_ble_eq_true rfl, Nat.le_of_ble_eq_true rfl⟩ wl_blind (va_recv hK hP rfl (wl_to (LR_lt) (LR_at))) (wl_pre hP hK hA) rfl hl.1 rfl (Nat.le_of_ble_eq_true rfl) d_LR_link_86 (Nat.zero_le _) (Nat.zero_le _)) hS (fun _ h => h) (fun H locs hP _ _ hS => ?_)
        refine lv_aload_n hx hb d_LR_link_89 rfl (lv_at hl 1 rfl) ?_
        obtain ⟨r90, hc90, hf⟩ := ob hf
        refine k_wrv (k_vir S (c_LR_settleAll (l := l) (D := D) (n := n) (ad := ad) (G := G) hc90) g_LR_82 hd_LR_settleAll ⟨rfl, rfl⟩ ⟨Nat.le_of_ble_eq_true rfl, Nat.le_of_ble_eq_true rfl⟩ wl_blind (va_recv hK hP rfl (wl_to (LR_lt) (LR_at))) (wl_pre hP hK hA) rfl hl.1 rfl (Nat.le_of_ble_eq_true rfl) d_LR_link_90 (Nat.zero_le _) (Nat.zero_le _)) hS (fun _ h => h) (fun H locs hP _ _ hS => ?_)
        refine lv_iload hx hb d_LR_link_93 (lv_at hl 0 rfl) ?_
        cases hf
        exact w_iret hx hb hr hlk hP hS d_LR_link_95
    · rw [if_pos h44] at hf
      refine lv_aload_n hx hb d_LR_link_47 rfl (lv_at hl 1 rfl) ?_
      refine lv_iload_n hx hb d_LR_link_48 rfl (lv_at hl 2 rfl) ?_
      refine lv_iload_n hx hb d_LR_link_49 rfl (lv_at hl 3 rfl) ?_
      obtain ⟨r50, hc50, hf⟩ := ob hf
      refine k_wrv (k_vir S (c_LR_cutOff (l := l) (D := D) (n := n) (ad := ad) (G := G) hc50) g_LR_76 hd_LR_cutOff ⟨rfl, rfl⟩ ⟨Nat.le_of_ble_eq_true rfl, Nat.le_of_ble_eq_true rfl⟩ wl_blind (va_recv hK hP rfl (wl_to (LR_lt) (LR_at))) (wl_pre hP hK hA) rfl hl.1 rfl (Nat.le_of_ble_eq_true rfl) d_LR_link_50 (Nat.zero_le _) (Nat.zero_le _)) hS (fun _ h => h) (fun H locs hP _ _ hS => ?_)
      refine lv_goto (tgt := 89) hx hb d_LR_link_53 (by decide) ?_
      refine lv_aload_n hx hb d_LR_link_89 rfl (lv_at hl 1 rfl) ?_
      obtain ⟨r90, hc90, hf⟩ := ob hf
      refine k_wrv (k_vir S (c_LR_settleAll (l := l) (D := D) (n := n) (ad := ad) (G := G) hc90) g_LR_82 hd_LR_settleAll ⟨rfl, rfl⟩ ⟨Nat.le_of_ble_eq_true rfl, Nat.le_of_ble_eq_true rfl⟩ wl_blind (va_recv hK hP rfl (wl_to (LR_lt) (LR_at))) (wl_pre hP hK hA) rfl hl.1 rfl (Nat.le_of_ble_eq_true rfl) d_LR_link_90 (Nat.zero_le _) (Nat.zero_le _)) hS (fun _ h => h) (fun H locs hP _ _ hS => ?_)
      refine lv_iload hx hb d_LR_link_93 (lv_at hl 0 rfl) ?_
      cases hf
      exact w_iret hx hb hr hlk hP hS d_LR_link_95
  · rw [if_pos h27] at hf
    refine lv_iload hx hb d_LR_link_30 (lv_at hl 0 rfl) ?_
    cases hf
    exact w_iret hx hb hr hlk hP hS d_LR_link_32
def f_LR_own (n : Nat) (a : Int32) (b : Int32) (M : Mem) : Option (Int32 × Mem) :=
  (f_LR_checkPrefix a).bind fun r1 => (f_LR_checkRouterOrNone n b M).bind fun r6 => (f_Ways_ownerOf n a M).bind fun r14 => if b = r14 then (some (r14, M)) else ((f_Ways_setOwner n a b M).bind fun r29 => (f_LR_settleAll n r29).bind fun r33 => some (r14, r33))
abbrev rm_LR_own : Room := { frames := 6, cells := 0, slots := 0, locals := 136 }
set_option maxHeartbeats 4000000 in
set_option maxRecDepth 100000 in
theorem c_LR_own {l : Launch} {D : va_G} {n : Nat} {ad : Nat → Nat} {G : Nat → ClassId} {a : Int32} {b : Int32}  {M : Mem} {x : Int32 × Mem} (hf : f_LR_own n a b M = some x) : Met l y_LR_own (wc y_LR_own b_LR_own 4 (some .int)) rm_LR_own (va_Pc [.ref (ad 0), .int a, .int b] (cB D n ad G M)) (wr_Q (some (.int x.1)) D cls (cK n) ad (cE n ad G x.2)) 0 0 (wl_A (cK n) ad) := by
  refine k_met (by decide) (Nat.le_of_ble_eq_true rfl) ?_
  intro p e s m args below meth c S hr hlk hB ls hl
  obtain ⟨hx, hb, hml, hown, hts⟩ := id S
  obtain ⟨hP, hK, hA0⟩ := hB
  have hA := wl_own hA0
  have hl : lv_has ls 4 [(0, .ref (ad 0)), (1, .int a), (2, .int b)] := hl
  have hS : va_S (wl_A (cK n) ad) s.heap s.heap [] := va_S.rf
  unfold f_LR_own at hf
  refine lv_iload_n hx hb d_LR_own_0 rfl (lv_at hl 1 rfl) ?_
  obtain ⟨r1, hc1, hf⟩ := ob hf
  refine k_rdv (k_sta S (c_LR_checkPrefix (l := l) (D := D) (n := n) (ad := ad) (G := G) hc1) g_LR_85 hd_LR_checkPrefix ⟨rfl, rfl⟩ ⟨Nat.le_of_ble_eq_true rfl, Nat.le_of_ble_eq_true rfl⟩ wl_blind (wl_pre hP hK hA) rfl hl.1 rfl (Nat.le_of_ble_eq_true rfl) d_LR_own_1 (Nat.zero_le _) (Nat.zero_le _)) ?_
  refine lv_aload_n hx hb d_LR_own_4 rfl (lv_at hl 0 rfl) ?_
  refine lv_iload_n hx hb d_LR_own_5 rfl (lv_at hl 2 rfl) ?_
  obtain ⟨r6, hc6, hf⟩ := ob hf
  refine k_rdv (k_vir S (c_LR_checkRouterOrNone (l := l) (D := D) (n := n) (ad := ad) (G := G) hc6) g_LR_88 hd_LR_checkRouterOrNone ⟨rfl, rfl⟩ ⟨Nat.le_of_ble_eq_true rfl, Nat.le_of_ble_eq_true rfl⟩ wl_blind (va_recv hK hP rfl (wl_to (LR_lt) (LR_at))) (wl_pre hP hK hA) rfl hl.1 rfl (Nat.le_of_ble_eq_true rfl) d_LR_own_6 (Nat.zero_le _) (Nat.zero_le _)) ?_
  refine lv_aload_n hx hb d_LR_own_9 rfl (lv_at hl 0 rfl) ?_
  refine va_get (D := D) (ci := 0) (v := .ref (ad 1)) (C := R_LR) (T := F_LR) (N := 6) hx hb hts in_LR hown hK hP 0 (wl_to (LR_lt) (LR_at)) rfl 1 (by decide) (hts _ fl_LR_27) (fun _ h => h) rfl d_LR_own_10 ?_
  refine lv_iload_n hx hb d_LR_own_13 rfl (lv_at hl 1 rfl) ?_
  obtain ⟨r14, hc14, hf⟩ := ob hf
  refine k_rdi (k_vir S (c_Ways_ownerOf (l := l) (D := D) (n := n) (ad := ad) (G := G) hc14) g_LR_91 hd_Ways_ownerOf ⟨rfl, rfl⟩ ⟨Nat.le_of_ble_eq_true rfl, Nat.le_of_ble_eq_true rfl⟩ wl_blind (va_recv hK hP rfl (wl_to (Ways_lt) (Ways_at))) (wl_pre hP hK hA) rfl hl.1 rfl (Nat.le_of_ble_eq_true rfl) d_LR_own_14 (Nat.zero_le _) (Nat.zero_le _)) ?_
  refine lv_istore_n (lv' := [(3, .int r14), (0, .ref (ad 0)), (1, .int a), (2, .int b)]) hx hb d_LR_own_17 rfl hl (by decide) rfl (fun ls hl => ?_)
  refine lv_iload_n hx hb d_LR_own_18 rfl (lv_at hl 3 rfl) ?_
  refine lv_iload_n hx hb d_LR_own_19 rfl (lv_at hl 0 rfl) ?_
  refine lv_icmp_eq (tgt := 36) hx hb d_LR_own_20 (by decide) (fun h20 => ?_) (fun h20 => ?_)
  · rw [if_pos h20] at hf
    refine lv_iload_n hx hb d_LR_own_36 rfl (lv_at hl 0 rfl) ?_
    cases hf
    exact w_iret hx hb hr hlk hP hS d_LR_own_37
  · rw [if_neg h20] at hf
    refine lv_aload_n hx hb d_LR_own_23 rfl (lv_at hl 1 rfl) ?_
    refine va_get (D := D) (ci := 0) (v := .ref (ad 1)) (C := R_LR) (T := F_LR) (N := 6) hx hb hts in_LR hown hK hP 0 (wl_to (LR_lt) (LR_at)) rfl 1 (by decide) (hts _ fl_LR_27) (fun _ h => h) rfl d_LR_own_24 ?_
    refine lv_iload_n hx hb d_LR_own_27 rfl (lv_at hl 2 rfl) ?_
    refine lv_iload_n hx hb d_LR_own_28 rfl (lv_at hl 3 rfl) ?_
    obtain ⟨r29, hc29, hf⟩ := ob hf
    refine k_wrv (k_vir S (c_Ways_setOwner (l := l) (D := D) (n := n) (ad := ad) (G := G) hc29) g_LR_95 hd_Ways_setOwner ⟨rfl, rfl⟩ ⟨Nat.le_of_ble_eq_true rfl, Nat.le_of_ble_eq_true rfl⟩ wl_blind (va_recv hK hP rfl (wl_to (Ways_lt) (Ways_at))) (wl_pre hP hK hA) rfl hl.1 rfl (Nat.le_of_ble_eq_true rfl) d_LR_own_29 (Nat.zero_le _) (Nat.zero_le _)) hS (fun _ h => h) (fun H locs hP _ _ hS => ?_)
    refine lv_aload_n hx hb d_LR_own_32 rfl (lv_at hl 1 rfl) ?_
    obtain ⟨r33, hc33, hf⟩ := ob hf
    refine k_wrv (k_vir S (c_LR_settleAll (l := l) (D := D) (n := n) (ad := ad) (G := G) hc33) g_LR_82 hd_LR_settleAll ⟨rfl, rfl⟩ ⟨Nat.le_of_ble_eq_true rfl, Nat.le_of_ble_eq_true rfl⟩ wl_blind (va_recv hK hP rfl (wl_to (LR_lt) (LR_at))) (wl_pre hP hK hA) rfl hl.1 rfl (Nat.le_of_ble_eq_true rfl) d_LR_own_33 (Nat.zero_le _) (Nat.zero_le _)) hS (fun _ h => h) (fun H locs hP _ _ hS => ?_)
    refine lv_iload_n hx hb d_LR_own_36 rfl (lv_at hl 0 rfl) ?_
    cases hf
    exact w_iret hx hb hr hlk hP hS d_LR_own_37
def f_LR_serve (n : Nat) (a : Int32) (b : Int32) (M : Mem) : Option (Int32 × Mem) :=
  (f_LR_checkRange a 0 3).bind fun r3 => (f_LR_checkRouterOrNone n b M).bind fun r8 => (ix a 4).bind fun j16 => (ix a 4).bind fun j24 => some ((M 8 0 0 j16), (mset M 8 0 0 j24 b))
abbrev rm_LR_serve : Room := { frames := 2, cells := 0, slots := 0, locals := 43 }
set_option maxHeartbeats 4000000 in
set_option maxRecDepth 100000 in
theorem c_LR_serve {l : Launch} {D : va_G} {n : Nat} {ad : Nat → Nat} {G : Nat → ClassId} {a : Int32} {b : Int32}  {M : Mem} {x : Int32 × Mem} (hf : f_LR_serve n a b M = some x) : Met l y_LR_serve (wc y_LR_serve b_LR_serve 4 (some .int)) rm_LR_serve (va_Pc [.ref (ad 0), .int a, .int b] (cB D n ad G M)) (wr_Q (some (.int x.1)) D cls (cK n) ad (cE n ad G x.2)) 0 0 (wl_A (cK n) ad) := by
  refine k_met (by decide) (Nat.le_of_ble_eq_true rfl) ?_
  intro p e s m args below meth c S hr hlk hB ls hl
  obtain ⟨hx, hb, hml, hown, hts⟩ := id S
  obtain ⟨hP, hK, hA0⟩ := hB
  have hA := wl_own hA0
  have hl : lv_has ls 4 [(0, .ref (ad 0)), (1, .int a), (2, .int b)] := hl
  have hS : va_S (wl_A (cK n) ad) s.heap s.heap [] := va_S.rf
  unfold f_LR_serve at hf
  refine lv_iload_n hx hb d_LR_serve_0 rfl (lv_at hl 1 rfl) ?_
  refine lv_iconst (v := 0) hx hb d_LR_serve_1 (by decide) ?_
  refine lv_iconst (v := 3) hx hb d_LR_serve_2 (by decide) ?_
  obtain ⟨r3, hc3, hf⟩ := ob hf
  refine k_rdv (k_sta S (c_LR_checkRange (l := l) (D := D) (n := n) (ad := ad) (G := G) hc3) g_LR_66 hd_LR_checkRange ⟨rfl, rfl⟩ ⟨Nat.le_of_ble_eq_true rfl, Nat.le_of_ble_eq_true rfl⟩ wl_blind (wl_pre hP hK hA) rfl hl.1 rfl (Nat.le_of_ble_eq_true rfl) d_LR_serve_3 (Nat.zero_le _) (Nat.zero_le _)) ?_
  refine lv_aload_n hx hb d_LR_serve_6 rfl (lv_at hl 0 rfl) ?_
  refine lv_iload_n hx hb d_LR_serve_7 rfl (lv_at hl 2 rfl) ?_
  obtain ⟨r8, hc8, hf⟩ := ob hf
  refine k_rdv (k_vir S (c_LR_checkRouterOrNone (l := l) (D := D) (n := n) (ad := ad) (G := G) hc8) g_LR_88 hd_LR_checkRouterOrNone ⟨rfl, rfl⟩ ⟨Nat.le_of_ble_eq_true rfl, Nat.le_of_ble_eq_true rfl⟩ wl_blind (va_recv hK hP rfl (wl_to (LR_lt) (LR_at))) (wl_pre hP hK hA) rfl hl.1 rfl (Nat.le_of_ble_eq_true rfl) d_LR_serve_8 (Nat.zero_le _) (Nat.zero_le _)) ?_
  refine lv_aload_n hx hb d_LR_serve_11 rfl (lv_at hl 0 rfl) ?_
  refine va_get (D := D) (ci := 0) (v := .ref (ad 8)) (C := R_LR) (T := F_LR) (N := 6) hx hb hts in_LR hown hK hP 0 (wl_to (LR_lt) (LR_at)) rfl 4 (by decide) (hts _ fl_LR_45) (fun _ h => h) rfl d_LR_serve_12 ?_
  refine lv_iload_n hx hb d_LR_serve_15 rfl (lv_at hl 1 rfl) ?_
  obtain ⟨j16, hj16, hf⟩ := ob hf
  refine k_iald hx hb hK hP 8 0 (PL_lt) (PL_at) rfl hj16 d_LR_serve_16 ?_
  refine lv_istore_n (lv' := [(3, .int (M 8 0 0 j16)), (0, .ref (ad 0)), (1, .int a), (2, .int b)]) hx hb d_LR_serve_17 rfl hl (by decide) rfl (fun ls hl => ?_)
  refine lv_aload_n hx hb d_LR_serve_18 rfl (lv_at hl 1 rfl) ?_
  refine va_get (D := D) (ci := 0) (v := .ref (ad 8)) (C := R_LR) (T := F_LR) (N := 6) hx hb hts in_LR hown hK hP 0 (wl_to (LR_lt) (LR_at)) rfl 4 (by decide) (hts _ fl_LR_45) (fun _ h => h) rfl d_LR_serve_19 ?_
  refine lv_iload_n hx hb d_LR_serve_22 rfl (lv_at hl 2 rfl) ?_
  refine lv_iload_n hx hb d_LR_serve_23 rfl (lv_at hl 3 rfl) ?_
  obtain ⟨j24, hj24, hf⟩ := ob hf
  refine m_iast (x := b) hx hb hK hP hA hS cJ 8 0 (PL_lt) (PL_tg) (fun f => PL_row f) rfl hj24 d_LR_serve_24 (fun H locs hP hS => ?_)
  refine lv_iload_n hx hb d_LR_serve_25 rfl (lv_at hl 0 rfl) ?_
  cases hf
  exact w_iret hx hb hr hlk hP hS d_LR_serve_26
def f_LR_step (n : Nat) (a : Int32) (b : Int32) (M : Mem) : Option (Int32 × Mem) :=
  (f_LR_checkTwoRouters n a b M).bind fun r3 => (f_Mail_firstBetween n a b M).bind fun r12 => if r12 = (-1) then (some (0, M)) else ((f_Mail_take n r12 M).bind fun r28 => (f_LR_receive n r28.1 r28.2).bind fun r36 => (f_Mail_kindOf r28.1).bind fun r41 => some (r41, r36))
abbrev rm_LR_step : Room := { frames := 6, cells := 0, slots := 0, locals := 142 }
set_option maxHeartbeats 4000000 in
set_option maxRecDepth 100000 in
theorem c_LR_step {l : Launch} {D : va_G} {n : Nat} {ad : Nat → Nat} {G : Nat → ClassId} {a : Int32} {b : Int32}  {M : Mem} {x : Int32 × Mem} (hf : f_LR_step n a b M = some x) : Met l y_LR_step (wc y_LR_step b_LR_step 5 (some .int)) rm_LR_step (va_Pc [.ref (ad 0), .int a, .int b] (cB D n ad G M)) (wr_Q (some (.int x.1)) D cls (cK n) ad (cE n ad G x.2)) 0 0 (wl_A (cK n) ad) := by
  refine k_met (by decide) (Nat.le_of_ble_eq_true rfl) ?_
  intro p e s m args below meth c S hr hlk hB ls hl
  obtain ⟨hx, hb, hml, hown, hts⟩ := id S
  obtain ⟨hP, hK, hA0⟩ := hB
  have hA := wl_own hA0
  have hl : lv_has ls 5 [(0, .ref (ad 0)), (1, .int a), (2, .int b)] := hl
  have hS : va_S (wl_A (cK n) ad) s.heap s.heap [] := va_S.rf
  unfold f_LR_step at hf
  refine lv_aload_n hx hb d_LR_step_0 rfl (lv_at hl 0 rfl) ?_
  refine lv_iload_n hx hb d_LR_step_1 rfl (lv_at hl 1 rfl) ?_
  refine lv_iload_n hx hb d_LR_step_2 rfl (lv_at hl 2 rfl) ?_
  obtain ⟨r3, hc3, hf⟩ := ob hf
  refine k_rdv (k_vir S (c_LR_checkTwoRouters (l := l) (D := D) (n := n) (ad := ad) (G := G) hc3) g_LR_62 hd_LR_checkTwoRouters ⟨rfl, rfl⟩ ⟨Nat.le_of_ble_eq_true rfl, Nat.le_of_ble_eq_true rfl⟩ wl_blind (va_recv hK hP rfl (wl_to (LR_lt) (LR_at))) (wl_pre hP hK hA) rfl hl.1 rfl (Nat.le_of_ble_eq_true rfl) d_LR_step_3 (Nat.zero_le _) (Nat.zero_le _)) ?_
  refine lv_aload_n hx hb d_LR_step_6 rfl (lv_at hl 0 rfl) ?_
  refine va_get (D := D) (ci := 0) (v := .ref (ad 5)) (C := R_LR) (T := F_LR) (N := 6) hx hb hts in_LR hown hK hP 0 (wl_to (LR_lt) (LR_at)) rfl 2 (by decide) (hts _ fl_LR_34) (fun _ h => h) rfl d_LR_step_7 ?_
  refine lv_iload_n hx hb d_LR_step_10 rfl (lv_at hl 1 rfl) ?_
  refine lv_iload_n hx hb d_LR_step_11 rfl (lv_at hl 2 rfl) ?_
  obtain ⟨r12, hc12, hf⟩ := ob hf
  refine k_rdi (k_vir S (c_Mail_firstBetween (l := l) (D := D) (n := n) (ad := ad) (G := G) hc12) g_LR_98 hd_Mail_firstBetween ⟨rfl, rfl⟩ ⟨Nat.le_of_ble_eq_true rfl, Nat.le_of_ble_eq_true rfl⟩ wl_blind (va_recv hK hP rfl (wl_to (Mail_lt) (Mail_at))) (wl_pre hP hK hA) rfl hl.1 rfl (Nat.le_of_ble_eq_true rfl) d_LR_step_12 (Nat.zero_le _) (Nat.zero_le _)) ?_
  refine lv_istore_n (lv' := [(3, .int r12), (0, .ref (ad 0)), (1, .int a), (2, .int b)]) hx hb d_LR_step_15 rfl hl (by decide) rfl (fun ls hl => ?_)
  refine lv_iload_n hx hb d_LR_step_16 rfl (lv_at hl 0 rfl) ?_
  refine lv_iconst (v := (-1)) hx hb d_LR_step_17 (by decide) ?_
  refine lv_icmp_ne (tgt := 23) hx hb d_LR_step_18 (by decide) (fun h18 => ?_) (fun h18 => ?_)
  · rw [if_neg h18] at hf
    refine lv_aload_n hx hb d_LR_step_23 rfl (lv_at hl 1 rfl) ?_
    refine va_get (D := D) (ci := 0) (v := .ref (ad 5)) (C := R_LR) (T := F_LR) (N := 6) hx hb hts in_LR hown hK hP 0 (wl_to (LR_lt) (LR_at)) rfl 2 (by decide) (hts _ fl_LR_34) (fun _ h => h) rfl d_LR_step_24 ?_
    refine lv_iload_n hx hb d_LR_step_27 rfl (lv_at hl 0 rfl) ?_
    obtain ⟨r28, hc28, hf⟩ := ob hf
    refine k_wri (k_vir S (c_Mail_take (l := l) (D := D) (n := n) (ad := ad) (G := G) hc28) g_LR_101 hd_Mail_take ⟨rfl, rfl⟩ ⟨Nat.le_of_ble_eq_true rfl, Nat.le_of_ble_eq_true rfl⟩ wl_blind (va_recv hK hP rfl (wl_to (Mail_lt) (Mail_at))) (wl_pre hP hK hA) rfl hl.1 rfl (Nat.le_of_ble_eq_true rfl) d_LR_step_28 (Nat.zero_le _) (Nat.zero_le _)) hS (fun _ h => h) (fun H locs hP _ _ hS => ?_)
    refine lv_istore (lv' := [(4, .int r28.1), (3, .int r12), (0, .ref (ad 0)), (1, .int a), (2, .int b)]) hx hb d_LR_step_31 hl (by decide) rfl (fun ls hl => ?_)
    refine lv_aload_n hx hb d_LR_step_33 rfl (lv_at hl 2 rfl) ?_
    refine lv_iload hx hb d_LR_step_34 (lv_at hl 0 rfl) ?_
    obtain ⟨r36, hc36, hf⟩ := ob hf
    refine k_wrv (k_vir S (c_LR_receive (l := l) (D := D) (n := n) (ad := ad) (G := G) hc36) g_LR_104 hd_LR_receive ⟨rfl, rfl⟩ ⟨Nat.le_of_ble_eq_true rfl, Nat.le_of_ble_eq_true rfl⟩ wl_blind (va_recv hK hP rfl (wl_to (LR_lt) (LR_at))) (wl_pre hP hK hA) rfl hl.1 rfl (Nat.le_of_ble_eq_true rfl) d_LR_step_36 (Nat.zero_le _) (Nat.zero_le _)) hS (fun _ h => h) (fun H locs hP _ _ hS => ?_)
    refine lv_iload hx hb d_LR_step_39 (lv_at hl 0 rfl) ?_
    obtain ⟨r41, hc41, hf⟩ := ob hf
    refine k_rdi (k_sta S (c_Mail_kindOf (l := l) (D := D) (n := n) (ad := ad) (G := G) hc41) g_LR_107 hd_Mail_kindOf ⟨rfl, rfl⟩ ⟨Nat.le_of_ble_eq_true rfl, Nat.le_of_ble_eq_true rfl⟩ wl_blind (wl_pre hP hK hA) rfl hl.1 rfl (Nat.le_of_ble_eq_true rfl) d_LR_step_41 (Nat.zero_le _) (Nat.zero_le _)) ?_
    cases hf
    exact w_iret hx hb hr hlk hP hS d_LR_step_44
  · rw [if_pos h18] at hf
    refine lv_iconst (v := 0) hx hb d_LR_step_21 (by decide) ?_
    cases hf
    exact w_iret hx hb hr hlk hP hS d_LR_step_22
def f_LR_run_10 (n : Nat) (a : Int32) : Nat → Int32 → Mem → Option (Int32 × Mem)
  | 0, _, _ => none
  | k10 + 1, v2_10, N10 =>
    if a ≤ v2_10 then (some (v2_10, N10)) else ((f_Mail_size n N10).bind fun r19 => if r19 ≤ 0 then (some (v2_10, N10)) else ((f_Mail_take n 0 N10).bind fun r31 => (f_LR_receive n r31.1 r31.2).bind fun r34 => f_LR_run_10 n a k10 (v2_10 + 1) r34))
def f_LR_run (n : Nat) (a : Int32) (M : Mem) : Option (Int32 × Mem) :=
  (f_LR_checkRange a 0 400).bind fun r5 => f_LR_run_10 n a 1000 0 M
abbrev rm_LR_run : Room := { frames := 6, cells := 0, slots := 0, locals := 142 }
set_option maxHeartbeats 4000000 in
set_option maxRecDepth 100000 in
theorem c_LR_run {l : Launch} {D : va_G} {n : Nat} {ad : Nat → Nat} {G : Nat → ClassId} {a : Int32}  {M : Mem} {x : Int32 × Mem} (hf : f_LR_run n a M = some x) : Met l y_LR_run (wc y_LR_run b_LR_run 3 (some .int)) rm_LR_run (va_Pc [.ref (ad 0), .int a] (cB D n ad G M)) (wr_Q (some (.int x.1)) D cls (cK n) ad (cE n ad G x.2)) 0 0 (wl_A (cK n) ad) := by
  refine k_met (by decide) (Nat.le_of_ble_eq_true rfl) ?_
  intro p e s m args below meth c S hr hlk hB ls hl
  obtain ⟨hx, hb, hml, hown, hts⟩ := id S
  obtain ⟨hP, hK, hA0⟩ := hB
  have hA := wl_own hA0
  have hl : lv_has ls 3 [(0, .ref (ad 0)), (1, .int a)] := hl
  have hS : va_S (wl_A (cK n) ad) s.heap s.heap [] := va_S.rf
  unfold f_LR_run at hf
  refine lv_iload_n hx hb d_LR_run_0 rfl (lv_at hl 1 rfl) ?_
  refine lv_iconst (v := 0) hx hb d_LR_run_1 (by decide) ?_
  refine lv_sipush (v := 400) hx hb d_LR_run_2 (by decide) ?_
  obtain ⟨r5, hc5, hf⟩ := ob hf
  refine k_rdv (k_sta S (c_LR_checkRange (l := l) (D := D) (n := n) (ad := ad) (G := G) hc5) g_LR_66 hd_LR_checkRange ⟨rfl, rfl⟩ ⟨Nat.le_of_ble_eq_true rfl, Nat.le_of_ble_eq_true rfl⟩ wl_blind (wl_pre hP hK hA) rfl hl.1 rfl (Nat.le_of_ble_eq_true rfl) d_LR_run_5 (Nat.zero_le _) (Nat.zero_le _)) ?_
  refine lv_iconst (v := 0) hx hb d_LR_run_8 (by decide) ?_
  refine lv_istore_n (lv' := [(2, .int 0), (0, .ref (ad 0)), (1, .int a)]) hx hb d_LR_run_9 rfl hl (by decide) rfl (fun ls hl => ?_)
  have L10 : ∀ (k10 : Nat) (v2_10 : Int32) (N10 : Mem) (H : Heap) (locs : List Loc) (ls : Array Slot), lv_has ls 3 [(2, .int v2_10), (0, .ref (ad 0)), (1, .int a)] → va_P D cls (cW n ad G N10) H → va_S (wl_A (cK n) ad) s.heap H locs → f_LR_run_10 n a k10 v2_10 N10 = some x → W p l e rm_LR_run s m args below meth c H locs 0 0 (MQ below (wr_Q (some (.int x.1)) D cls (cK n) ad (cE n ad G x.2)) args s 0 0 (wl_A (cK n) ad)) (F0 m 10 ls []) := by
    intro k10
    induction k10 with
    | zero =>
      intro v2_10 N10 H locs ls hl hP hS hf
      simp [f_LR_run_10] at hf
    | succ k10 ih10 =>
      intro v2_10 N10 H locs ls hl hP hS hf
      rw [f_LR_run_10] at hf
      refine lv_iload_n hx hb d_LR_run_10 rfl (lv_at hl 0 rfl) ?_
      refine lv_iload_n hx hb d_LR_run_11 rfl (lv_at hl 2 rfl) ?_
      refine lv_icmp_ge (tgt := 43) hx hb d_LR_run_12 (by decide) (fun h12 => ?_) (fun h12 => ?_)
      · rw [if_pos h12] at hf
        refine lv_iload_n hx hb d_LR_run_43 rfl (lv_at hl 0 rfl) ?_
        cases hf
        exact w_iret hx hb hr hlk hP hS d_LR_run_44
      · rw [if_neg h12] at hf
        refine lv_aload_n hx hb d_LR_run_15 rfl (lv_at hl 1 rfl) ?_
        refine va_get (D := D) (ci := 0) (v := .ref (ad 5)) (C := R_LR) (T := F_LR) (N := 6) hx hb hts in_LR hown hK hP 0 (wl_to (LR_lt) (LR_at)) rfl 2 (by decide) (hts _ fl_LR_34) (fun _ h => h) rfl d_LR_run_16 ?_
        obtain ⟨r19, hc19, hf⟩ := ob hf
        refine k_rdi (k_vir S (c_Mail_size (l := l) (D := D) (n := n) (ad := ad) (G := G) hc19) g_LR_110 hd_Mail_size ⟨rfl, rfl⟩ ⟨Nat.le_of_ble_eq_true rfl, Nat.le_of_ble_eq_true rfl⟩ wl_blind (va_recv hK hP rfl (wl_to (Mail_lt) (Mail_at))) (wl_pre hP hK hA) rfl hl.1 rfl (Nat.le_of_ble_eq_true rfl) d_LR_run_19 (Nat.zero_le _) (Nat.zero_le _)) ?_
        refine lv_if_le (tgt := 43) hx hb d_LR_run_22 (by decide) (fun h22 => ?_) (fun h22 => ?_)
        · rw [if_pos h22] at hf
          refine lv_iload_n hx hb d_LR_run_43 rfl (lv_at hl 0 rfl) ?_
          cases hf
          exact w_iret hx hb hr hlk hP hS d_LR_run_44
        · rw [if_neg h22] at hf
          refine lv_aload_n hx hb d_LR_run_25 rfl (lv_at hl 1 rfl) ?_
          refine lv_aload_n hx hb d_LR_run_26 rfl (lv_at hl 1 rfl) ?_
          refine va_get (D := D) (ci := 0) (v := .ref (ad 5)) (C := R_LR) (T := F_LR) (N := 6) hx hb hts in_LR hown hK hP 0 (wl_to (LR_lt) (LR_at)) rfl 2 (by decide) (hts _ fl_LR_34) (fun _ h => h) rfl d_LR_run_27 ?_
          refine lv_iconst (v := 0) hx hb d_LR_run_30 (by decide) ?_
          obtain ⟨r31, hc31, hf⟩ := ob hf
          refine k_wri (k_vir S (c_Mail_take (l := l) (D := D) (n := n) (ad := ad) (G := G) hc31) g_LR_101 hd_Mail_take ⟨rfl, rfl⟩ ⟨Nat.le_of_ble_eq_true rfl, Nat.le_of_ble_eq_true rfl⟩ wl_blind (va_recv hK hP rfl (wl_to (Mail_lt) (Mail_at))) (wl_pre hP hK hA) rfl hl.1 rfl (Nat.le_of_ble_eq_true rfl) d_LR_run_31 (Nat.zero_le _) (Nat.zero_le _)) hS (fun _ h => h) (fun H locs hP _ _ hS => ?_)
          obtain ⟨r34, hc34, hf⟩ := ob hf
          refine k_wrv (k_vir S (c_LR_receive (l := l) (D := D) (n := n) (ad := ad) (G := G) hc34) g_LR_104 hd_LR_receive ⟨rfl, rfl⟩ ⟨Nat.le_of_ble_eq_true rfl, Nat.le_of_ble_eq_true rfl⟩ wl_blind (va_recv hK hP rfl (wl_to (LR_lt) (LR_at))) (wl_pre hP hK hA) rfl hl.1 rfl (Nat.le_of_ble_eq_true rfl) d_LR_run_34 (Nat.zero_le _) (Nat.zero_le _)) hS (fun _ h => h) (fun H locs hP _ _ hS => ?_)
          refine lv_iinc (v := (v2_10 + 1)) (lv' := [(2, .int (v2_10 + 1)), (0, .ref (ad 0)), (1, .int a)]) hx hb d_LR_run_37 hl (k := 0) rfl rfl (by decide) rfl (fun ls hl => ?_)
          refine lv_goto (tgt := 10) hx hb d_LR_run_40 (by decide) ?_
          exact ih10 _ _ _ _ _ (lv_sub hl [0, 1, 2] rfl) hP hS hf
  exact L10 _ _ _ _ _ _ (lv_sub hl [0, 1, 2] rfl) hP hS hf
def f_LR_waiting (n : Nat) (M : Mem) : Option (Int32) :=
  (f_Mail_size n M).bind fun r4 => some r4
abbrev rm_LR_waiting : Room := { frames := 1, cells := 0, slots := 0, locals := 20 }
set_option maxHeartbeats 4000000 in
set_option maxRecDepth 100000 in
theorem c_LR_waiting {l : Launch} {D : va_G} {n : Nat} {ad : Nat → Nat} {G : Nat → ClassId}  {M : Mem} {x : Int32} (hf : f_LR_waiting n M = some x) : Met l y_LR_waiting (wc y_LR_waiting b_LR_waiting 1 (some .int)) rm_LR_waiting (va_Pc [.ref (ad 0)] (cB D n ad G M)) (rd_Q (some (.int x))) 0 0 (fun _ => False) := by
  refine k_met (by decide) (Nat.le_of_ble_eq_true rfl) ?_
  intro p e s m args below meth c S hr hlk hB ls hl
  obtain ⟨hx, hb, hml, hown, hts⟩ := id S
  obtain ⟨hP, hK, hA0⟩ := hB
  have hA := wl_own hA0
  have hl : lv_has ls 1 [(0, .ref (ad 0))] := hl
  unfold f_LR_waiting at hf
  refine lv_aload_n hx hb d_LR_waiting_0 rfl (lv_at hl 0 rfl) ?_
  refine va_get (D := D) (ci := 0) (v := .ref (ad 5)) (C := R_LR) (T := F_LR) (N := 6) hx hb hts in_LR hown hK hP 0 (wl_to (LR_lt) (LR_at)) rfl 2 (by decide) (hts _ fl_LR_34) (fun _ h => h) rfl d_LR_waiting_1 ?_
  obtain ⟨r4, hc4, hf⟩ := ob hf
  refine k_rdi (k_vir S (c_Mail_size (l := l) (D := D) (n := n) (ad := ad) (G := G) hc4) g_LR_110 hd_Mail_size ⟨rfl, rfl⟩ ⟨Nat.le_of_ble_eq_true rfl, Nat.le_of_ble_eq_true rfl⟩ wl_blind (va_recv hK hP rfl (wl_to (Mail_lt) (Mail_at))) (wl_pre hP hK hA) rfl hl.1 rfl (Nat.le_of_ble_eq_true rfl) d_LR_waiting_4 (Nat.zero_le _) (Nat.zero_le _)) ?_
  cases hf
  exact r_iret hx hb hr hlk d_LR_waiting_7
def f_LR_lost (n : Nat) (M : Mem) : Option (Int32) :=
  (f_Mail_lostCount n M).bind fun r4 => some r4
abbrev rm_LR_lost : Room := { frames := 1, cells := 0, slots := 0, locals := 20 }
set_option maxHeartbeats 4000000 in
set_option maxRecDepth 100000 in
theorem c_LR_lost {l : Launch} {D : va_G} {n : Nat} {ad : Nat → Nat} {G : Nat → ClassId}  {M : Mem} {x : Int32} (hf : f_LR_lost n M = some x) : Met l y_LR_lost (wc y_LR_lost b_LR_lost 1 (some .int)) rm_LR_lost (va_Pc [.ref (ad 0)] (cB D n ad G M)) (rd_Q (some (.int x))) 0 0 (fun _ => False) := by
  refine k_met (by decide) (Nat.le_of_ble_eq_true rfl) ?_
  intro p e s m args below meth c S hr hlk hB ls hl
  obtain ⟨hx, hb, hml, hown, hts⟩ := id S
  obtain ⟨hP, hK, hA0⟩ := hB
  have hA := wl_own hA0
  have hl : lv_has ls 1 [(0, .ref (ad 0))] := hl
  unfold f_LR_lost at hf
  refine lv_aload_n hx hb d_LR_lost_0 rfl (lv_at hl 0 rfl) ?_
  refine va_get (D := D) (ci := 0) (v := .ref (ad 5)) (C := R_LR) (T := F_LR) (N := 6) hx hb hts in_LR hown hK hP 0 (wl_to (LR_lt) (LR_at)) rfl 2 (by decide) (hts _ fl_LR_34) (fun _ h => h) rfl d_LR_lost_1 ?_
  obtain ⟨r4, hc4, hf⟩ := ob hf
  refine k_rdi (k_vir S (c_Mail_lostCount (l := l) (D := D) (n := n) (ad := ad) (G := G) hc4) g_LR_113 hd_Mail_lostCount ⟨rfl, rfl⟩ ⟨Nat.le_of_ble_eq_true rfl, Nat.le_of_ble_eq_true rfl⟩ wl_blind (va_recv hK hP rfl (wl_to (Mail_lt) (Mail_at))) (wl_pre hP hK hA) rfl hl.1 rfl (Nat.le_of_ble_eq_true rfl) d_LR_lost_4 (Nat.zero_le _) (Nat.zero_le _)) ?_
  cases hf
  exact r_iret hx hb hr hlk d_LR_lost_7
def f_LR_distance (n : Nat) (a : Int32) (b : Int32) (M : Mem) : Option (Int32) :=
  (f_LR_checkRouter n a M).bind fun r2 => (f_LR_checkPrefix b).bind fun r6 => (f_Ways_distanceOf n a b M).bind fun r15 => some r15
abbrev rm_LR_distance : Room := { frames := 2, cells := 0, slots := 0, locals := 43 }
set_option maxHeartbeats 4000000 in
set_option maxRecDepth 100000 in
theorem c_LR_distance {l : Launch} {D : va_G} {n : Nat} {ad : Nat → Nat} {G : Nat → ClassId} {a : Int32} {b : Int32}  {M : Mem} {x : Int32} (hf : f_LR_distance n a b M = some x) : Met l y_LR_distance (wc y_LR_distance b_LR_distance 3 (some .int)) rm_LR_distance (va_Pc [.ref (ad 0), .int a, .int b] (cB D n ad G M)) (rd_Q (some (.int x))) 0 0 (fun _ => False) := by
  refine k_met (by decide) (Nat.le_of_ble_eq_true rfl) ?_
  intro p e s m args below meth c S hr hlk hB ls hl
  obtain ⟨hx, hb, hml, hown, hts⟩ := id S
  obtain ⟨hP, hK, hA0⟩ := hB
  have hA := wl_own hA0
  have hl : lv_has ls 3 [(0, .ref (ad 0)), (1, .int a), (2, .int b)] := hl
  unfold f_LR_distance at hf
  refine lv_aload_n hx hb d_LR_distance_0 rfl (lv_at hl 0 rfl) ?_
  refine lv_iload_n hx hb d_LR_distance_1 rfl (lv_at hl 1 rfl) ?_
  obtain ⟨r2, hc2, hf⟩ := ob hf
  refine k_rdv (k_vir S (c_LR_checkRouter (l := l) (D := D) (n := n) (ad := ad) (G := G) hc2) g_LR_116 hd_LR_checkRouter ⟨rfl, rfl⟩ ⟨Nat.le_of_ble_eq_true rfl, Nat.le_of_ble_eq_true rfl⟩ wl_blind (va_recv hK hP rfl (wl_to (LR_lt) (LR_at))) (wl_pre hP hK hA) rfl hl.1 rfl (Nat.le_of_ble_eq_true rfl) d_LR_distance_2 (Nat.zero_le _) (Nat.zero_le _)) ?_
  refine lv_iload_n hx hb d_LR_distance_5 rfl (lv_at hl 2 rfl) ?_
  obtain ⟨r6, hc6, hf⟩ := ob hf
  refine k_rdv (k_sta S (c_LR_checkPrefix (l := l) (D := D) (n := n) (ad := ad) (G := G) hc6) g_LR_85 hd_LR_checkPrefix ⟨rfl, rfl⟩ ⟨Nat.le_of_ble_eq_true rfl, Nat.le_of_ble_eq_true rfl⟩ wl_blind (wl_pre hP hK hA) rfl hl.1 rfl (Nat.le_of_ble_eq_true rfl) d_LR_distance_6 (Nat.zero_le _) (Nat.zero_le _)) ?_
  refine lv_aload_n hx hb d_LR_distance_9 rfl (lv_at hl 0 rfl) ?_
  refine va_get (D := D) (ci := 0) (v := .ref (ad 1)) (C := R_LR) (T := F_LR) (N := 6) hx hb hts in_LR hown hK hP 0 (wl_to (LR_lt) (LR_at)) rfl 1 (by decide) (hts _ fl_LR_27) (fun _ h => h) rfl d_LR_distance_10 ?_
  refine lv_iload_n hx hb d_LR_distance_13 rfl (lv_at hl 1 rfl) ?_
  refine lv_iload_n hx hb d_LR_distance_14 rfl (lv_at hl 2 rfl) ?_
  obtain ⟨r15, hc15, hf⟩ := ob hf
  refine k_rdi (k_vir S (c_Ways_distanceOf (l := l) (D := D) (n := n) (ad := ad) (G := G) hc15) g_LR_119 hd_Ways_distanceOf ⟨rfl, rfl⟩ ⟨Nat.le_of_ble_eq_true rfl, Nat.le_of_ble_eq_true rfl⟩ wl_blind (va_recv hK hP rfl (wl_to (Ways_lt) (Ways_at))) (wl_pre hP hK hA) rfl hl.1 rfl (Nat.le_of_ble_eq_true rfl) d_LR_distance_15 (Nat.zero_le _) (Nat.zero_le _)) ?_
  cases hf
  exact r_iret hx hb hr hlk d_LR_distance_18
def f_LR_next (n : Nat) (a : Int32) (b : Int32) (M : Mem) : Option (Int32) :=
  (f_LR_checkRouter n a M).bind fun r2 => (f_LR_checkPrefix b).bind fun r6 => (f_Ways_nextOf n a b M).bind fun r15 => some r15
abbrev rm_LR_next : Room := { frames := 2, cells := 0, slots := 0, locals := 46 }
set_option maxHeartbeats 4000000 in
set_option maxRecDepth 100000 in
theorem c_LR_next {l : Launch} {D : va_G} {n : Nat} {ad : Nat → Nat} {G : Nat → ClassId} {a : Int32} {b : Int32}  {M : Mem} {x : Int32} (hf : f_LR_next n a b M = some x) : Met l y_LR_next (wc y_LR_next b_LR_next 3 (some .int)) rm_LR_next (va_Pc [.ref (ad 0), .int a, .int b] (cB D n ad G M)) (rd_Q (some (.int x))) 0 0 (fun _ => False) := by
  refine k_met (by decide) (Nat.le_of_ble_eq_true rfl) ?_
  intro p e s m args below meth c S hr hlk hB ls hl
  obtain ⟨hx, hb, hml, hown, hts⟩ := id S
  obtain ⟨hP, hK, hA0⟩ := hB
  have hA := wl_own hA0
  have hl : lv_has ls 3 [(0, .ref (ad 0)), (1, .int a), (2, .int b)] := hl
  unfold f_LR_next at hf
  refine lv_aload_n hx hb d_LR_next_0 rfl (lv_at hl 0 rfl) ?_
  refine lv_iload_n hx hb d_LR_next_1 rfl (lv_at hl 1 rfl) ?_
  obtain ⟨r2, hc2, hf⟩ := ob hf
  refine k_rdv (k_vir S (c_LR_checkRouter (l := l) (D := D) (n := n) (ad := ad) (G := G) hc2) g_LR_116 hd_LR_checkRouter ⟨rfl, rfl⟩ ⟨Nat.le_of_ble_eq_true rfl, Nat.le_of_ble_eq_true rfl⟩ wl_blind (va_recv hK hP rfl (wl_to (LR_lt) (LR_at))) (wl_pre hP hK hA) rfl hl.1 rfl (Nat.le_of_ble_eq_true rfl) d_LR_next_2 (Nat.zero_le _) (Nat.zero_le _)) ?_
  refine lv_iload_n hx hb d_LR_next_5 rfl (lv_at hl 2 rfl) ?_
  obtain ⟨r6, hc6, hf⟩ := ob hf
  refine k_rdv (k_sta S (c_LR_checkPrefix (l := l) (D := D) (n := n) (ad := ad) (G := G) hc6) g_LR_85 hd_LR_checkPrefix ⟨rfl, rfl⟩ ⟨Nat.le_of_ble_eq_true rfl, Nat.le_of_ble_eq_true rfl⟩ wl_blind (wl_pre hP hK hA) rfl hl.1 rfl (Nat.le_of_ble_eq_true rfl) d_LR_next_6 (Nat.zero_le _) (Nat.zero_le _)) ?_
  refine lv_aload_n hx hb d_LR_next_9 rfl (lv_at hl 0 rfl) ?_
  refine va_get (D := D) (ci := 0) (v := .ref (ad 1)) (C := R_LR) (T := F_LR) (N := 6) hx hb hts in_LR hown hK hP 0 (wl_to (LR_lt) (LR_at)) rfl 1 (by decide) (hts _ fl_LR_27) (fun _ h => h) rfl d_LR_next_10 ?_
  refine lv_iload_n hx hb d_LR_next_13 rfl (lv_at hl 1 rfl) ?_
  refine lv_iload_n hx hb d_LR_next_14 rfl (lv_at hl 2 rfl) ?_
  obtain ⟨r15, hc15, hf⟩ := ob hf
  refine k_rdi (k_vir S (c_Ways_nextOf (l := l) (D := D) (n := n) (ad := ad) (G := G) hc15) g_LR_122 hd_Ways_nextOf ⟨rfl, rfl⟩ ⟨Nat.le_of_ble_eq_true rfl, Nat.le_of_ble_eq_true rfl⟩ wl_blind (va_recv hK hP rfl (wl_to (Ways_lt) (Ways_at))) (wl_pre hP hK hA) rfl hl.1 rfl (Nat.le_of_ble_eq_true rfl) d_LR_next_15 (Nat.zero_le _) (Nat.zero_le _)) ?_
  cases hf
  exact r_iret hx hb hr hlk d_LR_next_18
def f_LR_label (n : Nat) (a : Int32) (b : Int32) (M : Mem) : Option (Int32) :=
  (f_LR_checkRouter n a M).bind fun r2 => (f_LR_checkPrefix b).bind fun r6 => (ix a n).bind fun j14 => (f_Router_labelOf n j14 b M).bind fun r16 => some r16
abbrev rm_LR_label : Room := { frames := 2, cells := 0, slots := 0, locals := 43 }
set_option maxHeartbeats 4000000 in
set_option maxRecDepth 100000 in
theorem c_LR_label {l : Launch} {D : va_G} {n : Nat} {ad : Nat → Nat} {G : Nat → ClassId} {a : Int32} {b : Int32}  {M : Mem} {x : Int32} (hf : f_LR_label n a b M = some x) : Met l y_LR_label (wc y_LR_label b_LR_label 3 (some .int)) rm_LR_label (va_Pc [.ref (ad 0), .int a, .int b] (cB D n ad G M)) (rd_Q (some (.int x))) 0 0 (fun _ => False) := by
  refine k_met (by decide) (Nat.le_of_ble_eq_true rfl) ?_
  intro p e s m args below meth c S hr hlk hB ls hl
  obtain ⟨hx, hb, hml, hown, hts⟩ := id S
  obtain ⟨hP, hK, hA0⟩ := hB
  have hA := wl_own hA0
  have hl : lv_has ls 3 [(0, .ref (ad 0)), (1, .int a), (2, .int b)] := hl
  unfold f_LR_label at hf
  refine lv_aload_n hx hb d_LR_label_0 rfl (lv_at hl 0 rfl) ?_
  refine lv_iload_n hx hb d_LR_label_1 rfl (lv_at hl 1 rfl) ?_
  obtain ⟨r2, hc2, hf⟩ := ob hf
  refine k_rdv (k_vir S (c_LR_checkRouter (l := l) (D := D) (n := n) (ad := ad) (G := G) hc2) g_LR_116 hd_LR_checkRouter ⟨rfl, rfl⟩ ⟨Nat.le_of_ble_eq_true rfl, Nat.le_of_ble_eq_true rfl⟩ wl_blind (va_recv hK hP rfl (wl_to (LR_lt) (LR_at))) (wl_pre hP hK hA) rfl hl.1 rfl (Nat.le_of_ble_eq_true rfl) d_LR_label_2 (Nat.zero_le _) (Nat.zero_le _)) ?_
  refine lv_iload_n hx hb d_LR_label_5 rfl (lv_at hl 2 rfl) ?_
  obtain ⟨r6, hc6, hf⟩ := ob hf
  refine k_rdv (k_sta S (c_LR_checkPrefix (l := l) (D := D) (n := n) (ad := ad) (G := G) hc6) g_LR_85 hd_LR_checkPrefix ⟨rfl, rfl⟩ ⟨Nat.le_of_ble_eq_true rfl, Nat.le_of_ble_eq_true rfl⟩ wl_blind (wl_pre hP hK hA) rfl hl.1 rfl (Nat.le_of_ble_eq_true rfl) d_LR_label_6 (Nat.zero_le _) (Nat.zero_le _)) ?_
  refine lv_aload_n hx hb d_LR_label_9 rfl (lv_at hl 0 rfl) ?_
  refine va_get (D := D) (ci := 0) (v := .ref (ad 7)) (C := R_LR) (T := F_LR) (N := 6) hx hb hts in_LR hown hK hP 0 (wl_to (LR_lt) (LR_at)) rfl 3 (by decide) (hts _ fl_LR_40) (fun _ h => h) rfl d_LR_label_10 ?_
  refine lv_iload_n hx hb d_LR_label_13 rfl (lv_at hl 1 rfl) ?_
  obtain ⟨j14, hj14, hf⟩ := ob hf
  refine k_aald hx hb hK hP 7 2 (RA_lt) (RA_at) rfl hj14 rfl d_LR_label_14 ?_
  refine lv_iload_n hx hb d_LR_label_15 rfl (lv_at hl 2 rfl) ?_
  obtain ⟨r16, hc16, hf⟩ := ob hf
  refine k_rdi (k_vir S (c_Router_labelOf (l := l) (D := D) (n := n) (ad := ad) (G := G) (ix_lt hj14) hc16) g_LR_125 hd_Router_labelOf ⟨rfl, rfl⟩ ⟨Nat.le_of_ble_eq_true rfl, Nat.le_of_ble_eq_true rfl⟩ wl_blind (va_recv hK hP rfl (wl_to (RT_lt (ix_lt hj14)) (RT_at (ix_lt hj14)))) (wl_pre hP hK hA) rfl hl.1 rfl (Nat.le_of_ble_eq_true rfl) d_LR_label_16 (Nat.zero_le _) (Nat.zero_le _)) ?_
  cases hf
  exact r_iret hx hb hr hlk d_LR_label_19
def f_LR_told (n : Nat) (a : Int32) (b : Int32) (z : Int32) (M : Mem) : Option (Int32) :=
  (f_LR_checkTwoRouters n a b M).bind fun r3 => (f_LR_checkPrefix z).bind fun r7 => (ix a n).bind fun j15 => (f_Router_toldBy n j15 b z M).bind fun r18 => some r18
abbrev rm_LR_told : Room := { frames := 3, cells := 0, slots := 0, locals := 65 }
set_option maxHeartbeats 4000000 in
set_option maxRecDepth 100000 in
theorem c_LR_told {l : Launch} {D : va_G} {n : Nat} {ad : Nat → Nat} {G : Nat → ClassId} {a : Int32} {b : Int32} {z : Int32}  {M : Mem} {x : Int32} (hf : f_LR_told n a b z M = some x) : Met l y_LR_told (wc y_LR_told b_LR_told 4 (some .int)) rm_LR_told (va_Pc [.ref (ad 0), .int a, .int b, .int z] (cB D n ad G M)) (rd_Q (some (.int x))) 0 0 (fun _ => False) := by
  refine k_met (by decide) (Nat.le_of_ble_eq_true rfl) ?_
  intro p e s m args below meth c S hr hlk hB ls hl
  obtain ⟨hx, hb, hml, hown, hts⟩ := id S
  obtain ⟨hP, hK, hA0⟩ := hB
  have hA := wl_own hA0
  have hl : lv_has ls 4 [(0, .ref (ad 0)), (1, .int a), (2, .int b), (3, .int z)] := hl
  unfold f_LR_told at hf
  refine lv_aload_n hx hb d_LR_told_0 rfl (lv_at hl 0 rfl) ?_
  refine lv_iload_n hx hb d_LR_told_1 rfl (lv_at hl 1 rfl) ?_
  refine lv_iload_n hx hb d_LR_told_2 rfl (lv_at hl 2 rfl) ?_
  obtain ⟨r3, hc3, hf⟩ := ob hf
  refine k_rdv (k_vir S (c_LR_checkTwoRouters (l := l) (D := D) (n := n) (ad := ad) (G := G) hc3) g_LR_62 hd_LR_checkTwoRouters ⟨rfl, rfl⟩ ⟨Nat.le_of_ble_eq_true rfl, Nat.le_of_ble_eq_true rfl⟩ wl_blind (va_recv hK hP rfl (wl_to (LR_lt) (LR_at))) (wl_pre hP hK hA) rfl hl.1 rfl (Nat.le_of_ble_eq_true rfl) d_LR_told_3 (Nat.zero_le _) (Nat.zero_le _)) ?_
  refine lv_iload_n hx hb d_LR_told_6 rfl (lv_at hl 3 rfl) ?_
  obtain ⟨r7, hc7, hf⟩ := ob hf
  refine k_rdv (k_sta S (c_LR_checkPrefix (l := l) (D := D) (n := n) (ad := ad) (G := G) hc7) g_LR_85 hd_LR_checkPrefix ⟨rfl, rfl⟩ ⟨Nat.le_of_ble_eq_true rfl, Nat.le_of_ble_eq_true rfl⟩ wl_blind (wl_pre hP hK hA) rfl hl.1 rfl (Nat.le_of_ble_eq_true rfl) d_LR_told_7 (Nat.zero_le _) (Nat.zero_le _)) ?_
  refine lv_aload_n hx hb d_LR_told_10 rfl (lv_at hl 0 rfl) ?_
  refine va_get (D := D) (ci := 0) (v := .ref (ad 7)) (C := R_LR) (T := F_LR) (N := 6) hx hb hts in_LR hown hK hP 0 (wl_to (LR_lt) (LR_at)) rfl 3 (by decide) (hts _ fl_LR_40) (fun _ h => h) rfl d_LR_told_11 ?_
  refine lv_iload_n hx hb d_LR_told_14 rfl (lv_at hl 1 rfl) ?_
  obtain ⟨j15, hj15, hf⟩ := ob hf
  refine k_aald hx hb hK hP 7 2 (RA_lt) (RA_at) rfl hj15 rfl d_LR_told_15 ?_
  refine lv_iload_n hx hb d_LR_told_16 rfl (lv_at hl 2 rfl) ?_
  refine lv_iload_n hx hb d_LR_told_17 rfl (lv_at hl 3 rfl) ?_
  obtain ⟨r18, hc18, hf⟩ := ob hf
  refine k_rdi (k_vir S (c_Router_toldBy (l := l) (D := D) (n := n) (ad := ad) (G := G) (ix_lt hj15) hc18) g_LR_128 hd_Router_toldBy ⟨rfl, rfl⟩ ⟨Nat.le_of_ble_eq_true rfl, Nat.le_of_ble_eq_true rfl⟩ wl_blind (va_recv hK hP rfl (wl_to (RT_lt (ix_lt hj15)) (RT_at (ix_lt hj15)))) (wl_pre hP hK hA) rfl hl.1 rfl (Nat.le_of_ble_eq_true rfl) d_LR_told_18 (Nat.zero_le _) (Nat.zero_le _)) ?_
  cases hf
  exact r_iret hx hb hr hlk d_LR_told_21
def f_LR_taken (n : Nat) (a : Int32) (M : Mem) : Option (Int32) :=
  (f_LR_checkRouter n a M).bind fun r2 => (ix a n).bind fun j10 => (f_Router_takenCount n j10 M).bind fun r11 => some r11
abbrev rm_LR_taken : Room := { frames := 2, cells := 0, slots := 0, locals := 43 }
set_option maxHeartbeats 4000000 in
set_option maxRecDepth 100000 in
theorem c_LR_taken {l : Launch} {D : va_G} {n : Nat} {ad : Nat → Nat} {G : Nat → ClassId} {a : Int32}  {M : Mem} {x : Int32} (hf : f_LR_taken n a M = some x) : Met l y_LR_taken (wc y_LR_taken b_LR_taken 2 (some .int)) rm_LR_taken (va_Pc [.ref (ad 0), .int a] (cB D n ad G M)) (rd_Q (some (.int x))) 0 0 (fun _ => False) := by
  refine k_met (by decide) (Nat.le_of_ble_eq_true rfl) ?_
  intro p e s m args below meth c S hr hlk hB ls hl
  obtain ⟨hx, hb, hml, hown, hts⟩ := id S
  obtain ⟨hP, hK, hA0⟩ := hB
  have hA := wl_own hA0
  have hl : lv_has ls 2 [(0, .ref (ad 0)), (1, .int a)] := hl
  unfold f_LR_taken at hf
  refine lv_aload_n hx hb d_LR_taken_0 rfl (lv_at hl 0 rfl) ?_
  refine lv_iload_n hx hb d_LR_taken_1 rfl (lv_at hl 1 rfl) ?_
  obtain ⟨r2, hc2, hf⟩ := ob hf
  refine k_rdv (k_vir S (c_LR_checkRouter (l := l) (D := D) (n := n) (ad := ad) (G := G) hc2) g_LR_116 hd_LR_checkRouter ⟨rfl, rfl⟩ ⟨Nat.le_of_ble_eq_true rfl, Nat.le_of_ble_eq_true rfl⟩ wl_blind (va_recv hK hP rfl (wl_to (LR_lt) (LR_at))) (wl_pre hP hK hA) rfl hl.1 rfl (Nat.le_of_ble_eq_true rfl) d_LR_taken_2 (Nat.zero_le _) (Nat.zero_le _)) ?_
  refine lv_aload_n hx hb d_LR_taken_5 rfl (lv_at hl 0 rfl) ?_
  refine va_get (D := D) (ci := 0) (v := .ref (ad 7)) (C := R_LR) (T := F_LR) (N := 6) hx hb hts in_LR hown hK hP 0 (wl_to (LR_lt) (LR_at)) rfl 3 (by decide) (hts _ fl_LR_40) (fun _ h => h) rfl d_LR_taken_6 ?_
  refine lv_iload_n hx hb d_LR_taken_9 rfl (lv_at hl 1 rfl) ?_
  obtain ⟨j10, hj10, hf⟩ := ob hf
  refine k_aald hx hb hK hP 7 2 (RA_lt) (RA_at) rfl hj10 rfl d_LR_taken_10 ?_
  obtain ⟨r11, hc11, hf⟩ := ob hf
  refine k_rdi (k_vir S (c_Router_takenCount (l := l) (D := D) (n := n) (ad := ad) (G := G) (ix_lt hj10) hc11) g_LR_131 hd_Router_takenCount ⟨rfl, rfl⟩ ⟨Nat.le_of_ble_eq_true rfl, Nat.le_of_ble_eq_true rfl⟩ wl_blind (va_recv hK hP rfl (wl_to (RT_lt (ix_lt hj10)) (RT_at (ix_lt hj10)))) (wl_pre hP hK hA) rfl hl.1 rfl (Nat.le_of_ble_eq_true rfl) d_LR_taken_11 (Nat.zero_le _) (Nat.zero_le _)) ?_
  cases hf
  exact r_iret hx hb hr hlk d_LR_taken_14
def f_LR_send_39 (n : Nat) (d : Int32) : Nat → Int32 → Mem → Option (Int32 × Mem)
  | 0, _, _ => none
  | k39 + 1, v5_39, N39 =>
    if d ≤ v5_39 then (some (2, N39)) else ((f_LR_passRouter n N39).bind fun r47 => if r47.1 = (-1) then (f_LR_send_39 n d k39 (v5_39 + 1) r47.2) else (some (r47.1, r47.2)))
def f_LR_send (n : Nat) (a : Int32) (b : Int32) (z : Int32) (d : Int32) (M : Mem) : Option (Int32 × Mem) :=
  (f_LR_checkRouter n a M).bind fun r2 => (f_LR_checkPrefix b).bind fun r6 => (f_LR_checkRange z (-1) 3).bind fun r12 => (f_LR_checkRange d 1 255).bind fun r21 => (f_Packet_begin n a b z d M).bind fun r33 => f_LR_send_39 n d 1000 0 r33
abbrev rm_LR_send : Room := { frames := 5, cells := 0, slots := 0, locals := 115 }
set_option maxHeartbeats 4000000 in
set_option maxRecDepth 100000 in
theorem c_LR_send {l : Launch} {D : va_G} {n : Nat} {ad : Nat → Nat} {G : Nat → ClassId} {a : Int32} {b : Int32} {z : Int32} {d : Int32}  {M : Mem} {x : Int32 × Mem} (hf : f_LR_send n a b z d M = some x) : Met l y_LR_send (wc y_LR_send b_LR_send 7 (some .int)) rm_LR_send (va_Pc [.ref (ad 0), .int a, .int b, .int z, .int d] (cB D n ad G M)) (wr_Q (some (.int x.1)) D cls (cK n) ad (cE n ad G x.2)) 0 0 (wl_A (cK n) ad) := by
  refine k_met (by decide) (Nat.le_of_ble_eq_true rfl) ?_
  intro p e s m args below meth c S hr hlk hB ls hl
  obtain ⟨hx, hb, hml, hown, hts⟩ := id S
  obtain ⟨hP, hK, hA0⟩ := hB
  have hA := wl_own hA0
  have hl : lv_has ls 7 [(0, .ref (ad 0)), (1, .int a), (2, .int b), (3, .int z), (4, .int d)] := hl
  have hS : va_S (wl_A (cK n) ad) s.heap s.heap [] := va_S.rf
  unfold f_LR_send at hf
  refine lv_aload_n hx hb d_LR_send_0 rfl (lv_at hl 0 rfl) ?_
  refine lv_iload_n hx hb d_LR_send_1 rfl (lv_at hl 1 rfl) ?_
  obtain ⟨r2, hc2, hf⟩ := ob hf
  refine k_rdv (k_vir S (c_LR_checkRouter (l := l) (D := D) (n := n) (ad := ad) (G := G) hc2) g_LR_116 hd_LR_checkRouter ⟨rfl, rfl⟩ ⟨Nat.le_of_ble_eq_true rfl, Nat.le_of_ble_eq_true rfl⟩ wl_blind (va_recv hK hP rfl (wl_to (LR_lt) (LR_at))) (wl_pre hP hK hA) rfl hl.1 rfl (Nat.le_of_ble_eq_true rfl) d_LR_send_2 (Nat.zero_le _) (Nat.zero_le _)) ?_
  refine lv_iload_n hx hb d_LR_send_5 rfl (lv_at hl 2 rfl) ?_
  obtain ⟨r6, hc6, hf⟩ := ob hf
  refine k_rdv (k_sta S (c_LR_checkPrefix (l := l) (D := D) (n := n) (ad := ad) (G := G) hc6) g_LR_85 hd_LR_checkPrefix ⟨rfl, rfl⟩ ⟨Nat.le_of_ble_eq_true rfl, Nat.le_of_ble_eq_true rfl⟩ wl_blind (wl_pre hP hK hA) rfl hl.1 rfl (Nat.le_of_ble_eq_true rfl) d_LR_send_6 (Nat.zero_le _) (Nat.zero_le _)) ?_
  refine lv_iload_n hx hb d_LR_send_9 rfl (lv_at hl 3 rfl) ?_
  refine lv_iconst (v := (-1)) hx hb d_LR_send_10 (by decide) ?_
  refine lv_iconst (v := 3) hx hb d_LR_send_11 (by decide) ?_
  obtain ⟨r12, hc12, hf⟩ := ob hf
  refine k_rdv (k_sta S (c_LR_checkRange (l := l) (D := D) (n := n) (ad := ad) (G := G) hc12) g_LR_66 hd_LR_checkRange ⟨rfl, rfl⟩ ⟨Nat.le_of_ble_eq_true rfl, Nat.le_of_ble_eq_true rfl⟩ wl_blind (wl_pre hP hK hA) rfl hl.1 rfl (Nat.le_of_ble_eq_true rfl) d_LR_send_12 (Nat.zero_le _) (Nat.zero_le _)) ?_
  refine lv_iload hx hb d_LR_send_15 (lv_at hl 4 rfl) ?_
  refine lv_iconst (v := 1) hx hb d_LR_send_17 (by decide) ?_
  refine lv_sipush (v := 255) hx hb d_LR_send_18 (by decide) ?_
  obtain ⟨r21, hc21, hf⟩ := ob hf
  refine k_rdv (k_sta S (c_LR_checkRange (l := l) (D := D) (n := n) (ad := ad) (G := G) hc21) g_LR_66 hd_LR_checkRange ⟨rfl, rfl⟩ ⟨Nat.le_of_ble_eq_true rfl, Nat.le_of_ble_eq_true rfl⟩ wl_blind (wl_pre hP hK hA) rfl hl.1 rfl (Nat.le_of_ble_eq_true rfl) d_LR_send_21 (Nat.zero_le _) (Nat.zero_le _)) ?_
  refine lv_aload_n hx hb d_LR_send_24 rfl (lv_at hl 0 rfl) ?_
  refine va_get (D := D) (ci := 0) (v := .ref (ad 9)) (C := R_LR) (T := F_LR) (N := 6) hx hb hts in_LR hown hK hP 0 (wl_to (LR_lt) (LR_at)) rfl 5 (by decide) (hts _ fl_LR_58) (fun _ h => h) rfl d_LR_send_25 ?_
  refine lv_iload_n hx hb d_LR_send_28 rfl (lv_at hl 1 rfl) ?_
  refine lv_iload_n hx hb d_LR_send_29 rfl (lv_at hl 2 rfl) ?_
  refine lv_iload_n hx hb d_LR_send_30 rfl (lv_at hl 3 rfl) ?_
  refine lv_iload hx hb d_LR_send_31 (lv_at hl 4 rfl) ?_
  obtain ⟨r33, hc33, hf⟩ := ob hf
  refine k_wrv (k_vir S (c_Packet_begin (l := l) (D := D) (n := n) (ad := ad) (G := G) hc33) g_LR_134 hd_Packet_begin ⟨rfl, rfl⟩ ⟨Nat.le_of_ble_eq_true rfl, Nat.le_of_ble_eq_true rfl⟩ wl_blind (va_recv hK hP rfl (wl_to (PK_lt) (PK_at))) (wl_pre hP hK hA) rfl hl.1 rfl (Nat.le_of_ble_eq_true rfl) d_LR_send_33 (Nat.zero_le _) (Nat.zero_le _)) hS (fun _ h => h) (fun H locs hP _ _ hS => ?_)
  refine lv_iconst (v := 0) hx hb d_LR_send_36 (by decide) ?_
  refine lv_istore (lv' := [(5, .int 0), (0, .ref (ad 0)), (1, .int a), (2, .int b), (3, .int z), (4, .int d)]) hx hb d_LR_send_37 hl (by decide) rfl (fun ls hl => ?_)
  have L39 : ∀ (k39 : Nat) (v5_39 : Int32) (N39 : Mem) (H : Heap) (locs : List Loc) (ls : Array Slot), lv_has ls 7 [(5, .int v5_39), (0, .ref (ad 0)), (1, .int a), (2, .int b), (3, .int z), (4, .int d)] → va_P D cls (cW n ad G N39) H → va_S (wl_A (cK n) ad) s.heap H locs → f_LR_send_39 n d k39 v5_39 N39 = some x → W p l e rm_LR_send s m args below meth c H locs 0 0 (MQ below (wr_Q (some (.int x.1)) D cls (cK n) ad (cE n ad G x.2)) args s 0 0 (wl_A (cK n) ad)) (F0 m 39 ls []) := by
    intro k39
    induction k39 with
    | zero =>
      intro v5_39 N39 H locs ls hl hP hS hf
      simp [f_LR_send_39] at hf
    | succ k39 ih39 =>
      intro v5_39 N39 H locs ls hl hP hS hf
      rw [f_LR_send_39] at hf
      refine lv_iload hx hb d_LR_send_39 (lv_at hl 0 rfl) ?_
      refine lv_iload hx hb d_LR_send_41 (lv_at hl 5 rfl) ?_
      refine lv_icmp_ge (tgt := 67) hx hb d_LR_send_43 (by decide) (fun h43 => ?_) (fun h43 => ?_)
      · rw [if_pos h43] at hf
        refine lv_iconst (v := 2) hx hb d_LR_send_67 (by decide) ?_
        cases hf
        exact w_iret hx hb hr hlk hP hS d_LR_send_68
      · rw [if_neg h43] at hf
        refine lv_aload_n hx hb d_LR_send_46 rfl (lv_at hl 1 rfl) ?_
        obtain ⟨r47, hc47, hf⟩ := ob hf
        refine k_wri (k_vir S (c_LR_passRouter (l := l) (D := D) (n := n) (ad := ad) (G := G) hc47) g_LR_138 hd_LR_passRouter ⟨rfl, rfl⟩ ⟨Nat.le_of_ble_eq_true rfl, Nat.le_of_ble_eq_true rfl⟩ wl_blind (va_recv hK hP rfl (wl_to (LR_lt) (LR_at))) (wl_pre hP hK hA) rfl hl.1 rfl (Nat.le_of_ble_eq_true rfl) d_LR_send_47 (Nat.zero_le _) (Nat.zero_le _)) hS (fun _ h => h) (fun H locs hP _ _ hS => ?_)
        refine lv_istore (lv' := [(6, .int r47.1), (5, .int v5_39), (0, .ref (ad 0)), (1, .int a), (2, .int b), (3, .int z), (4, .int d)]) hx hb d_LR_send_50 hl (by decide) rfl (fun ls hl => ?_)
        refine lv_iload hx hb d_LR_send_52 (lv_at hl 0 rfl) ?_
        refine lv_iconst (v := (-1)) hx hb d_LR_send_54 (by decide) ?_
        refine lv_icmp_eq (tgt := 61) hx hb d_LR_send_55 (by decide) (fun h55 => ?_) (fun h55 => ?_)
        · rw [if_pos h55] at hf
          refine lv_iinc (v := (v5_39 + 1)) (lv' := [(5, .int (v5_39 + 1)), (6, .int r47.1), (0, .ref (ad 0)), (1, .int a), (2, .int b), (3, .int z), (4, .int d)]) hx hb d_LR_send_61 hl (k := 1) rfl rfl (by decide) rfl (fun ls hl => ?_)
          refine lv_goto (tgt := 39) hx hb d_LR_send_64 (by decide) ?_
          exact ih39 _ _ _ _ _ (lv_sub hl [0, 2, 3, 4, 5, 6] rfl) hP hS hf
        · rw [if_neg h55] at hf
          refine lv_iload hx hb d_LR_send_58 (lv_at hl 0 rfl) ?_
          cases hf
          exact w_iret hx hb hr hlk hP hS d_LR_send_60
  exact L39 _ _ _ _ _ _ (lv_sub hl [0, 1, 2, 3, 4, 5] rfl) hP hS hf
def f_LR_hops (n : Nat) (M : Mem) : Option (Int32) :=
  (f_Packet_placeCount n M).bind fun r4 => some r4
abbrev rm_LR_hops : Room := { frames := 1, cells := 0, slots := 0, locals := 20 }
set_option maxHeartbeats 4000000 in
set_option maxRecDepth 100000 in
theorem c_LR_hops {l : Launch} {D : va_G} {n : Nat} {ad : Nat → Nat} {G : Nat → ClassId}  {M : Mem} {x : Int32} (hf : f_LR_hops n M = some x) : Met l y_LR_hops (wc y_LR_hops b_LR_hops 1 (some .int)) rm_LR_hops (va_Pc [.ref (ad 0)] (cB D n ad G M)) (rd_Q (some (.int x))) 0 0 (fun _ => False) := by
  refine k_met (by decide) (Nat.le_of_ble_eq_true rfl) ?_
  intro p e s m args below meth c S hr hlk hB ls hl
  obtain ⟨hx, hb, hml, hown, hts⟩ := id S
  obtain ⟨hP, hK, hA0⟩ := hB
  have hA := wl_own hA0
  have hl : lv_has ls 1 [(0, .ref (ad 0))] := hl
  unfold f_LR_hops at hf
  refine lv_aload_n hx hb d_LR_hops_0 rfl (lv_at hl 0 rfl) ?_
  refine va_get (D := D) (ci := 0) (v := .ref (ad 9)) (C := R_LR) (T := F_LR) (N := 6) hx hb hts in_LR hown hK hP 0 (wl_to (LR_lt) (LR_at)) rfl 5 (by decide) (hts _ fl_LR_58) (fun _ h => h) rfl d_LR_hops_1 ?_
  obtain ⟨r4, hc4, hf⟩ := ob hf
  refine k_rdi (k_vir S (c_Packet_placeCount (l := l) (D := D) (n := n) (ad := ad) (G := G) hc4) g_LR_141 hd_Packet_placeCount ⟨rfl, rfl⟩ ⟨Nat.le_of_ble_eq_true rfl, Nat.le_of_ble_eq_true rfl⟩ wl_blind (va_recv hK hP rfl (wl_to (PK_lt) (PK_at))) (wl_pre hP hK hA) rfl hl.1 rfl (Nat.le_of_ble_eq_true rfl) d_LR_hops_4 (Nat.zero_le _) (Nat.zero_le _)) ?_
  cases hf
  exact r_iret hx hb hr hlk d_LR_hops_7
def f_LR_hop (n : Nat) (a : Int32) (M : Mem) : Option (Int32) :=
  (f_LR_checkHop n a M).bind fun r2 => (f_Packet_placeAt n a M).bind fun r10 => some r10
abbrev rm_LR_hop : Room := { frames := 2, cells := 0, slots := 0, locals := 41 }
set_option maxHeartbeats 4000000 in
set_option maxRecDepth 100000 in
theorem c_LR_hop {l : Launch} {D : va_G} {n : Nat} {ad : Nat → Nat} {G : Nat → ClassId} {a : Int32}  {M : Mem} {x : Int32} (hf : f_LR_hop n a M = some x) : Met l y_LR_hop (wc y_LR_hop b_LR_hop 2 (some .int)) rm_LR_hop (va_Pc [.ref (ad 0), .int a] (cB D n ad G M)) (rd_Q (some (.int x))) 0 0 (fun _ => False) := by
  refine k_met (by decide) (Nat.le_of_ble_eq_true rfl) ?_
  intro p e s m args below meth c S hr hlk hB ls hl
  obtain ⟨hx, hb, hml, hown, hts⟩ := id S
  obtain ⟨hP, hK, hA0⟩ := hB
  have hA := wl_own hA0
  have hl : lv_has ls 2 [(0, .ref (ad 0)), (1, .int a)] := hl
  unfold f_LR_hop at hf
  refine lv_aload_n hx hb d_LR_hop_0 rfl (lv_at hl 0 rfl) ?_
  refine lv_iload_n hx hb d_LR_hop_1 rfl (lv_at hl 1 rfl) ?_
  obtain ⟨r2, hc2, hf⟩ := ob hf
  refine k_rdv (k_vir S (c_LR_checkHop (l := l) (D := D) (n := n) (ad := ad) (G := G) hc2) g_LR_144 hd_LR_checkHop ⟨rfl, rfl⟩ ⟨Nat.le_of_ble_eq_true rfl, Nat.le_of_ble_eq_true rfl⟩ wl_blind (va_recv hK hP rfl (wl_to (LR_lt) (LR_at))) (wl_pre hP hK hA) rfl hl.1 rfl (Nat.le_of_ble_eq_true rfl) d_LR_hop_2 (Nat.zero_le _) (Nat.zero_le _)) ?_
  refine lv_aload_n hx hb d_LR_hop_5 rfl (lv_at hl 0 rfl) ?_
  refine va_get (D := D) (ci := 0) (v := .ref (ad 9)) (C := R_LR) (T := F_LR) (N := 6) hx hb hts in_LR hown hK hP 0 (wl_to (LR_lt) (LR_at)) rfl 5 (by decide) (hts _ fl_LR_58) (fun _ h => h) rfl d_LR_hop_6 ?_
  refine lv_iload_n hx hb d_LR_hop_9 rfl (lv_at hl 1 rfl) ?_
  obtain ⟨r10, hc10, hf⟩ := ob hf
  refine k_rdi (k_vir S (c_Packet_placeAt (l := l) (D := D) (n := n) (ad := ad) (G := G) hc10) g_LR_147 hd_Packet_placeAt ⟨rfl, rfl⟩ ⟨Nat.le_of_ble_eq_true rfl, Nat.le_of_ble_eq_true rfl⟩ wl_blind (va_recv hK hP rfl (wl_to (PK_lt) (PK_at))) (wl_pre hP hK hA) rfl hl.1 rfl (Nat.le_of_ble_eq_true rfl) d_LR_hop_10 (Nat.zero_le _) (Nat.zero_le _)) ?_
  cases hf
  exact r_iret hx hb hr hlk d_LR_hop_13
def f_LR_entry (n : Nat) (a : Int32) (M : Mem) : Option (Int32) :=
  (f_LR_checkHop n a M).bind fun r2 => (f_Packet_entryAt n a M).bind fun r10 => some r10
abbrev rm_LR_entry : Room := { frames := 2, cells := 0, slots := 0, locals := 41 }
set_option maxHeartbeats 4000000 in
set_option maxRecDepth 100000 in
theorem c_LR_entry {l : Launch} {D : va_G} {n : Nat} {ad : Nat → Nat} {G : Nat → ClassId} {a : Int32}  {M : Mem} {x : Int32} (hf : f_LR_entry n a M = some x) : Met l y_LR_entry (wc y_LR_entry b_LR_entry 2 (some .int)) rm_LR_entry (va_Pc [.ref (ad 0), .int a] (cB D n ad G M)) (rd_Q (some (.int x))) 0 0 (fun _ => False) := by
  refine k_met (by decide) (Nat.le_of_ble_eq_true rfl) ?_
  intro p e s m args below meth c S hr hlk hB ls hl
  obtain ⟨hx, hb, hml, hown, hts⟩ := id S
  obtain ⟨hP, hK, hA0⟩ := hB
  have hA := wl_own hA0
  have hl : lv_has ls 2 [(0, .ref (ad 0)), (1, .int a)] := hl
  unfold f_LR_entry at hf
  refine lv_aload_n hx hb d_LR_entry_0 rfl (lv_at hl 0 rfl) ?_
  refine lv_iload_n hx hb d_LR_entry_1 rfl (lv_at hl 1 rfl) ?_
  obtain ⟨r2, hc2, hf⟩ := ob hf
  refine k_rdv (k_vir S (c_LR_checkHop (l := l) (D := D) (n := n) (ad := ad) (G := G) hc2) g_LR_144 hd_LR_checkHop ⟨rfl, rfl⟩ ⟨Nat.le_of_ble_eq_true rfl, Nat.le_of_ble_eq_true rfl⟩ wl_blind (va_recv hK hP rfl (wl_to (LR_lt) (LR_at))) (wl_pre hP hK hA) rfl hl.1 rfl (Nat.le_of_ble_eq_true rfl) d_LR_entry_2 (Nat.zero_le _) (Nat.zero_le _)) ?_
  refine lv_aload_n hx hb d_LR_entry_5 rfl (lv_at hl 0 rfl) ?_
  refine va_get (D := D) (ci := 0) (v := .ref (ad 9)) (C := R_LR) (T := F_LR) (N := 6) hx hb hts in_LR hown hK hP 0 (wl_to (LR_lt) (LR_at)) rfl 5 (by decide) (hts _ fl_LR_58) (fun _ h => h) rfl d_LR_entry_6 ?_
  refine lv_iload_n hx hb d_LR_entry_9 rfl (lv_at hl 1 rfl) ?_
  obtain ⟨r10, hc10, hf⟩ := ob hf
  refine k_rdi (k_vir S (c_Packet_entryAt (l := l) (D := D) (n := n) (ad := ad) (G := G) hc10) g_LR_150 hd_Packet_entryAt ⟨rfl, rfl⟩ ⟨Nat.le_of_ble_eq_true rfl, Nat.le_of_ble_eq_true rfl⟩ wl_blind (va_recv hK hP rfl (wl_to (PK_lt) (PK_at))) (wl_pre hP hK hA) rfl hl.1 rfl (Nat.le_of_ble_eq_true rfl) d_LR_entry_10 (Nat.zero_le _) (Nat.zero_le _)) ?_
  cases hf
  exact r_iret hx hb hr hlk d_LR_entry_13
end
