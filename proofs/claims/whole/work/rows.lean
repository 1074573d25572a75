section
-- ===== PART A: goes FIRST, ahead of the names: the tables' words, and 'selects' of the private methods out of them =====
/-- a private method of a class that the tables say can be made, by its rows of tables_1 -/
def lw_okq (q : MethodName × Nat) : Prop := (q.1.cls ≠ "java/lang/invoke/MethodHandle" ∧ q.1.cls ≠ "java/lang/invoke/VarHandle") ∧ Cond.instantiable q.1.cls q.2 ∈ tables_1 ∧ Cond.privateMethod q.1 ∈ tables_1 ∧ Cond.instanceMethod q.1 ∈ tables_1
theorem lw_p0 : lw_okq (⟨"DollGarlands$Table", "cellOf", "(II)I"⟩, 1) := ⟨⟨by decide +kernel, by decide +kernel⟩, List.mem_of_getElem? (i := 20) (by decide +kernel), List.mem_of_getElem? (i := 172) (by decide +kernel), List.mem_of_getElem? (i := 173) (by decide +kernel)⟩
theorem lw_p1 : lw_okq (⟨"DollGarlands$History", "cellOf", "(I)I"⟩, 3) := ⟨⟨by decide +kernel, by decide +kernel⟩, List.mem_of_getElem? (i := 76) (by decide +kernel), List.mem_of_getElem? (i := 210) (by decide +kernel), List.mem_of_getElem? (i := 211) (by decide +kernel)⟩
theorem lw_p2 : lw_okq (⟨"DollGarlands$Looks", "repeatsAfter", "(II)Z"⟩, 1) := ⟨⟨by decide +kernel, by decide +kernel⟩, List.mem_of_getElem? (i := 45) (by decide +kernel), List.mem_of_getElem? (i := 448) (by decide +kernel), List.mem_of_getElem? (i := 449) (by decide +kernel)⟩
theorem lw_p3 : lw_okq (⟨"DollGarlands$Chains", "leadersOf", "(I)I"⟩, 4) := ⟨⟨by decide +kernel, by decide +kernel⟩, List.mem_of_getElem? (i := 55) (by decide +kernel), List.mem_of_getElem? (i := 480) (by decide +kernel), List.mem_of_getElem? (i := 481) (by decide +kernel)⟩
theorem lw_p4 : lw_okq (⟨"DollGarlands$Chains", "followersOf", "(I)I"⟩, 4) := ⟨⟨by decide +kernel, by decide +kernel⟩, List.mem_of_getElem? (i := 55) (by decide +kernel), List.mem_of_getElem? (i := 488) (by decide +kernel), List.mem_of_getElem? (i := 489) (by decide +kernel)⟩
theorem lw_p5 : lw_okq (⟨"DollGarlands$Chains", "followersOfAny", "(I)I"⟩, 4) := ⟨⟨by decide +kernel, by decide +kernel⟩, List.mem_of_getElem? (i := 55) (by decide +kernel), List.mem_of_getElem? (i := 492) (by decide +kernel), List.mem_of_getElem? (i := 493) (by decide +kernel)⟩
theorem lw_p6 : lw_okq (⟨"DollGarlands$Chains", "countEndings", "(I)V"⟩, 4) := ⟨⟨by decide +kernel, by decide +kernel⟩, List.mem_of_getElem? (i := 55) (by decide +kernel), List.mem_of_getElem? (i := 507) (by decide +kernel), List.mem_of_getElem? (i := 508) (by decide +kernel)⟩
theorem lw_p7 : lw_okq (⟨"DollGarlands$Chains", "endingsAheadOf", "(I)I"⟩, 4) := ⟨⟨by decide +kernel, by decide +kernel⟩, List.mem_of_getElem? (i := 55) (by decide +kernel), List.mem_of_getElem? (i := 512) (by decide +kernel), List.mem_of_getElem? (i := 513) (by decide +kernel)⟩
theorem lw_p8 : lw_okq (⟨"DollGarlandsModel", "isKind", "(I)Z"⟩, 14) := ⟨⟨by decide +kernel, by decide +kernel⟩, List.mem_of_getElem? (i := 560) (by decide +kernel), List.mem_of_getElem? (i := 613) (by decide +kernel), List.mem_of_getElem? (i := 614) (by decide +kernel)⟩
theorem lw_p9 : lw_okq (⟨"DollGarlandsModel", "keeps", "()V"⟩, 14) := ⟨⟨by decide +kernel, by decide +kernel⟩, List.mem_of_getElem? (i := 560) (by decide +kernel), List.mem_of_getElem? (i := 621) (by decide +kernel), List.mem_of_getElem? (i := 622) (by decide +kernel)⟩
theorem lw_p10 : lw_okq (⟨"DollGarlandsModel", "anyClash", "()Z"⟩, 14) := ⟨⟨by decide +kernel, by decide +kernel⟩, List.mem_of_getElem? (i := 560) (by decide +kernel), List.mem_of_getElem? (i := 625) (by decide +kernel), List.mem_of_getElem? (i := 626) (by decide +kernel)⟩
theorem lw_p11 : lw_okq (⟨"DollGarlandsModel", "dollAt", "(II)I"⟩, 14) := ⟨⟨by decide +kernel, by decide +kernel⟩, List.mem_of_getElem? (i := 560) (by decide +kernel), List.mem_of_getElem? (i := 629) (by decide +kernel), List.mem_of_getElem? (i := 630) (by decide +kernel)⟩
theorem lw_p12 : lw_okq (⟨"DollGarlandsModel", "clash", "(II)Z"⟩, 14) := ⟨⟨by decide +kernel, by decide +kernel⟩, List.mem_of_getElem? (i := 560) (by decide +kernel), List.mem_of_getElem? (i := 633) (by decide +kernel), List.mem_of_getElem? (i := 634) (by decide +kernel)⟩
theorem lw_p13 : lw_okq (⟨"DollGarlandsModel", "handOf", "(II)I"⟩, 14) := ⟨⟨by decide +kernel, by decide +kernel⟩, List.mem_of_getElem? (i := 560) (by decide +kernel), List.mem_of_getElem? (i := 637) (by decide +kernel), List.mem_of_getElem? (i := 638) (by decide +kernel)⟩
theorem lw_p14 : lw_okq (⟨"DollGarlandsModel", "ends", "(I)I"⟩, 14) := ⟨⟨by decide +kernel, by decide +kernel⟩, List.mem_of_getElem? (i := 560) (by decide +kernel), List.mem_of_getElem? (i := 641) (by decide +kernel), List.mem_of_getElem? (i := 642) (by decide +kernel)⟩
theorem lw_p15 : lw_okq (⟨"DollGarlandsModel", "comesBack", "()V"⟩, 14) := ⟨⟨by decide +kernel, by decide +kernel⟩, List.mem_of_getElem? (i := 560) (by decide +kernel), List.mem_of_getElem? (i := 645) (by decide +kernel), List.mem_of_getElem? (i := 646) (by decide +kernel)⟩
def lw_privs_1 : List (MethodName × Nat) := [(⟨"DollGarlands$Table", "cellOf", "(II)I"⟩, 1), (⟨"DollGarlands$History", "cellOf", "(I)I"⟩, 3), (⟨"DollGarlands$Looks", "repeatsAfter", "(II)Z"⟩, 1), (⟨"DollGarlands$Chains", "leadersOf", "(I)I"⟩, 4), (⟨"DollGarlands$Chains", "followersOf", "(I)I"⟩, 4), (⟨"DollGarlands$Chains", "followersOfAny", "(I)I"⟩, 4), (⟨"DollGarlands$Chains", "countEndings", "(I)V"⟩, 4), (⟨"DollGarlands$Chains", "endingsAheadOf", "(I)I"⟩, 4), (⟨"DollGarlandsModel", "isKind", "(I)Z"⟩, 14), (⟨"DollGarlandsModel", "keeps", "()V"⟩, 14), (⟨"DollGarlandsModel", "anyClash", "()Z"⟩, 14), (⟨"DollGarlandsModel", "dollAt", "(II)I"⟩, 14), (⟨"DollGarlandsModel", "clash", "(II)Z"⟩, 14), (⟨"DollGarlandsModel", "handOf", "(II)I"⟩, 14), (⟨"DollGarlandsModel", "ends", "(I)I"⟩, 14), (⟨"DollGarlandsModel", "comesBack", "()V"⟩, 14)]
theorem lw_r1 : ∀ q ∈ lw_privs_1, lw_okq q := List.forall_mem_cons.mpr ⟨lw_p0, List.forall_mem_cons.mpr ⟨lw_p1, List.forall_mem_cons.mpr ⟨lw_p2, List.forall_mem_cons.mpr ⟨lw_p3, List.forall_mem_cons.mpr ⟨lw_p4, List.forall_mem_cons.mpr ⟨lw_p5, List.forall_mem_cons.mpr ⟨lw_p6, List.forall_mem_cons.mpr ⟨lw_p7, List.forall_mem_cons.mpr ⟨lw_p8, List.forall_mem_cons.mpr ⟨lw_p9, List.forall_mem_cons.mpr ⟨lw_p10, List.forall_mem_cons.mpr ⟨lw_p11, List.forall_mem_cons.mpr ⟨lw_p12, List.forall_mem_cons.mpr ⟨lw_p13, List.forall_mem_cons.mpr ⟨lw_p14, List.forall_mem_cons.mpr ⟨lw_p15, fun _ h => absurd h List.not_mem_nil⟩⟩⟩⟩⟩⟩⟩⟩⟩⟩⟩⟩⟩⟩⟩⟩
theorem lw_p16 : lw_okq (⟨"DollGarlandsModel", "records", "()V"⟩, 14) := ⟨⟨by decide +kernel, by decide +kernel⟩, List.mem_of_getElem? (i := 560) (by decide +kernel), List.mem_of_getElem? (i := 649) (by decide +kernel), List.mem_of_getElem? (i := 650) (by decide +kernel)⟩
theorem lw_p17 : lw_okq (⟨"DollGarlandsModel", "greatestKind", "()I"⟩, 14) := ⟨⟨by decide +kernel, by decide +kernel⟩, List.mem_of_getElem? (i := 560) (by decide +kernel), List.mem_of_getElem? (i := 663) (by decide +kernel), List.mem_of_getElem? (i := 664) (by decide +kernel)⟩
theorem lw_p18 : lw_okq (⟨"DollGarlandsModel", "freeNumber", "()I"⟩, 14) := ⟨⟨by decide +kernel, by decide +kernel⟩, List.mem_of_getElem? (i := 560) (by decide +kernel), List.mem_of_getElem? (i := 671) (by decide +kernel), List.mem_of_getElem? (i := 672) (by decide +kernel)⟩
theorem lw_p19 : lw_okq (⟨"DollGarlandsModel", "lays", "(III)V"⟩, 14) := ⟨⟨by decide +kernel, by decide +kernel⟩, List.mem_of_getElem? (i := 560) (by decide +kernel), List.mem_of_getElem? (i := 675) (by decide +kernel), List.mem_of_getElem? (i := 676) (by decide +kernel)⟩
theorem lw_p20 : lw_okq (⟨"DollGarlandsModel", "isGarland", "(I)Z"⟩, 14) := ⟨⟨by decide +kernel, by decide +kernel⟩, List.mem_of_getElem? (i := 560) (by decide +kernel), List.mem_of_getElem? (i := 683) (by decide +kernel), List.mem_of_getElem? (i := 684) (by decide +kernel)⟩
theorem lw_p21 : lw_okq (⟨"DollGarlandsModel", "last", "(I)I"⟩, 14) := ⟨⟨by decide +kernel, by decide +kernel⟩, List.mem_of_getElem? (i := 560) (by decide +kernel), List.mem_of_getElem? (i := 688) (by decide +kernel), List.mem_of_getElem? (i := 689) (by decide +kernel)⟩
theorem lw_p22 : lw_okq (⟨"DollGarlandsModel", "takes", "(I)V"⟩, 14) := ⟨⟨by decide +kernel, by decide +kernel⟩, List.mem_of_getElem? (i := 560) (by decide +kernel), List.mem_of_getElem? (i := 692) (by decide +kernel), List.mem_of_getElem? (i := 693) (by decide +kernel)⟩
theorem lw_p23 : lw_okq (⟨"DollGarlandsModel", "isOwnImage", "(I)Z"⟩, 14) := ⟨⟨by decide +kernel, by decide +kernel⟩, List.mem_of_getElem? (i := 560) (by decide +kernel), List.mem_of_getElem? (i := 704) (by decide +kernel), List.mem_of_getElem? (i := 705) (by decide +kernel)⟩
theorem lw_p24 : lw_okq (⟨"DollGarlandsModel", "isLike", "(IIZ)Z"⟩, 14) := ⟨⟨by decide +kernel, by decide +kernel⟩, List.mem_of_getElem? (i := 560) (by decide +kernel), List.mem_of_getElem? (i := 708) (by decide +kernel), List.mem_of_getElem? (i := 709) (by decide +kernel)⟩
theorem lw_p25 : lw_okq (⟨"DollGarlandsModel", "turnedDoll", "(II)I"⟩, 14) := ⟨⟨by decide +kernel, by decide +kernel⟩, List.mem_of_getElem? (i := 560) (by decide +kernel), List.mem_of_getElem? (i := 712) (by decide +kernel), List.mem_of_getElem? (i := 713) (by decide +kernel)⟩
theorem lw_p26 : lw_okq (⟨"DollGarlandsModel", "mirroredIn", "(I)I"⟩, 14) := ⟨⟨by decide +kernel, by decide +kernel⟩, List.mem_of_getElem? (i := 560) (by decide +kernel), List.mem_of_getElem? (i := 716) (by decide +kernel), List.mem_of_getElem? (i := 717) (by decide +kernel)⟩
theorem lw_p27 : lw_okq (⟨"DollGarlandsModel", "fault", "()I"⟩, 14) := ⟨⟨by decide +kernel, by decide +kernel⟩, List.mem_of_getElem? (i := 560) (by decide +kernel), List.mem_of_getElem? (i := 740) (by decide +kernel), List.mem_of_getElem? (i := 741) (by decide +kernel)⟩
theorem lw_p28 : lw_okq (⟨"DollGarlandsModel", "readsDoll", "()Z"⟩, 14) := ⟨⟨by decide +kernel, by decide +kernel⟩, List.mem_of_getElem? (i := 560) (by decide +kernel), List.mem_of_getElem? (i := 744) (by decide +kernel), List.mem_of_getElem? (i := 745) (by decide +kernel)⟩
theorem lw_p29 : lw_okq (⟨"DollGarlandsModel", "takesOne", "(I)Z"⟩, 14) := ⟨⟨by decide +kernel, by decide +kernel⟩, List.mem_of_getElem? (i := 560) (by decide +kernel), List.mem_of_getElem? (i := 750) (by decide +kernel), List.mem_of_getElem? (i := 751) (by decide +kernel)⟩
theorem lw_p30 : lw_okq (⟨"DollGarlandsModel", "wrong", "()I"⟩, 14) := ⟨⟨by decide +kernel, by decide +kernel⟩, List.mem_of_getElem? (i := 560) (by decide +kernel), List.mem_of_getElem? (i := 754) (by decide +kernel), List.mem_of_getElem? (i := 755) (by decide +kernel)⟩
theorem lw_p31 : lw_okq (⟨"DollGarlandsModel", "garlands", "()I"⟩, 14) := ⟨⟨by decide +kernel, by decide +kernel⟩, List.mem_of_getElem? (i := 560) (by decide +kernel), List.mem_of_getElem? (i := 766) (by decide +kernel), List.mem_of_getElem? (i := 767) (by decide +kernel)⟩
def lw_privs_2 : List (MethodName × Nat) := [(⟨"DollGarlandsModel", "records", "()V"⟩, 14), (⟨"DollGarlandsModel", "greatestKind", "()I"⟩, 14), (⟨"DollGarlandsModel", "freeNumber", "()I"⟩, 14), (⟨"DollGarlandsModel", "lays", "(III)V"⟩, 14), (⟨"DollGarlandsModel", "isGarland", "(I)Z"⟩, 14), (⟨"DollGarlandsModel", "last", "(I)I"⟩, 14), (⟨"DollGarlandsModel", "takes", "(I)V"⟩, 14), (⟨"DollGarlandsModel", "isOwnImage", "(I)Z"⟩, 14), (⟨"DollGarlandsModel", "isLike", "(IIZ)Z"⟩, 14), (⟨"DollGarlandsModel", "turnedDoll", "(II)I"⟩, 14), (⟨"DollGarlandsModel", "mirroredIn", "(I)I"⟩, 14), (⟨"DollGarlandsModel", "fault", "()I"⟩, 14), (⟨"DollGarlandsModel", "readsDoll", "()Z"⟩, 14), (⟨"DollGarlandsModel", "takesOne", "(I)Z"⟩, 14), (⟨"DollGarlandsModel", "wrong", "()I"⟩, 14), (⟨"DollGarlandsModel", "garlands", "()I"⟩, 14)]
theorem lw_r2 : ∀ q ∈ lw_privs_2, lw_okq q := List.forall_mem_cons.mpr ⟨lw_p16, List.forall_mem_cons.mpr ⟨lw_p17, List.forall_mem_cons.mpr ⟨lw_p18, List.forall_mem_cons.mpr ⟨lw_p19, List.forall_mem_cons.mpr ⟨lw_p20, List.forall_mem_cons.mpr ⟨lw_p21, List.forall_mem_cons.mpr ⟨lw_p22, List.forall_mem_cons.mpr ⟨lw_p23, List.forall_mem_cons.mpr ⟨lw_p24, List.forall_mem_cons.mpr ⟨lw_p25, List.forall_mem_cons.mpr ⟨lw_p26, List.forall_mem_cons.mpr ⟨lw_p27, List.forall_mem_cons.mpr ⟨lw_p28, List.forall_mem_cons.mpr ⟨lw_p29, List.forall_mem_cons.mpr ⟨lw_p30, List.forall_mem_cons.mpr ⟨lw_p31, fun _ h => absurd h List.not_mem_nil⟩⟩⟩⟩⟩⟩⟩⟩⟩⟩⟩⟩⟩⟩⟩⟩
theorem lw_p32 : lw_okq (⟨"DollGarlandsModel", "dollsOf", "(IZ)I"⟩, 14) := ⟨⟨by decide +kernel, by decide +kernel⟩, List.mem_of_getElem? (i := 560) (by decide +kernel), List.mem_of_getElem? (i := 778) (by decide +kernel), List.mem_of_getElem? (i := 779) (by decide +kernel)⟩
theorem lw_p33 : lw_okq (⟨"DollGarlandsModel", "kindsIn", "(I)I"⟩, 14) := ⟨⟨by decide +kernel, by decide +kernel⟩, List.mem_of_getElem? (i := 560) (by decide +kernel), List.mem_of_getElem? (i := 786) (by decide +kernel), List.mem_of_getElem? (i := 787) (by decide +kernel)⟩
theorem lw_p34 : lw_okq (⟨"DollGarlandsModel", "repeatOf", "(I)I"⟩, 14) := ⟨⟨by decide +kernel, by decide +kernel⟩, List.mem_of_getElem? (i := 560) (by decide +kernel), List.mem_of_getElem? (i := 790) (by decide +kernel), List.mem_of_getElem? (i := 791) (by decide +kernel)⟩
theorem lw_p35 : lw_okq (⟨"DollGarlandsModel", "firstLike", "(I)I"⟩, 14) := ⟨⟨by decide +kernel, by decide +kernel⟩, List.mem_of_getElem? (i := 560) (by decide +kernel), List.mem_of_getElem? (i := 794) (by decide +kernel), List.mem_of_getElem? (i := 795) (by decide +kernel)⟩
theorem lw_p36 : lw_okq (⟨"DollGarlandsModel", "allOf", "(I)I"⟩, 14) := ⟨⟨by decide +kernel, by decide +kernel⟩, List.mem_of_getElem? (i := 560) (by decide +kernel), List.mem_of_getElem? (i := 815) (by decide +kernel), List.mem_of_getElem? (i := 816) (by decide +kernel)⟩
theorem lw_p37 : lw_okq (⟨"DollGarlandsModel", "counts", "(I)V"⟩, 14) := ⟨⟨by decide +kernel, by decide +kernel⟩, List.mem_of_getElem? (i := 560) (by decide +kernel), List.mem_of_getElem? (i := 819) (by decide +kernel), List.mem_of_getElem? (i := 820) (by decide +kernel)⟩
theorem lw_p38 : lw_okq (⟨"DollGarlandsModel", "ownImages", "(I)I"⟩, 14) := ⟨⟨by decide +kernel, by decide +kernel⟩, List.mem_of_getElem? (i := 560) (by decide +kernel), List.mem_of_getElem? (i := 823) (by decide +kernel), List.mem_of_getElem? (i := 824) (by decide +kernel)⟩
theorem lw_p39 : lw_okq (⟨"DollGarlandsModel", "over", "(I)I"⟩, 14) := ⟨⟨by decide +kernel, by decide +kernel⟩, List.mem_of_getElem? (i := 560) (by decide +kernel), List.mem_of_getElem? (i := 835) (by decide +kernel), List.mem_of_getElem? (i := 836) (by decide +kernel)⟩
theorem lw_p40 : lw_okq (⟨"DollGarlandsModel", "meeting", "(I)I"⟩, 14) := ⟨⟨by decide +kernel, by decide +kernel⟩, List.mem_of_getElem? (i := 560) (by decide +kernel), List.mem_of_getElem? (i := 839) (by decide +kernel), List.mem_of_getElem? (i := 840) (by decide +kernel)⟩
def lw_privs_3 : List (MethodName × Nat) := [(⟨"DollGarlandsModel", "dollsOf", "(IZ)I"⟩, 14), (⟨"DollGarlandsModel", "kindsIn", "(I)I"⟩, 14), (⟨"DollGarlandsModel", "repeatOf", "(I)I"⟩, 14), (⟨"DollGarlandsModel", "firstLike", "(I)I"⟩, 14), (⟨"DollGarlandsModel", "allOf", "(I)I"⟩, 14), (⟨"DollGarlandsModel", "counts", "(I)V"⟩, 14), (⟨"DollGarlandsModel", "ownImages", "(I)I"⟩, 14), (⟨"DollGarlandsModel", "over", "(I)I"⟩, 14), (⟨"DollGarlandsModel", "meeting", "(I)I"⟩, 14)]
theorem lw_r3 : ∀ q ∈ lw_privs_3, lw_okq q := List.forall_mem_cons.mpr ⟨lw_p32, List.forall_mem_cons.mpr ⟨lw_p33, List.forall_mem_cons.mpr ⟨lw_p34, List.forall_mem_cons.mpr ⟨lw_p35, List.forall_mem_cons.mpr ⟨lw_p36, List.forall_mem_cons.mpr ⟨lw_p37, List.forall_mem_cons.mpr ⟨lw_p38, List.forall_mem_cons.mpr ⟨lw_p39, List.forall_mem_cons.mpr ⟨lw_p40, fun _ h => absurd h List.not_mem_nil⟩⟩⟩⟩⟩⟩⟩⟩⟩
def lw_privs : List (MethodName × Nat) := lw_privs_1 ++ (lw_privs_2 ++ (lw_privs_3))
def lw_tbl : List Cond := k2_sels lw_privs ++ tables_1
theorem lw_privs_ok : ∀ q ∈ lw_privs, lw_okq q := by
  show ∀ q ∈ lw_privs_1 ++ (lw_privs_2 ++ (lw_privs_3)), lw_okq q
  exact List.forall_mem_append.mpr ⟨lw_r1, List.forall_mem_append.mpr ⟨lw_r2, lw_r3⟩⟩
end
section
/-! ===== BEGIN words of one list among another's, by their places ===== -/
theorem goodIn_r {big : List Cond} (ws : List Cond) (ps : List Nat) (hp : ws = ps.filterMap (fun i => big[i]?)) (h : ws.all goodWord = true) : GoodIn big ws := by
  intro w hw
  have h1 := List.all_eq_true.mp h w hw
  rw [hp] at hw
  obtain ⟨i, -, hi⟩ := List.mem_filterMap.mp hw
  have hm : w ∈ big := by first | exact List.mem_of_getElem? hi | exact List.getElem?_mem hi
  exact ⟨hm, good_of_word h1⟩
theorem goodIn_app {big a b : List Cond} (ha : GoodIn big a) (hb : GoodIn big b) : GoodIn big (a ++ b) := fun w h => (List.mem_append.mp h).elim (ha w) (hb w)
theorem goodIn_ca {big a b : List Cond} {c : Cond} (ha : GoodIn big (c :: a)) (hb : GoodIn big b) : GoodIn big (c :: (a ++ b)) := fun w h => (List.mem_cons.mp h).elim (fun e => ha w (List.mem_cons.mpr (Or.inl e))) (fun h => (List.mem_append.mp h).elim (fun h => ha w (List.mem_cons.mpr (Or.inr h))) (hb w))
theorem goodIn_sub {big ws : List Cond} (hm : ∀ w ∈ ws, w ∈ big) (h : ws.all goodWord = true) : GoodIn big ws := fun w hw => ⟨hm w hw, good_of_word (List.all_eq_true.mp h w hw)⟩
/-! ===== END ===== -/

/-! ===== BEGIN printed: names, fields, word lists, decode rows ===== -/
def RX0 : String := "DollGarlands$Chains"
def TX0 : u_T := fun k => match k with
  | 0 => ("DollGarlands$Chains", "table", "LDollGarlands$Table;", true)
  | 1 => ("DollGarlands$Chains", "followers", "LDollGarlands$Row;", true)
  | 2 => ("DollGarlands$Chains", "endings", "LDollGarlands$Row;", true)
  | _ => ("DollGarlands$Chains", "longer", "LDollGarlands$Row;", true)
def tyX0 : Nat → FieldType := fun k => match k with
  | 0 => .object "DollGarlands$Table"
  | 1 => .object "DollGarlands$Row"
  | 2 => .object "DollGarlands$Row"
  | _ => .object "DollGarlands$Row"
abbrev wsX00 : List Cond := u_ws RX0 TX0 4
theorem nmX0 : ∀ a, a < 4 → ∀ b, b < 4 → a ≠ b → (TX0 a).2.1 ≠ (TX0 b).2.1 := by decide +kernel
theorem tyX0_ok : ∀ k, k < 4 → parseFieldDescriptor (TX0 k).2.2.1 = some (tyX0 k) := by decide +kernel
abbrev cX0_init : ByteArray := prog_2_method_1_code
def yX0_init : MethodName := ⟨RX0, "<init>", "(LDollGarlands$Table;)V"⟩
abbrev cX0_holds : ByteArray := prog_2_method_2_code
def yX0_holds : MethodName := ⟨RX0, "holds", "(II)Z"⟩
abbrev cX0_followersOf : ByteArray := prog_2_method_3_code
def yX0_followersOf : MethodName := ⟨RX0, "followersOf", "(I)I"⟩
abbrev cX0_leadersOf : ByteArray := prog_2_method_4_code
def yX0_leadersOf : MethodName := ⟨RX0, "leadersOf", "(I)I"⟩
abbrev cX0_followersOfAny : ByteArray := prog_2_method_5_code
def yX0_followersOfAny : MethodName := ⟨RX0, "followersOfAny", "(I)I"⟩
abbrev cX0_fewestBetween : ByteArray := prog_2_method_6_code
def yX0_fewestBetween : MethodName := ⟨RX0, "fewestBetween", "(II)I"⟩
abbrev cX0_countEndings : ByteArray := prog_2_method_7_code
def yX0_countEndings : MethodName := ⟨RX0, "countEndings", "(I)V"⟩
abbrev cX0_endingsAheadOf : ByteArray := prog_2_method_8_code
def yX0_endingsAheadOf : MethodName := ⟨RX0, "endingsAheadOf", "(I)I"⟩
abbrev cX0_garlandsOf : ByteArray := prog_2_method_9_code
def yX0_garlandsOf : MethodName := ⟨RX0, "garlandsOf", "(I)I"⟩
abbrev cX0_ownMirrorsOf : ByteArray := prog_2_method_10_code
def yX0_ownMirrorsOf : MethodName := ⟨RX0, "ownMirrorsOf", "(I)I"⟩
def RX1 : String := "DollGarlands$History"
def TX1 : u_T := fun k => match k with
  | 0 => ("DollGarlands$History", "states", "LDollGarlands$Row;", true)
  | 1 => ("DollGarlands$History", "oldest", "I", false)
  | _ => ("DollGarlands$History", "recorded", "I", false)
def tyX1 : Nat → FieldType := fun k => match k with
  | 0 => .object "DollGarlands$Row"
  | 1 => .int
  | _ => .int
abbrev wsX10 : List Cond := u_ws RX1 TX1 3
theorem nmX1 : ∀ a, a < 3 → ∀ b, b < 3 → a ≠ b → (TX1 a).2.1 ≠ (TX1 b).2.1 := by decide +kernel
theorem tyX1_ok : ∀ k, k < 3 → parseFieldDescriptor (TX1 k).2.2.1 = some (tyX1 k) := by decide +kernel
abbrev cX1_init : ByteArray := prog_3_method_1_code
def yX1_init : MethodName := ⟨RX1, "<init>", "()V"⟩
abbrev cX1_size : ByteArray := prog_3_method_2_code
def yX1_size : MethodName := ⟨RX1, "size", "()I"⟩
abbrev cX1_cellOf : ByteArray := prog_3_method_3_code
def yX1_cellOf : MethodName := ⟨RX1, "cellOf", "(I)I"⟩
abbrev cX1_remember : ByteArray := prog_3_method_4_code
def yX1_remember : MethodName := ⟨RX1, "remember", "(LDollGarlands$Table;)V"⟩
abbrev cX1_goBack : ByteArray := prog_3_method_5_code
def yX1_goBack : MethodName := ⟨RX1, "goBack", "(LDollGarlands$Table;)V"⟩
def RX2 : String := "DollGarlands$Looks"
def TX2 : u_T := fun k => match k with
  | _ => ("DollGarlands$Looks", "table", "LDollGarlands$Table;", true)
def tyX2 : Nat → FieldType := fun k => match k with
  | _ => .object "DollGarlands$Table"
abbrev wsX20 : List Cond := u_ws RX2 TX2 1
theorem nmX2 : ∀ a, a < 1 → ∀ b, b < 1 → a ≠ b → (TX2 a).2.1 ≠ (TX2 b).2.1 := by decide +kernel
theorem tyX2_ok : ∀ k, k < 1 → parseFieldDescriptor (TX2 k).2.2.1 = some (tyX2 k) := by decide +kernel
abbrev cX2_init : ByteArray := prog_4_method_1_code
def yX2_init : MethodName := ⟨RX2, "<init>", "(LDollGarlands$Table;)V"⟩
abbrev cX2_mirroredIn : ByteArray := prog_4_method_2_code
def yX2_mirroredIn : MethodName := ⟨RX2, "mirroredIn", "(I)I"⟩
abbrev cX2_kindsIn : ByteArray := prog_4_method_3_code
def yX2_kindsIn : MethodName := ⟨RX2, "kindsIn", "(I)I"⟩
abbrev cX2_isSame : ByteArray := prog_4_method_4_code
def yX2_isSame : MethodName := ⟨RX2, "isSame", "(II)Z"⟩
abbrev cX2_isMirror : ByteArray := prog_4_method_5_code
def yX2_isMirror : MethodName := ⟨RX2, "isMirror", "(II)Z"⟩
abbrev cX2_isOwnMirror : ByteArray := prog_4_method_6_code
def yX2_isOwnMirror : MethodName := ⟨RX2, "isOwnMirror", "(I)Z"⟩
abbrev cX2_repeatsAfter : ByteArray := prog_4_method_7_code
def yX2_repeatsAfter : MethodName := ⟨RX2, "repeatsAfter", "(II)Z"⟩
abbrev cX2_repeatOf : ByteArray := prog_4_method_8_code
def yX2_repeatOf : MethodName := ⟨RX2, "repeatOf", "(I)I"⟩
abbrev cX2_lowestAlike : ByteArray := prog_4_method_9_code
def yX2_lowestAlike : MethodName := ⟨RX2, "lowestAlike", "(I)I"⟩
abbrev cX2_highestKind : ByteArray := prog_4_method_10_code
def yX2_highestKind : MethodName := ⟨RX2, "highestKind", "()I"⟩
abbrev cX2_dollsLike : ByteArray := prog_4_method_11_code
def yX2_dollsLike : MethodName := ⟨RX2, "dollsLike", "(I)I"⟩
abbrev cX2_garlands : ByteArray := prog_4_method_12_code
def yX2_garlands : MethodName := ⟨RX2, "garlands", "()I"⟩
abbrev cX2_dolls : ByteArray := prog_4_method_13_code
def yX2_dolls : MethodName := ⟨RX2, "dolls", "()I"⟩
abbrev cX2_mirroredDolls : ByteArray := prog_4_method_14_code
def yX2_mirroredDolls : MethodName := ⟨RX2, "mirroredDolls", "()I"⟩
abbrev cX2_ownMirrors : ByteArray := prog_4_method_15_code
def yX2_ownMirrors : MethodName := ⟨RX2, "ownMirrors", "()I"⟩
abbrev cX2_handsThatMeet : ByteArray := prog_4_method_16_code
def yX2_handsThatMeet : MethodName := ⟨RX2, "handsThatMeet", "()I"⟩
abbrev cX2_differentGarlands : ByteArray := prog_4_method_17_code
def yX2_differentGarlands : MethodName := ⟨RX2, "differentGarlands", "()I"⟩
def RX3 : String := "DollGarlands$Row"
def TX3 : u_T := fun k => match k with
  | _ => ("DollGarlands$Row", "cells", "[I", true)
def tyX3 : Nat → FieldType := fun k => match k with
  | _ => .array .int
abbrev wsX30 : List Cond := u_ws RX3 TX3 1
theorem nmX3 : ∀ a, a < 1 → ∀ b, b < 1 → a ≠ b → (TX3 a).2.1 ≠ (TX3 b).2.1 := by decide +kernel
theorem tyX3_ok : ∀ k, k < 1 → parseFieldDescriptor (TX3 k).2.2.1 = some (tyX3 k) := by decide +kernel
abbrev cX3_init : ByteArray := prog_5_method_1_code
def yX3_init : MethodName := ⟨RX3, "<init>", "(I)V"⟩
abbrev cX3_at : ByteArray := prog_5_method_2_code
def yX3_at : MethodName := ⟨RX3, "at", "(I)I"⟩
abbrev cX3_put : ByteArray := prog_5_method_3_code
def yX3_put : MethodName := ⟨RX3, "put", "(II)V"⟩
abbrev cX3_copyFrom : ByteArray := prog_5_method_4_code
def yX3_copyFrom : MethodName := ⟨RX3, "copyFrom", "(LDollGarlands$Row;III)V"⟩
def RX4 : String := "DollGarlands$Table"
def TX4 : u_T := fun k => match k with
  | _ => ("DollGarlands$Table", "cells", "LDollGarlands$Row;", true)
def tyX4 : Nat → FieldType := fun k => match k with
  | _ => .object "DollGarlands$Row"
abbrev wsX40 : List Cond := u_ws RX4 TX4 1
theorem nmX4 : ∀ a, a < 1 → ∀ b, b < 1 → a ≠ b → (TX4 a).2.1 ≠ (TX4 b).2.1 := by decide +kernel
theorem tyX4_ok : ∀ k, k < 1 → parseFieldDescriptor (TX4 k).2.2.1 = some (tyX4 k) := by decide +kernel
abbrev cX4_init : ByteArray := prog_6_method_1_code
def yX4_init : MethodName := ⟨RX4, "<init>", "()V"⟩
abbrev cX4_saveTo : ByteArray := prog_6_method_2_code
def yX4_saveTo : MethodName := ⟨RX4, "saveTo", "(LDollGarlands$Row;I)V"⟩
abbrev cX4_loadFrom : ByteArray := prog_6_method_3_code
def yX4_loadFrom : MethodName := ⟨RX4, "loadFrom", "(LDollGarlands$Row;I)V"⟩
abbrev cX4_ruleNow : ByteArray := prog_6_method_4_code
def yX4_ruleNow : MethodName := ⟨RX4, "ruleNow", "()I"⟩
abbrev cX4_putRule : ByteArray := prog_6_method_5_code
def yX4_putRule : MethodName := ⟨RX4, "putRule", "(I)V"⟩
abbrev cX4_kindsNow : ByteArray := prog_6_method_6_code
def yX4_kindsNow : MethodName := ⟨RX4, "kindsNow", "()I"⟩
abbrev cX4_putKinds : ByteArray := prog_6_method_7_code
def yX4_putKinds : MethodName := ⟨RX4, "putKinds", "(I)V"⟩
abbrev cX4_dollsToCut : ByteArray := prog_6_method_8_code
def yX4_dollsToCut : MethodName := ⟨RX4, "dollsToCut", "()I"⟩
abbrev cX4_hasKind : ByteArray := prog_6_method_9_code
def yX4_hasKind : MethodName := ⟨RX4, "hasKind", "(I)Z"⟩
abbrev cX4_leftHand : ByteArray := prog_6_method_10_code
def yX4_leftHand : MethodName := ⟨RX4, "leftHand", "(I)I"⟩
abbrev cX4_rightHand : ByteArray := prog_6_method_11_code
def yX4_rightHand : MethodName := ⟨RX4, "rightHand", "(I)I"⟩
abbrev cX4_putHands : ByteArray := prog_6_method_12_code
def yX4_putHands : MethodName := ⟨RX4, "putHands", "(III)V"⟩
abbrev cX4_leftOf : ByteArray := prog_6_method_13_code
def yX4_leftOf : MethodName := ⟨RX4, "leftOf", "(I)I"⟩
abbrev cX4_rightOf : ByteArray := prog_6_method_14_code
def yX4_rightOf : MethodName := ⟨RX4, "rightOf", "(I)I"⟩
abbrev cX4_lengthOf : ByteArray := prog_6_method_15_code
def yX4_lengthOf : MethodName := ⟨RX4, "lengthOf", "(I)I"⟩
abbrev cX4_putLength : ByteArray := prog_6_method_16_code
def yX4_putLength : MethodName := ⟨RX4, "putLength", "(II)V"⟩
abbrev cX4_hasGarland : ByteArray := prog_6_method_17_code
def yX4_hasGarland : MethodName := ⟨RX4, "hasGarland", "(I)Z"⟩
abbrev cX4_freeNumber : ByteArray := prog_6_method_18_code
def yX4_freeNumber : MethodName := ⟨RX4, "freeNumber", "()I"⟩
abbrev cX4_cellOf : ByteArray := prog_6_method_19_code
def yX4_cellOf : MethodName := ⟨RX4, "cellOf", "(II)I"⟩
abbrev cX4_dollAt : ByteArray := prog_6_method_20_code
def yX4_dollAt : MethodName := ⟨RX4, "dollAt", "(II)I"⟩
abbrev cX4_firstDoll : ByteArray := prog_6_method_21_code
def yX4_firstDoll : MethodName := ⟨RX4, "firstDoll", "(I)I"⟩
abbrev cX4_lastDoll : ByteArray := prog_6_method_22_code
def yX4_lastDoll : MethodName := ⟨RX4, "lastDoll", "(I)I"⟩
abbrev cX4_putDoll : ByteArray := prog_6_method_23_code
def yX4_putDoll : MethodName := ⟨RX4, "putDoll", "(III)V"⟩
abbrev cX4_copyDolls : ByteArray := prog_6_method_24_code
def yX4_copyDolls : MethodName := ⟨RX4, "copyDolls", "(IIIII)V"⟩
abbrev cX4_hangUp : ByteArray := prog_6_method_25_code
def yX4_hangUp : MethodName := ⟨RX4, "hangUp", "(ILDollGarlands$Row;I)V"⟩
abbrev cX4_turnRound : ByteArray := prog_6_method_26_code
def yX4_turnRound : MethodName := ⟨RX4, "turnRound", "(I)V"⟩
abbrev cX4_foldOut : ByteArray := prog_6_method_27_code
def yX4_foldOut : MethodName := ⟨RX4, "foldOut", "(I)V"⟩
abbrev cX4_clash : ByteArray := prog_6_method_28_code
def yX4_clash : MethodName := ⟨RX4, "clash", "(II)Z"⟩
abbrev cX4_hasClashIn : ByteArray := prog_6_method_29_code
def yX4_hasClashIn : MethodName := ⟨RX4, "hasClashIn", "(LDollGarlands$Row;II)Z"⟩
abbrev cX4_hasClash : ByteArray := prog_6_method_30_code
def yX4_hasClash : MethodName := ⟨RX4, "hasClash", "()Z"⟩
abbrev cX4_hasKindsOf : ByteArray := prog_6_method_31_code
def yX4_hasKindsOf : MethodName := ⟨RX4, "hasKindsOf", "(LDollGarlands$Row;I)Z"⟩
def RX5 : String := "DollGarlands$Text"
def TX5 : u_T := fun k => match k with
  | 0 => ("DollGarlands$Text", "characters", "LDollGarlands$Row;", true)
  | _ => ("DollGarlands$Text", "length", "I", false)
def tyX5 : Nat → FieldType := fun k => match k with
  | 0 => .object "DollGarlands$Row"
  | _ => .int
abbrev wsX50 : List Cond := u_ws RX5 TX5 2
theorem nmX5 : ∀ a, a < 2 → ∀ b, b < 2 → a ≠ b → (TX5 a).2.1 ≠ (TX5 b).2.1 := by decide +kernel
theorem tyX5_ok : ∀ k, k < 2 → parseFieldDescriptor (TX5 k).2.2.1 = some (tyX5 k) := by decide +kernel
abbrev cX5_init : ByteArray := prog_7_method_1_code
def yX5_init : MethodName := ⟨RX5, "<init>", "()V"⟩
abbrev cX5_size : ByteArray := prog_7_method_2_code
def yX5_size : MethodName := ⟨RX5, "size", "()I"⟩
abbrev cX5_isFull : ByteArray := prog_7_method_3_code
def yX5_isFull : MethodName := ⟨RX5, "isFull", "()Z"⟩
abbrev cX5_add : ByteArray := prog_7_method_4_code
def yX5_add : MethodName := ⟨RX5, "add", "(C)I"⟩
abbrev cX5_empty : ByteArray := prog_7_method_5_code
def yX5_empty : MethodName := ⟨RX5, "empty", "()I"⟩
abbrev cX5_isDigit : ByteArray := prog_7_method_6_code
def yX5_isDigit : MethodName := ⟨RX5, "isDigit", "(I)Z"⟩
abbrev cX5_fault : ByteArray := prog_7_method_7_code
def yX5_fault : MethodName := ⟨RX5, "fault", "()I"⟩
abbrev cX5_spellDolls : ByteArray := prog_7_method_8_code
def yX5_spellDolls : MethodName := ⟨RX5, "spellDolls", "(LDollGarlands$Row;)I"⟩
def RX6 : String := "DollGarlands"
def TX6 : u_T := fun k => match k with
  | 0 => ("DollGarlands", "table", "LDollGarlands$Table;", true)
  | 1 => ("DollGarlands", "looks", "LDollGarlands$Looks;", true)
  | 2 => ("DollGarlands", "chains", "LDollGarlands$Chains;", true)
  | 3 => ("DollGarlands", "history", "LDollGarlands$History;", true)
  | 4 => ("DollGarlands", "text", "LDollGarlands$Text;", true)
  | 5 => ("DollGarlands", "snapshot", "LDollGarlands$Row;", true)
  | 6 => ("DollGarlands", "bench", "LDollGarlands$Row;", true)
  | _ => ("DollGarlands", "hasSnapshot", "Z", false)
def tyX6 : Nat → FieldType := fun k => match k with
  | 0 => .object "DollGarlands$Table"
  | 1 => .object "DollGarlands$Looks"
  | 2 => .object "DollGarlands$Chains"
  | 3 => .object "DollGarlands$History"
  | 4 => .object "DollGarlands$Text"
  | 5 => .object "DollGarlands$Row"
  | 6 => .object "DollGarlands$Row"
  | _ => .boolean
abbrev wsX60 : List Cond := u_ws RX6 TX6 8
theorem nmX6 : ∀ a, a < 8 → ∀ b, b < 8 → a ≠ b → (TX6 a).2.1 ≠ (TX6 b).2.1 := by decide +kernel
theorem tyX6_ok : ∀ k, k < 8 → parseFieldDescriptor (TX6 k).2.2.1 = some (tyX6 k) := by decide +kernel
abbrev cX6_init : ByteArray := prog_1_method_1_code
def yX6_init : MethodName := ⟨RX6, "<init>", "()V"⟩
abbrev cX6_setHands : ByteArray := prog_1_method_2_code
def yX6_setHands : MethodName := ⟨RX6, "setHands", "(III)I"⟩
abbrev cX6_setRule : ByteArray := prog_1_method_3_code
def yX6_setRule : MethodName := ⟨RX6, "setRule", "(I)I"⟩
abbrev cX6_setKinds : ByteArray := prog_1_method_4_code
def yX6_setKinds : MethodName := ⟨RX6, "setKinds", "(I)I"⟩
abbrev cX6_cutDoll : ByteArray := prog_1_method_5_code
def yX6_cutDoll : MethodName := ⟨RX6, "cutDoll", "(IZ)I"⟩
abbrev cX6_join : ByteArray := prog_1_method_6_code
def yX6_join : MethodName := ⟨RX6, "join", "(II)I"⟩
abbrev cX6_cutApart : ByteArray := prog_1_method_7_code
def yX6_cutApart : MethodName := ⟨RX6, "cutApart", "(II)I"⟩
abbrev cX6_turn : ByteArray := prog_1_method_8_code
def yX6_turn : MethodName := ⟨RX6, "turn", "(I)I"⟩
abbrev cX6_fold : ByteArray := prog_1_method_9_code
def yX6_fold : MethodName := ⟨RX6, "fold", "(I)I"⟩
abbrev cX6_takeAway : ByteArray := prog_1_method_10_code
def yX6_takeAway : MethodName := ⟨RX6, "takeAway", "(I)I"⟩
abbrev cX6_type : ByteArray := prog_1_method_11_code
def yX6_type : MethodName := ⟨RX6, "type", "(C)I"⟩
abbrev cX6_clearText : ByteArray := prog_1_method_12_code
def yX6_clearText : MethodName := ⟨RX6, "clearText", "()I"⟩
abbrev cX6_readGarland : ByteArray := prog_1_method_13_code
def yX6_readGarland : MethodName := ⟨RX6, "readGarland", "()I"⟩
abbrev cX6_undo : ByteArray := prog_1_method_14_code
def yX6_undo : MethodName := ⟨RX6, "undo", "()I"⟩
abbrev cX6_keep : ByteArray := prog_1_method_15_code
def yX6_keep : MethodName := ⟨RX6, "keep", "()I"⟩
abbrev cX6_restore : ByteArray := prog_1_method_16_code
def yX6_restore : MethodName := ⟨RX6, "restore", "()I"⟩
abbrev cX6_kind : ByteArray := prog_1_method_17_code
def yX6_kind : MethodName := ⟨RX6, "kind", "(II)I"⟩
abbrev cX6_garland : ByteArray := prog_1_method_18_code
def yX6_garland : MethodName := ⟨RX6, "garland", "(II)I"⟩
abbrev cX6_doll : ByteArray := prog_1_method_19_code
def yX6_doll : MethodName := ⟨RX6, "doll", "(III)I"⟩
abbrev cX6_reason : ByteArray := prog_1_method_20_code
def yX6_reason : MethodName := ⟨RX6, "reason", "(II)I"⟩
abbrev cX6_between : ByteArray := prog_1_method_21_code
def yX6_between : MethodName := ⟨RX6, "between", "(II)I"⟩
abbrev cX6_ways : ByteArray := prog_1_method_22_code
def yX6_ways : MethodName := ⟨RX6, "ways", "(II)I"⟩
abbrev cX6_longest : ByteArray := prog_1_method_23_code
def yX6_longest : MethodName := ⟨RX6, "longest", "()I"⟩
abbrev cX6_count : ByteArray := prog_1_method_24_code
def yX6_count : MethodName := ⟨RX6, "count", "(I)I"⟩
abbrev cX6_isBelow : ByteArray := prog_1_method_25_code
def yX6_isBelow : MethodName := ⟨RX6, "isBelow", "(II)Z"⟩
abbrev cX6_oneIf : ByteArray := prog_1_method_26_code
def yX6_oneIf : MethodName := ⟨RX6, "oneIf", "(Z)I"⟩
abbrev cX6_dollOf : ByteArray := prog_1_method_27_code
def yX6_dollOf : MethodName := ⟨RX6, "dollOf", "(IZ)I"⟩
abbrev cX6_kindOf : ByteArray := prog_1_method_28_code
def yX6_kindOf : MethodName := ⟨RX6, "kindOf", "(I)I"⟩
abbrev cX6_isMirrored : ByteArray := prog_1_method_29_code
def yX6_isMirrored : MethodName := ⟨RX6, "isMirrored", "(I)Z"⟩
abbrev cX6_mirrorOf : ByteArray := prog_1_method_30_code
def yX6_mirrorOf : MethodName := ⟨RX6, "mirrorOf", "(I)I"⟩
def RX7 : String := "DollGarlandsModel"
def TX7 : u_T := fun k => match k with
  | 0 => ("DollGarlandsModel", "all", "[I", true)
  | 1 => ("DollGarlandsModel", "kept", "[I", true)
  | 2 => ("DollGarlandsModel", "history", "[I", true)
  | 3 => ("DollGarlandsModel", "historyLong", "I", false)
  | 4 => ("DollGarlandsModel", "snapshot", "[I", true)
  | 5 => ("DollGarlandsModel", "isKept", "I", false)
  | 6 => ("DollGarlandsModel", "row", "[I", true)
  | 7 => ("DollGarlandsModel", "text", "[I", true)
  | 8 => ("DollGarlandsModel", "textLong", "I", false)
  | 9 => ("DollGarlandsModel", "spot", "I", false)
  | 10 => ("DollGarlandsModel", "read", "I", false)
  | 11 => ("DollGarlandsModel", "far", "[I", true)
  | 12 => ("DollGarlandsModel", "ending", "[I", true)
  | _ => ("DollGarlandsModel", "longer", "[I", true)
def tyX7 : Nat → FieldType := fun k => match k with
  | 0 => .array .int
  | 1 => .array .int
  | 2 => .array .int
  | 3 => .int
  | 4 => .array .int
  | 5 => .int
  | 6 => .array .int
  | 7 => .array .int
  | 8 => .int
  | 9 => .int
  | 10 => .int
  | 11 => .array .int
  | 12 => .array .int
  | _ => .array .int
abbrev wsX70 : List Cond := u_ws RX7 TX7 14
theorem nmX7 : ∀ a, a < 14 → ∀ b, b < 14 → a ≠ b → (TX7 a).2.1 ≠ (TX7 b).2.1 := by decide +kernel
theorem tyX7_ok : ∀ k, k < 14 → parseFieldDescriptor (TX7 k).2.2.1 = some (tyX7 k) := by decide +kernel
abbrev cX7_init : ByteArray := prog_9_method_1_code
def yX7_init : MethodName := ⟨RX7, "<init>", "()V"⟩
abbrev cX7_in : ByteArray := prog_9_method_3_code
def yX7_in : MethodName := ⟨RX7, "in", "(JJJ)Z"⟩
abbrev cX7_keeps : ByteArray := prog_9_method_4_code
def yX7_keeps : MethodName := ⟨RX7, "keeps", "()V"⟩
abbrev cX7_comesBack : ByteArray := prog_9_method_5_code
def yX7_comesBack : MethodName := ⟨RX7, "comesBack", "()V"⟩
abbrev cX7_records : ByteArray := prog_9_method_6_code
def yX7_records : MethodName := ⟨RX7, "records", "()V"⟩
abbrev cX7_ends : ByteArray := prog_9_method_7_code
def yX7_ends : MethodName := ⟨RX7, "ends", "(I)I"⟩
abbrev cX7_isKind : ByteArray := prog_9_method_8_code
def yX7_isKind : MethodName := ⟨RX7, "isKind", "(I)Z"⟩
abbrev cX7_handOf : ByteArray := prog_9_method_9_code
def yX7_handOf : MethodName := ⟨RX7, "handOf", "(II)I"⟩
abbrev cX7_clash : ByteArray := prog_9_method_10_code
def yX7_clash : MethodName := ⟨RX7, "clash", "(II)Z"⟩
abbrev cX7_isGarland : ByteArray := prog_9_method_11_code
def yX7_isGarland : MethodName := ⟨RX7, "isGarland", "(I)Z"⟩
abbrev cX7_dollAt : ByteArray := prog_9_method_12_code
def yX7_dollAt : MethodName := ⟨RX7, "dollAt", "(II)I"⟩
abbrev cX7_last : ByteArray := prog_9_method_13_code
def yX7_last : MethodName := ⟨RX7, "last", "(I)I"⟩
abbrev cX7_lays : ByteArray := prog_9_method_14_code
def yX7_lays : MethodName := ⟨RX7, "lays", "(III)V"⟩
abbrev cX7_freeNumber : ByteArray := prog_9_method_15_code
def yX7_freeNumber : MethodName := ⟨RX7, "freeNumber", "()I"⟩
abbrev cX7_anyClash : ByteArray := prog_9_method_16_code
def yX7_anyClash : MethodName := ⟨RX7, "anyClash", "()Z"⟩
abbrev cX7_turnedDoll : ByteArray := prog_9_method_17_code
def yX7_turnedDoll : MethodName := ⟨RX7, "turnedDoll", "(II)I"⟩
abbrev cX7_isLike : ByteArray := prog_9_method_18_code
def yX7_isLike : MethodName := ⟨RX7, "isLike", "(IIZ)Z"⟩
abbrev cX7_isOwnImage : ByteArray := prog_9_method_19_code
def yX7_isOwnImage : MethodName := ⟨RX7, "isOwnImage", "(I)Z"⟩
abbrev cX7_mirroredIn : ByteArray := prog_9_method_20_code
def yX7_mirroredIn : MethodName := ⟨RX7, "mirroredIn", "(I)I"⟩
abbrev cX7_takes : ByteArray := prog_9_method_21_code
def yX7_takes : MethodName := ⟨RX7, "takes", "(I)V"⟩
abbrev cX7_setHands : ByteArray := prog_9_method_22_code
def yX7_setHands : MethodName := ⟨RX7, "setHands", "(III)I"⟩
abbrev cX7_setRule : ByteArray := prog_9_method_23_code
def yX7_setRule : MethodName := ⟨RX7, "setRule", "(I)I"⟩
abbrev cX7_greatestKind : ByteArray := prog_9_method_24_code
def yX7_greatestKind : MethodName := ⟨RX7, "greatestKind", "()I"⟩
abbrev cX7_setKinds : ByteArray := prog_9_method_25_code
def yX7_setKinds : MethodName := ⟨RX7, "setKinds", "(I)I"⟩
abbrev cX7_cutDoll : ByteArray := prog_9_method_26_code
def yX7_cutDoll : MethodName := ⟨RX7, "cutDoll", "(IZ)I"⟩
abbrev cX7_join : ByteArray := prog_9_method_27_code
def yX7_join : MethodName := ⟨RX7, "join", "(II)I"⟩
abbrev cX7_cutApart : ByteArray := prog_9_method_28_code
def yX7_cutApart : MethodName := ⟨RX7, "cutApart", "(II)I"⟩
abbrev cX7_turn : ByteArray := prog_9_method_29_code
def yX7_turn : MethodName := ⟨RX7, "turn", "(I)I"⟩
abbrev cX7_fold : ByteArray := prog_9_method_30_code
def yX7_fold : MethodName := ⟨RX7, "fold", "(I)I"⟩
abbrev cX7_takeAway : ByteArray := prog_9_method_31_code
def yX7_takeAway : MethodName := ⟨RX7, "takeAway", "(I)I"⟩
abbrev cX7_type : ByteArray := prog_9_method_32_code
def yX7_type : MethodName := ⟨RX7, "type", "(C)I"⟩
abbrev cX7_clearText : ByteArray := prog_9_method_33_code
def yX7_clearText : MethodName := ⟨RX7, "clearText", "()I"⟩
abbrev cX7_takesOne : ByteArray := prog_9_method_34_code
def yX7_takesOne : MethodName := ⟨RX7, "takesOne", "(I)Z"⟩
abbrev cX7_readsDoll : ByteArray := prog_9_method_35_code
def yX7_readsDoll : MethodName := ⟨RX7, "readsDoll", "()Z"⟩
abbrev cX7_fault : ByteArray := prog_9_method_36_code
def yX7_fault : MethodName := ⟨RX7, "fault", "()I"⟩
abbrev cX7_wrong : ByteArray := prog_9_method_37_code
def yX7_wrong : MethodName := ⟨RX7, "wrong", "()I"⟩
abbrev cX7_readGarland : ByteArray := prog_9_method_38_code
def yX7_readGarland : MethodName := ⟨RX7, "readGarland", "()I"⟩
abbrev cX7_undo : ByteArray := prog_9_method_39_code
def yX7_undo : MethodName := ⟨RX7, "undo", "()I"⟩
abbrev cX7_garlands : ByteArray := prog_9_method_40_code
def yX7_garlands : MethodName := ⟨RX7, "garlands", "()I"⟩
abbrev cX7_keep : ByteArray := prog_9_method_41_code
def yX7_keep : MethodName := ⟨RX7, "keep", "()I"⟩
abbrev cX7_restore : ByteArray := prog_9_method_42_code
def yX7_restore : MethodName := ⟨RX7, "restore", "()I"⟩
abbrev cX7_dollsOf : ByteArray := prog_9_method_43_code
def yX7_dollsOf : MethodName := ⟨RX7, "dollsOf", "(IZ)I"⟩
abbrev cX7_kind : ByteArray := prog_9_method_44_code
def yX7_kind : MethodName := ⟨RX7, "kind", "(II)I"⟩
abbrev cX7_kindsIn : ByteArray := prog_9_method_45_code
def yX7_kindsIn : MethodName := ⟨RX7, "kindsIn", "(I)I"⟩
abbrev cX7_repeatOf : ByteArray := prog_9_method_46_code
def yX7_repeatOf : MethodName := ⟨RX7, "repeatOf", "(I)I"⟩
abbrev cX7_firstLike : ByteArray := prog_9_method_47_code
def yX7_firstLike : MethodName := ⟨RX7, "firstLike", "(I)I"⟩
abbrev cX7_garland : ByteArray := prog_9_method_48_code
def yX7_garland : MethodName := ⟨RX7, "garland", "(II)I"⟩
abbrev cX7_doll : ByteArray := prog_9_method_49_code
def yX7_doll : MethodName := ⟨RX7, "doll", "(III)I"⟩
abbrev cX7_reason : ByteArray := prog_9_method_50_code
def yX7_reason : MethodName := ⟨RX7, "reason", "(II)I"⟩
abbrev cX7_between : ByteArray := prog_9_method_51_code
def yX7_between : MethodName := ⟨RX7, "between", "(II)I"⟩
abbrev cX7_counts : ByteArray := prog_9_method_52_code
def yX7_counts : MethodName := ⟨RX7, "counts", "(I)V"⟩
abbrev cX7_allOf : ByteArray := prog_9_method_53_code
def yX7_allOf : MethodName := ⟨RX7, "allOf", "(I)I"⟩
abbrev cX7_ownImages : ByteArray := prog_9_method_54_code
def yX7_ownImages : MethodName := ⟨RX7, "ownImages", "(I)I"⟩
abbrev cX7_ways : ByteArray := prog_9_method_55_code
def yX7_ways : MethodName := ⟨RX7, "ways", "(II)I"⟩
abbrev cX7_longest : ByteArray := prog_9_method_56_code
def yX7_longest : MethodName := ⟨RX7, "longest", "()I"⟩
abbrev cX7_over : ByteArray := prog_9_method_57_code
def yX7_over : MethodName := ⟨RX7, "over", "(I)I"⟩
abbrev cX7_meeting : ByteArray := prog_9_method_58_code
def yX7_meeting : MethodName := ⟨RX7, "meeting", "(I)I"⟩
abbrev cX7_count : ByteArray := prog_9_method_59_code
def yX7_count : MethodName := ⟨RX7, "count", "(I)I"⟩
def RJ9 : String := "java/lang/Math"
def TJ9 : u_T := fun k => match k with
  | _ => ("", "", "", false)
def tyJ9 : Nat → FieldType := fun k => match k with
  | _ => .int
abbrev wsJ90 : List Cond := u_ws RJ9 TJ9 0
theorem nmJ9 : ∀ a, a < 0 → ∀ b, b < 0 → a ≠ b → (TJ9 a).2.1 ≠ (TJ9 b).2.1 := by decide +kernel
theorem tyJ9_ok : ∀ k, k < 0 → parseFieldDescriptor (TJ9 k).2.2.1 = some (tyJ9 k) := by decide +kernel
abbrev cJ9_max_7cf53 : ByteArray := prog_10_method_65_code
def yJ9_max_7cf53 : MethodName := ⟨RJ9, "max", "(II)I"⟩
def RJ10 : String := "java/lang/System"
def TJ10 : u_T := fun k => match k with
  | _ => ("", "", "", false)
def tyJ10 : Nat → FieldType := fun k => match k with
  | _ => .int
abbrev wsJ100 : List Cond := u_ws RJ10 TJ10 0
theorem nmJ10 : ∀ a, a < 0 → ∀ b, b < 0 → a ≠ b → (TJ10 a).2.1 ≠ (TJ10 b).2.1 := by decide +kernel
theorem tyJ10_ok : ∀ k, k < 0 → parseFieldDescriptor (TJ10 k).2.2.1 = some (tyJ10 k) := by decide +kernel
def RL : String := "DollGarlandsLaw"
abbrev cL_law : ByteArray := code
def yL_law : MethodName := ⟨RL, "law", "([I)Z"⟩
def wsX3_init : List Cond := .code yX3_init cX3_init 2 none :: ([.methodLink RX3 1 objectInit, .instanceMethod objectInit, .code objectInit ⟨#[0xb1]⟩ 1 none, .arrayClass .int, .fieldLink RX3 7 "DollGarlands$Row" "cells" "[I"] ++ wsX30)
def wsX0_init : List Cond := .code yX0_init cX0_init 2 none :: ([.methodLink RX0 3 objectInit, .instanceMethod objectInit, .code objectInit ⟨#[0xb1]⟩ 1 none, .fieldLink RX0 9 "DollGarlands$Chains" "table" "LDollGarlands$Table;", .classLink RX0 15 RX3, .instantiable RX3 1, .initialized RX3, .fieldLink RX0 20 "DollGarlands$Chains" "followers" "LDollGarlands$Row;", .fieldLink RX0 24 "DollGarlands$Chains" "endings" "LDollGarlands$Row;", .fieldLink RX0 27 "DollGarlands$Chains" "longer" "LDollGarlands$Row;", .methodLink RX0 17 yX3_init, .instanceMethod yX3_init, .code yX3_init cX3_init 2 none, .methodLink RX3 1 objectInit, .arrayClass .int, .fieldLink RX3 7 "DollGarlands$Row" "cells" "[I"] ++ wsX00 ++ wsX30)
def wsX0_holds : List Cond := .code yX0_holds cX0_holds 2 (some .boolean) :: ([])
def wsX3_at : List Cond := .code yX3_at cX3_at 2 (some .int) :: ([.fieldLink RX3 7 "DollGarlands$Row" "cells" "[I"] ++ wsX30)
def wsX4_kindsNow : List Cond := .code yX4_kindsNow cX4_kindsNow 1 (some .int) :: ([.fieldLink RX4 16 "DollGarlands$Table" "cells" "LDollGarlands$Row;", .methodLink RX4 28 yX3_at, .instanceMethod yX3_at, .selects RX3 yX3_at yX3_at, .initialized RX3, .code yX3_at cX3_at 2 (some .int), .fieldLink RX3 7 "DollGarlands$Row" "cells" "[I"] ++ wsX40 ++ wsX30)
def wsX4_dollsToCut : List Cond := .code yX4_dollsToCut cX4_dollsToCut 1 (some .int) :: ([.methodLink RX4 32 yX4_kindsNow, .instanceMethod yX4_kindsNow, .selects RX4 yX4_kindsNow yX4_kindsNow, .initialized RX4, .code yX4_kindsNow cX4_kindsNow 1 (some .int), .fieldLink RX4 16 "DollGarlands$Table" "cells" "LDollGarlands$Row;", .methodLink RX4 28 yX3_at, .instanceMethod yX3_at, .selects RX3 yX3_at yX3_at, .initialized RX3, .code yX3_at cX3_at 2 (some .int), .fieldLink RX3 7 "DollGarlands$Row" "cells" "[I"] ++ wsX40 ++ wsX30)
def wsX6_isMirrored : List Cond := .code yX6_isMirrored cX6_isMirrored 1 (some .boolean) :: ([])
def wsX6_kindOf : List Cond := .code yX6_kindOf cX6_kindOf 1 (some .int) :: ([])
def wsX4_rightOf : List Cond := .code yX4_rightOf cX4_rightOf 2 (some .int) :: ([.fieldLink RX4 16 "DollGarlands$Table" "cells" "LDollGarlands$Row;", .static yX6_isMirrored, .initialized RX6, .code yX6_isMirrored cX6_isMirrored 1 (some .boolean), .static yX6_kindOf, .code yX6_kindOf cX6_kindOf 1 (some .int), .methodLink RX4 28 yX3_at, .instanceMethod yX3_at, .selects RX3 yX3_at yX3_at, .initialized RX3, .code yX3_at cX3_at 2 (some .int), .fieldLink RX3 7 "DollGarlands$Row" "cells" "[I"] ++ wsX40 ++ wsX30)
def wsX4_leftOf : List Cond := .code yX4_leftOf cX4_leftOf 2 (some .int) :: ([.fieldLink RX4 16 "DollGarlands$Table" "cells" "LDollGarlands$Row;", .static yX6_isMirrored, .initialized RX6, .code yX6_isMirrored cX6_isMirrored 1 (some .boolean), .static yX6_kindOf, .code yX6_kindOf cX6_kindOf 1 (some .int), .methodLink RX4 28 yX3_at, .instanceMethod yX3_at, .selects RX3 yX3_at yX3_at, .initialized RX3, .code yX3_at cX3_at 2 (some .int), .fieldLink RX3 7 "DollGarlands$Row" "cells" "[I"] ++ wsX40 ++ wsX30)
def wsX4_ruleNow : List Cond := .code yX4_ruleNow cX4_ruleNow 1 (some .int) :: ([.fieldLink RX4 16 "DollGarlands$Table" "cells" "LDollGarlands$Row;", .methodLink RX4 28 yX3_at, .instanceMethod yX3_at, .selects RX3 yX3_at yX3_at, .initialized RX3, .code yX3_at cX3_at 2 (some .int), .fieldLink RX3 7 "DollGarlands$Row" "cells" "[I"] ++ wsX40 ++ wsX30)
def wsX4_clash_r1 : List Cond := [Cond.methodLink RX4 67 yX4_rightOf, Cond.instanceMethod yX4_rightOf, Cond.selects RX4 yX4_rightOf yX4_rightOf, Cond.initialized RX4, Cond.code yX4_rightOf cX4_rightOf 2 (some .int), Cond.fieldLink RX4 16 "DollGarlands$Table" "cells" "LDollGarlands$Row;", Cond.static yX6_isMirrored, Cond.initialized RX6, Cond.code yX6_isMirrored cX6_isMirrored 1 (some .boolean), Cond.static yX6_kindOf, Cond.code yX6_kindOf cX6_kindOf 1 (some .int), Cond.methodLink RX4 28 yX3_at, Cond.instanceMethod yX3_at, Cond.selects RX3 yX3_at yX3_at, Cond.initialized RX3, Cond.code yX3_at cX3_at 2 (some .int), Cond.fieldLink RX3 7 "DollGarlands$Row" "cells" "[I", Cond.methodLink RX4 70 yX4_leftOf, Cond.instanceMethod yX4_leftOf, Cond.selects RX4 yX4_leftOf yX4_leftOf, Cond.code yX4_leftOf cX4_leftOf 2 (some .int), Cond.methodLink RX4 73 yX4_ruleNow, Cond.instanceMethod yX4_ruleNow, Cond.selects RX4 yX4_ruleNow yX4_ruleNow]
def wsX4_clash_r2 : List Cond := [Cond.code yX4_ruleNow cX4_ruleNow 1 (some .int)]
def wsX4_clash : List Cond := .code yX4_clash cX4_clash 6 (some .boolean) :: ((wsX4_clash_r1 ++ wsX4_clash_r2) ++ wsX40 ++ wsX30)
def wsX0_followersOf_r1 : List Cond := [Cond.fieldLink RX0 9 "DollGarlands$Chains" "table" "LDollGarlands$Table;", Cond.methodLink RX0 30 yX4_dollsToCut, Cond.instanceMethod yX4_dollsToCut, Cond.selects RX4 yX4_dollsToCut yX4_dollsToCut, Cond.initialized RX4, Cond.code yX4_dollsToCut cX4_dollsToCut 1 (some .int), Cond.methodLink RX4 32 yX4_kindsNow, Cond.instanceMethod yX4_kindsNow, Cond.selects RX4 yX4_kindsNow yX4_kindsNow, Cond.code yX4_kindsNow cX4_kindsNow 1 (some .int), Cond.fieldLink RX4 16 "DollGarlands$Table" "cells" "LDollGarlands$Row;", Cond.methodLink RX4 28 yX3_at, Cond.instanceMethod yX3_at, Cond.selects RX3 yX3_at yX3_at, Cond.initialized RX3, Cond.code yX3_at cX3_at 2 (some .int), Cond.fieldLink RX3 7 "DollGarlands$Row" "cells" "[I", Cond.methodLink RX0 36 yX4_clash, Cond.instanceMethod yX4_clash, Cond.selects RX4 yX4_clash yX4_clash, Cond.code yX4_clash cX4_clash 6 (some .boolean), Cond.methodLink RX4 67 yX4_rightOf, Cond.instanceMethod yX4_rightOf, Cond.selects RX4 yX4_rightOf yX4_rightOf]
def wsX0_followersOf_r2 : List Cond := [Cond.code yX4_rightOf cX4_rightOf 2 (some .int), Cond.static yX6_isMirrored, Cond.initialized RX6, Cond.code yX6_isMirrored cX6_isMirrored 1 (some .boolean), Cond.static yX6_kindOf, Cond.code yX6_kindOf cX6_kindOf 1 (some .int), Cond.methodLink RX4 70 yX4_leftOf, Cond.instanceMethod yX4_leftOf, Cond.selects RX4 yX4_leftOf yX4_leftOf, Cond.code yX4_leftOf cX4_leftOf 2 (some .int), Cond.methodLink RX4 73 yX4_ruleNow, Cond.instanceMethod yX4_ruleNow, Cond.selects RX4 yX4_ruleNow yX4_ruleNow, Cond.code yX4_ruleNow cX4_ruleNow 1 (some .int)]
def wsX0_followersOf : List Cond := .code yX0_followersOf cX0_followersOf 5 (some .int) :: ((wsX0_followersOf_r1 ++ wsX0_followersOf_r2) ++ wsX00 ++ wsX40 ++ wsX30)
def wsX0_leadersOf_r1 : List Cond := [Cond.fieldLink RX0 9 "DollGarlands$Chains" "table" "LDollGarlands$Table;", Cond.methodLink RX0 30 yX4_dollsToCut, Cond.instanceMethod yX4_dollsToCut, Cond.selects RX4 yX4_dollsToCut yX4_dollsToCut, Cond.initialized RX4, Cond.code yX4_dollsToCut cX4_dollsToCut 1 (some .int), Cond.methodLink RX4 32 yX4_kindsNow, Cond.instanceMethod yX4_kindsNow, Cond.selects RX4 yX4_kindsNow yX4_kindsNow, Cond.code yX4_kindsNow cX4_kindsNow 1 (some .int), Cond.fieldLink RX4 16 "DollGarlands$Table" "cells" "LDollGarlands$Row;", Cond.methodLink RX4 28 yX3_at, Cond.instanceMethod yX3_at, Cond.selects RX3 yX3_at yX3_at, Cond.initialized RX3, Cond.code yX3_at cX3_at 2 (some .int), Cond.fieldLink RX3 7 "DollGarlands$Row" "cells" "[I", Cond.methodLink RX0 36 yX4_clash, Cond.instanceMethod yX4_clash, Cond.selects RX4 yX4_clash yX4_clash, Cond.code yX4_clash cX4_clash 6 (some .boolean), Cond.methodLink RX4 67 yX4_rightOf, Cond.instanceMethod yX4_rightOf, Cond.selects RX4 yX4_rightOf yX4_rightOf]
def wsX0_leadersOf_r2 : List Cond := [Cond.code yX4_rightOf cX4_rightOf 2 (some .int), Cond.static yX6_isMirrored, Cond.initialized RX6, Cond.code yX6_isMirrored cX6_isMirrored 1 (some .boolean), Cond.static yX6_kindOf, Cond.code yX6_kindOf cX6_kindOf 1 (some .int), Cond.methodLink RX4 70 yX4_leftOf, Cond.instanceMethod yX4_leftOf, Cond.selects RX4 yX4_leftOf yX4_leftOf, Cond.code yX4_leftOf cX4_leftOf 2 (some .int), Cond.methodLink RX4 73 yX4_ruleNow, Cond.instanceMethod yX4_ruleNow, Cond.selects RX4 yX4_ruleNow yX4_ruleNow, Cond.code yX4_ruleNow cX4_ruleNow 1 (some .int)]
def wsX0_leadersOf : List Cond := .code yX0_leadersOf cX0_leadersOf 5 (some .int) :: ((wsX0_leadersOf_r1 ++ wsX0_leadersOf_r2) ++ wsX00 ++ wsX40 ++ wsX30)
def wsX0_followersOfAny_r1 : List Cond := [Cond.fieldLink RX0 9 "DollGarlands$Chains" "table" "LDollGarlands$Table;", Cond.methodLink RX0 30 yX4_dollsToCut, Cond.instanceMethod yX4_dollsToCut, Cond.selects RX4 yX4_dollsToCut yX4_dollsToCut, Cond.initialized RX4, Cond.code yX4_dollsToCut cX4_dollsToCut 1 (some .int), Cond.methodLink RX4 32 yX4_kindsNow, Cond.instanceMethod yX4_kindsNow, Cond.selects RX4 yX4_kindsNow yX4_kindsNow, Cond.code yX4_kindsNow cX4_kindsNow 1 (some .int), Cond.fieldLink RX4 16 "DollGarlands$Table" "cells" "LDollGarlands$Row;", Cond.methodLink RX4 28 yX3_at, Cond.instanceMethod yX3_at, Cond.selects RX3 yX3_at yX3_at, Cond.initialized RX3, Cond.code yX3_at cX3_at 2 (some .int), Cond.fieldLink RX3 7 "DollGarlands$Row" "cells" "[I", Cond.methodLink RX0 40 yX0_holds, Cond.static yX0_holds, Cond.initialized RX0, Cond.code yX0_holds cX0_holds 2 (some .boolean), Cond.methodLink RX0 43 yX0_followersOf, Cond.instanceMethod yX0_followersOf, Cond.selects RX0 yX0_followersOf yX0_followersOf]
def wsX0_followersOfAny_r2 : List Cond := [Cond.code yX0_followersOf cX0_followersOf 5 (some .int), Cond.methodLink RX0 36 yX4_clash, Cond.instanceMethod yX4_clash, Cond.selects RX4 yX4_clash yX4_clash, Cond.code yX4_clash cX4_clash 6 (some .boolean), Cond.methodLink RX4 67 yX4_rightOf, Cond.instanceMethod yX4_rightOf, Cond.selects RX4 yX4_rightOf yX4_rightOf, Cond.code yX4_rightOf cX4_rightOf 2 (some .int), Cond.static yX6_isMirrored, Cond.initialized RX6, Cond.code yX6_isMirrored cX6_isMirrored 1 (some .boolean), Cond.static yX6_kindOf, Cond.code yX6_kindOf cX6_kindOf 1 (some .int), Cond.methodLink RX4 70 yX4_leftOf, Cond.instanceMethod yX4_leftOf, Cond.selects RX4 yX4_leftOf yX4_leftOf, Cond.code yX4_leftOf cX4_leftOf 2 (some .int), Cond.methodLink RX4 73 yX4_ruleNow, Cond.instanceMethod yX4_ruleNow, Cond.selects RX4 yX4_ruleNow yX4_ruleNow, Cond.code yX4_ruleNow cX4_ruleNow 1 (some .int)]
def wsX0_followersOfAny : List Cond := .code yX0_followersOfAny cX0_followersOfAny 5 (some .int) :: ((wsX0_followersOfAny_r1 ++ wsX0_followersOfAny_r2) ++ wsX00 ++ wsX40 ++ wsX30)
def wsX0_fewestBetween_r1 : List Cond := [Cond.fieldLink RX0 9 "DollGarlands$Chains" "table" "LDollGarlands$Table;", Cond.methodLink RX0 36 yX4_clash, Cond.instanceMethod yX4_clash, Cond.selects RX4 yX4_clash yX4_clash, Cond.initialized RX4, Cond.code yX4_clash cX4_clash 6 (some .boolean), Cond.methodLink RX4 67 yX4_rightOf, Cond.instanceMethod yX4_rightOf, Cond.selects RX4 yX4_rightOf yX4_rightOf, Cond.code yX4_rightOf cX4_rightOf 2 (some .int), Cond.fieldLink RX4 16 "DollGarlands$Table" "cells" "LDollGarlands$Row;", Cond.static yX6_isMirrored, Cond.initialized RX6, Cond.code yX6_isMirrored cX6_isMirrored 1 (some .boolean), Cond.static yX6_kindOf, Cond.code yX6_kindOf cX6_kindOf 1 (some .int), Cond.methodLink RX4 28 yX3_at, Cond.instanceMethod yX3_at, Cond.selects RX3 yX3_at yX3_at, Cond.initialized RX3, Cond.code yX3_at cX3_at 2 (some .int), Cond.fieldLink RX3 7 "DollGarlands$Row" "cells" "[I", Cond.methodLink RX4 70 yX4_leftOf, Cond.instanceMethod yX4_leftOf]
def wsX0_fewestBetween_r2 : List Cond := [Cond.selects RX4 yX4_leftOf yX4_leftOf, Cond.code yX4_leftOf cX4_leftOf 2 (some .int), Cond.methodLink RX4 73 yX4_ruleNow, Cond.instanceMethod yX4_ruleNow, Cond.selects RX4 yX4_ruleNow yX4_ruleNow, Cond.code yX4_ruleNow cX4_ruleNow 1 (some .int), Cond.methodLink RX0 47 yX0_leadersOf, Cond.instanceMethod yX0_leadersOf, Cond.selects RX0 yX0_leadersOf yX0_leadersOf, Cond.initialized RX0, Cond.code yX0_leadersOf cX0_leadersOf 5 (some .int), Cond.methodLink RX0 30 yX4_dollsToCut, Cond.instanceMethod yX4_dollsToCut, Cond.selects RX4 yX4_dollsToCut yX4_dollsToCut, Cond.code yX4_dollsToCut cX4_dollsToCut 1 (some .int), Cond.methodLink RX4 32 yX4_kindsNow, Cond.instanceMethod yX4_kindsNow, Cond.selects RX4 yX4_kindsNow yX4_kindsNow, Cond.code yX4_kindsNow cX4_kindsNow 1 (some .int), Cond.methodLink RX0 43 yX0_followersOf, Cond.instanceMethod yX0_followersOf, Cond.selects RX0 yX0_followersOf yX0_followersOf, Cond.code yX0_followersOf cX0_followersOf 5 (some .int), Cond.methodLink RX0 50 yX0_followersOfAny]
def wsX0_fewestBetween_r3 : List Cond := [Cond.instanceMethod yX0_followersOfAny, Cond.selects RX0 yX0_followersOfAny yX0_followersOfAny, Cond.code yX0_followersOfAny cX0_followersOfAny 5 (some .int), Cond.methodLink RX0 40 yX0_holds, Cond.static yX0_holds, Cond.code yX0_holds cX0_holds 2 (some .boolean)]
def wsX0_fewestBetween : List Cond := .code yX0_fewestBetween cX0_fewestBetween 7 (some .int) :: ((wsX0_fewestBetween_r1 ++ (wsX0_fewestBetween_r2 ++ wsX0_fewestBetween_r3)) ++ wsX00 ++ wsX40 ++ wsX30)
def wsX3_put : List Cond := .code yX3_put cX3_put 3 none :: ([.fieldLink RX3 7 "DollGarlands$Row" "cells" "[I"] ++ wsX30)
def wsX0_endingsAheadOf : List Cond := .code yX0_endingsAheadOf cX0_endingsAheadOf 5 (some .int) :: ([.fieldLink RX0 9 "DollGarlands$Chains" "table" "LDollGarlands$Table;", .fieldLink RX0 20 "DollGarlands$Chains" "followers" "LDollGarlands$Row;", .fieldLink RX0 24 "DollGarlands$Chains" "endings" "LDollGarlands$Row;", .methodLink RX0 30 yX4_dollsToCut, .instanceMethod yX4_dollsToCut, .selects RX4 yX4_dollsToCut yX4_dollsToCut, .initialized RX4, .code yX4_dollsToCut cX4_dollsToCut 1 (some .int), .methodLink RX4 32 yX4_kindsNow, .instanceMethod yX4_kindsNow, .selects RX4 yX4_kindsNow yX4_kindsNow, .code yX4_kindsNow cX4_kindsNow 1 (some .int), .fieldLink RX4 16 "DollGarlands$Table" "cells" "LDollGarlands$Row;", .methodLink RX4 28 yX3_at, .instanceMethod yX3_at, .selects RX3 yX3_at yX3_at, .initialized RX3, .code yX3_at cX3_at 2 (some .int), .fieldLink RX3 7 "DollGarlands$Row" "cells" "[I", .methodLink RX0 64 yX3_at, .methodLink RX0 40 yX0_holds, .static yX0_holds, .initialized RX0, .code yX0_holds cX0_holds 2 (some .boolean)] ++ wsX00 ++ wsX40 ++ wsX30)
def wsX3_copyFrom : List Cond := .code yX3_copyFrom cX3_copyFrom 5 none :: ([.fieldLink RX3 7 "DollGarlands$Row" "cells" "[I", .methodLink RX3 13 arraycopyName, .native arraycopyName, .static arraycopyName, .initialized "java/lang/System"] ++ wsX30)
def wsX0_countEndings_r1 : List Cond := [Cond.fieldLink RX0 9 "DollGarlands$Chains" "table" "LDollGarlands$Table;", Cond.fieldLink RX0 20 "DollGarlands$Chains" "followers" "LDollGarlands$Row;", Cond.fieldLink RX0 24 "DollGarlands$Chains" "endings" "LDollGarlands$Row;", Cond.fieldLink RX0 27 "DollGarlands$Chains" "longer" "LDollGarlands$Row;", Cond.methodLink RX0 30 yX4_dollsToCut, Cond.instanceMethod yX4_dollsToCut, Cond.selects RX4 yX4_dollsToCut yX4_dollsToCut, Cond.initialized RX4, Cond.code yX4_dollsToCut cX4_dollsToCut 1 (some .int), Cond.methodLink RX4 32 yX4_kindsNow, Cond.instanceMethod yX4_kindsNow, Cond.selects RX4 yX4_kindsNow yX4_kindsNow, Cond.code yX4_kindsNow cX4_kindsNow 1 (some .int), Cond.fieldLink RX4 16 "DollGarlands$Table" "cells" "LDollGarlands$Row;", Cond.methodLink RX4 28 yX3_at, Cond.instanceMethod yX3_at, Cond.selects RX3 yX3_at yX3_at, Cond.initialized RX3, Cond.code yX3_at cX3_at 2 (some .int), Cond.fieldLink RX3 7 "DollGarlands$Row" "cells" "[I", Cond.methodLink RX0 43 yX0_followersOf, Cond.instanceMethod yX0_followersOf, Cond.selects RX0 yX0_followersOf yX0_followersOf, Cond.initialized RX0]
def wsX0_countEndings_r2 : List Cond := [Cond.code yX0_followersOf cX0_followersOf 5 (some .int), Cond.methodLink RX0 36 yX4_clash, Cond.instanceMethod yX4_clash, Cond.selects RX4 yX4_clash yX4_clash, Cond.code yX4_clash cX4_clash 6 (some .boolean), Cond.methodLink RX4 67 yX4_rightOf, Cond.instanceMethod yX4_rightOf, Cond.selects RX4 yX4_rightOf yX4_rightOf, Cond.code yX4_rightOf cX4_rightOf 2 (some .int), Cond.static yX6_isMirrored, Cond.initialized RX6, Cond.code yX6_isMirrored cX6_isMirrored 1 (some .boolean), Cond.static yX6_kindOf, Cond.code yX6_kindOf cX6_kindOf 1 (some .int), Cond.methodLink RX4 70 yX4_leftOf, Cond.instanceMethod yX4_leftOf, Cond.selects RX4 yX4_leftOf yX4_leftOf, Cond.code yX4_leftOf cX4_leftOf 2 (some .int), Cond.methodLink RX4 73 yX4_ruleNow, Cond.instanceMethod yX4_ruleNow, Cond.selects RX4 yX4_ruleNow yX4_ruleNow, Cond.code yX4_ruleNow cX4_ruleNow 1 (some .int), Cond.methodLink RX0 53 yX3_put, Cond.instanceMethod yX3_put]
def wsX0_countEndings_r3 : List Cond := [Cond.selects RX3 yX3_put yX3_put, Cond.code yX3_put cX3_put 3 none, Cond.methodLink RX0 57 yX0_endingsAheadOf, Cond.instanceMethod yX0_endingsAheadOf, Cond.selects RX0 yX0_endingsAheadOf yX0_endingsAheadOf, Cond.code yX0_endingsAheadOf cX0_endingsAheadOf 5 (some .int), Cond.methodLink RX0 64 yX3_at, Cond.methodLink RX0 40 yX0_holds, Cond.static yX0_holds, Cond.code yX0_holds cX0_holds 2 (some .boolean), Cond.methodLink RX0 60 yX3_copyFrom, Cond.instanceMethod yX3_copyFrom, Cond.selects RX3 yX3_copyFrom yX3_copyFrom, Cond.code yX3_copyFrom cX3_copyFrom 5 none, Cond.methodLink RX3 13 arraycopyName, Cond.native arraycopyName, Cond.static arraycopyName, Cond.initialized "java/lang/System"]
def wsX0_countEndings : List Cond := .code yX0_countEndings cX0_countEndings 5 none :: ((wsX0_countEndings_r1 ++ (wsX0_countEndings_r2 ++ wsX0_countEndings_r3)) ++ wsX00 ++ wsX40 ++ wsX30)
def wsX0_garlandsOf_r1 : List Cond := [Cond.fieldLink RX0 9 "DollGarlands$Chains" "table" "LDollGarlands$Table;", Cond.fieldLink RX0 24 "DollGarlands$Chains" "endings" "LDollGarlands$Row;", Cond.methodLink RX0 67 yX0_countEndings, Cond.instanceMethod yX0_countEndings, Cond.selects RX0 yX0_countEndings yX0_countEndings, Cond.initialized RX0, Cond.code yX0_countEndings cX0_countEndings 5 none, Cond.fieldLink RX0 20 "DollGarlands$Chains" "followers" "LDollGarlands$Row;", Cond.fieldLink RX0 27 "DollGarlands$Chains" "longer" "LDollGarlands$Row;", Cond.methodLink RX0 30 yX4_dollsToCut, Cond.instanceMethod yX4_dollsToCut, Cond.selects RX4 yX4_dollsToCut yX4_dollsToCut, Cond.initialized RX4, Cond.code yX4_dollsToCut cX4_dollsToCut 1 (some .int), Cond.methodLink RX4 32 yX4_kindsNow, Cond.instanceMethod yX4_kindsNow, Cond.selects RX4 yX4_kindsNow yX4_kindsNow, Cond.code yX4_kindsNow cX4_kindsNow 1 (some .int), Cond.fieldLink RX4 16 "DollGarlands$Table" "cells" "LDollGarlands$Row;", Cond.methodLink RX4 28 yX3_at, Cond.instanceMethod yX3_at, Cond.selects RX3 yX3_at yX3_at, Cond.initialized RX3, Cond.code yX3_at cX3_at 2 (some .int)]
def wsX0_garlandsOf_r2 : List Cond := [Cond.fieldLink RX3 7 "DollGarlands$Row" "cells" "[I", Cond.methodLink RX0 43 yX0_followersOf, Cond.instanceMethod yX0_followersOf, Cond.selects RX0 yX0_followersOf yX0_followersOf, Cond.code yX0_followersOf cX0_followersOf 5 (some .int), Cond.methodLink RX0 36 yX4_clash, Cond.instanceMethod yX4_clash, Cond.selects RX4 yX4_clash yX4_clash, Cond.code yX4_clash cX4_clash 6 (some .boolean), Cond.methodLink RX4 67 yX4_rightOf, Cond.instanceMethod yX4_rightOf, Cond.selects RX4 yX4_rightOf yX4_rightOf, Cond.code yX4_rightOf cX4_rightOf 2 (some .int), Cond.static yX6_isMirrored, Cond.initialized RX6, Cond.code yX6_isMirrored cX6_isMirrored 1 (some .boolean), Cond.static yX6_kindOf, Cond.code yX6_kindOf cX6_kindOf 1 (some .int), Cond.methodLink RX4 70 yX4_leftOf, Cond.instanceMethod yX4_leftOf, Cond.selects RX4 yX4_leftOf yX4_leftOf, Cond.code yX4_leftOf cX4_leftOf 2 (some .int), Cond.methodLink RX4 73 yX4_ruleNow, Cond.instanceMethod yX4_ruleNow]
def wsX0_garlandsOf_r3 : List Cond := [Cond.selects RX4 yX4_ruleNow yX4_ruleNow, Cond.code yX4_ruleNow cX4_ruleNow 1 (some .int), Cond.methodLink RX0 53 yX3_put, Cond.instanceMethod yX3_put, Cond.selects RX3 yX3_put yX3_put, Cond.code yX3_put cX3_put 3 none, Cond.methodLink RX0 57 yX0_endingsAheadOf, Cond.instanceMethod yX0_endingsAheadOf, Cond.selects RX0 yX0_endingsAheadOf yX0_endingsAheadOf, Cond.code yX0_endingsAheadOf cX0_endingsAheadOf 5 (some .int), Cond.methodLink RX0 64 yX3_at, Cond.methodLink RX0 40 yX0_holds, Cond.static yX0_holds, Cond.code yX0_holds cX0_holds 2 (some .boolean), Cond.methodLink RX0 60 yX3_copyFrom, Cond.instanceMethod yX3_copyFrom, Cond.selects RX3 yX3_copyFrom yX3_copyFrom, Cond.code yX3_copyFrom cX3_copyFrom 5 none, Cond.methodLink RX3 13 arraycopyName, Cond.native arraycopyName, Cond.static arraycopyName, Cond.initialized "java/lang/System"]
def wsX0_garlandsOf : List Cond := .code yX0_garlandsOf cX0_garlandsOf 5 (some .int) :: ((wsX0_garlandsOf_r1 ++ (wsX0_garlandsOf_r2 ++ wsX0_garlandsOf_r3)) ++ wsX00 ++ wsX40 ++ wsX30)
def wsX6_mirrorOf : List Cond := .code yX6_mirrorOf cX6_mirrorOf 1 (some .int) :: ([])
def wsX0_ownMirrorsOf_r1 : List Cond := [Cond.fieldLink RX0 9 "DollGarlands$Chains" "table" "LDollGarlands$Table;", Cond.fieldLink RX0 20 "DollGarlands$Chains" "followers" "LDollGarlands$Row;", Cond.fieldLink RX0 24 "DollGarlands$Chains" "endings" "LDollGarlands$Row;", Cond.methodLink RX0 67 yX0_countEndings, Cond.instanceMethod yX0_countEndings, Cond.selects RX0 yX0_countEndings yX0_countEndings, Cond.initialized RX0, Cond.code yX0_countEndings cX0_countEndings 5 none, Cond.fieldLink RX0 27 "DollGarlands$Chains" "longer" "LDollGarlands$Row;", Cond.methodLink RX0 30 yX4_dollsToCut, Cond.instanceMethod yX4_dollsToCut, Cond.selects RX4 yX4_dollsToCut yX4_dollsToCut, Cond.initialized RX4, Cond.code yX4_dollsToCut cX4_dollsToCut 1 (some .int), Cond.methodLink RX4 32 yX4_kindsNow, Cond.instanceMethod yX4_kindsNow, Cond.selects RX4 yX4_kindsNow yX4_kindsNow, Cond.code yX4_kindsNow cX4_kindsNow 1 (some .int), Cond.fieldLink RX4 16 "DollGarlands$Table" "cells" "LDollGarlands$Row;", Cond.methodLink RX4 28 yX3_at, Cond.instanceMethod yX3_at, Cond.selects RX3 yX3_at yX3_at, Cond.initialized RX3, Cond.code yX3_at cX3_at 2 (some .int)]
def wsX0_ownMirrorsOf_r2 : List Cond := [Cond.fieldLink RX3 7 "DollGarlands$Row" "cells" "[I", Cond.methodLink RX0 43 yX0_followersOf, Cond.instanceMethod yX0_followersOf, Cond.selects RX0 yX0_followersOf yX0_followersOf, Cond.code yX0_followersOf cX0_followersOf 5 (some .int), Cond.methodLink RX0 36 yX4_clash, Cond.instanceMethod yX4_clash, Cond.selects RX4 yX4_clash yX4_clash, Cond.code yX4_clash cX4_clash 6 (some .boolean), Cond.methodLink RX4 67 yX4_rightOf, Cond.instanceMethod yX4_rightOf, Cond.selects RX4 yX4_rightOf yX4_rightOf, Cond.code yX4_rightOf cX4_rightOf 2 (some .int), Cond.static yX6_isMirrored, Cond.initialized RX6, Cond.code yX6_isMirrored cX6_isMirrored 1 (some .boolean), Cond.static yX6_kindOf, Cond.code yX6_kindOf cX6_kindOf 1 (some .int), Cond.methodLink RX4 70 yX4_leftOf, Cond.instanceMethod yX4_leftOf, Cond.selects RX4 yX4_leftOf yX4_leftOf, Cond.code yX4_leftOf cX4_leftOf 2 (some .int), Cond.methodLink RX4 73 yX4_ruleNow, Cond.instanceMethod yX4_ruleNow]
def wsX0_ownMirrorsOf_r3 : List Cond := [Cond.selects RX4 yX4_ruleNow yX4_ruleNow, Cond.code yX4_ruleNow cX4_ruleNow 1 (some .int), Cond.methodLink RX0 53 yX3_put, Cond.instanceMethod yX3_put, Cond.selects RX3 yX3_put yX3_put, Cond.code yX3_put cX3_put 3 none, Cond.methodLink RX0 57 yX0_endingsAheadOf, Cond.instanceMethod yX0_endingsAheadOf, Cond.selects RX0 yX0_endingsAheadOf yX0_endingsAheadOf, Cond.code yX0_endingsAheadOf cX0_endingsAheadOf 5 (some .int), Cond.methodLink RX0 64 yX3_at, Cond.methodLink RX0 40 yX0_holds, Cond.static yX0_holds, Cond.code yX0_holds cX0_holds 2 (some .boolean), Cond.methodLink RX0 60 yX3_copyFrom, Cond.instanceMethod yX3_copyFrom, Cond.selects RX3 yX3_copyFrom yX3_copyFrom, Cond.code yX3_copyFrom cX3_copyFrom 5 none, Cond.methodLink RX3 13 arraycopyName, Cond.native arraycopyName, Cond.static arraycopyName, Cond.initialized "java/lang/System", Cond.static yX6_mirrorOf, Cond.code yX6_mirrorOf cX6_mirrorOf 1 (some .int)]
def wsX0_ownMirrorsOf : List Cond := .code yX0_ownMirrorsOf cX0_ownMirrorsOf 5 (some .int) :: ((wsX0_ownMirrorsOf_r1 ++ (wsX0_ownMirrorsOf_r2 ++ wsX0_ownMirrorsOf_r3)) ++ wsX00 ++ wsX40 ++ wsX30)
def wsX1_init : List Cond := .code yX1_init cX1_init 1 none :: ([.methodLink RX1 3 objectInit, .instanceMethod objectInit, .code objectInit ⟨#[0xb1]⟩ 1 none, .classLink RX1 9 RX3, .instantiable RX3 1, .initialized RX3, .fieldLink RX1 16 "DollGarlands$History" "states" "LDollGarlands$Row;", .fieldLink RX1 22 "DollGarlands$History" "oldest" "I", .fieldLink RX1 26 "DollGarlands$History" "recorded" "I", .methodLink RX1 13 yX3_init, .instanceMethod yX3_init, .code yX3_init cX3_init 2 none, .methodLink RX3 1 objectInit, .arrayClass .int, .fieldLink RX3 7 "DollGarlands$Row" "cells" "[I"] ++ wsX30 ++ wsX10)
def wsX1_size : List Cond := .code yX1_size cX1_size 1 (some .int) :: ([.fieldLink RX1 26 "DollGarlands$History" "recorded" "I"] ++ wsX10)
def wsX1_cellOf : List Cond := .code yX1_cellOf cX1_cellOf 2 (some .int) :: ([.fieldLink RX1 22 "DollGarlands$History" "oldest" "I"] ++ wsX10)
def wsX4_saveTo : List Cond := .code yX4_saveTo cX4_saveTo 3 none :: ([.fieldLink RX4 16 "DollGarlands$Table" "cells" "LDollGarlands$Row;", .methodLink RX4 24 yX3_copyFrom, .instanceMethod yX3_copyFrom, .selects RX3 yX3_copyFrom yX3_copyFrom, .initialized RX3, .code yX3_copyFrom cX3_copyFrom 5 none, .fieldLink RX3 7 "DollGarlands$Row" "cells" "[I", .methodLink RX3 13 arraycopyName, .native arraycopyName, .static arraycopyName, .initialized "java/lang/System"] ++ wsX40 ++ wsX30)
def wsX1_remember : List Cond := .code yX1_remember cX1_remember 2 none :: ([.fieldLink RX1 26 "DollGarlands$History" "recorded" "I", .fieldLink RX1 22 "DollGarlands$History" "oldest" "I", .fieldLink RX1 16 "DollGarlands$History" "states" "LDollGarlands$Row;", .methodLink RX1 29 yX1_cellOf, .instanceMethod yX1_cellOf, .selects RX1 yX1_cellOf yX1_cellOf, .initialized RX1, .code yX1_cellOf cX1_cellOf 2 (some .int), .methodLink RX1 33 yX4_saveTo, .instanceMethod yX4_saveTo, .selects RX4 yX4_saveTo yX4_saveTo, .initialized RX4, .code yX4_saveTo cX4_saveTo 3 none, .fieldLink RX4 16 "DollGarlands$Table" "cells" "LDollGarlands$Row;", .methodLink RX4 24 yX3_copyFrom, .instanceMethod yX3_copyFrom, .selects RX3 yX3_copyFrom yX3_copyFrom, .initialized RX3, .code yX3_copyFrom cX3_copyFrom 5 none, .fieldLink RX3 7 "DollGarlands$Row" "cells" "[I", .methodLink RX3 13 arraycopyName, .native arraycopyName, .static arraycopyName, .initialized "java/lang/System"] ++ wsX10 ++ wsX40 ++ wsX30)
def wsX4_loadFrom : List Cond := .code yX4_loadFrom cX4_loadFrom 3 none :: ([.fieldLink RX4 16 "DollGarlands$Table" "cells" "LDollGarlands$Row;", .methodLink RX4 24 yX3_copyFrom, .instanceMethod yX3_copyFrom, .selects RX3 yX3_copyFrom yX3_copyFrom, .initialized RX3, .code yX3_copyFrom cX3_copyFrom 5 none, .fieldLink RX3 7 "DollGarlands$Row" "cells" "[I", .methodLink RX3 13 arraycopyName, .native arraycopyName, .static arraycopyName, .initialized "java/lang/System"] ++ wsX40 ++ wsX30)
def wsX1_goBack : List Cond := .code yX1_goBack cX1_goBack 2 none :: ([.fieldLink RX1 26 "DollGarlands$History" "recorded" "I", .fieldLink RX1 16 "DollGarlands$History" "states" "LDollGarlands$Row;", .methodLink RX1 29 yX1_cellOf, .instanceMethod yX1_cellOf, .selects RX1 yX1_cellOf yX1_cellOf, .initialized RX1, .code yX1_cellOf cX1_cellOf 2 (some .int), .fieldLink RX1 22 "DollGarlands$History" "oldest" "I", .methodLink RX1 37 yX4_loadFrom, .instanceMethod yX4_loadFrom, .selects RX4 yX4_loadFrom yX4_loadFrom, .initialized RX4, .code yX4_loadFrom cX4_loadFrom 3 none, .fieldLink RX4 16 "DollGarlands$Table" "cells" "LDollGarlands$Row;", .methodLink RX4 24 yX3_copyFrom, .instanceMethod yX3_copyFrom, .selects RX3 yX3_copyFrom yX3_copyFrom, .initialized RX3, .code yX3_copyFrom cX3_copyFrom 5 none, .fieldLink RX3 7 "DollGarlands$Row" "cells" "[I", .methodLink RX3 13 arraycopyName, .native arraycopyName, .static arraycopyName, .initialized "java/lang/System"] ++ wsX10 ++ wsX40 ++ wsX30)
def wsX2_init : List Cond := .code yX2_init cX2_init 2 none :: ([.methodLink RX2 3 objectInit, .instanceMethod objectInit, .code objectInit ⟨#[0xb1]⟩ 1 none, .fieldLink RX2 9 "DollGarlands$Looks" "table" "LDollGarlands$Table;"] ++ wsX20)
def wsX4_lengthOf : List Cond := .code yX4_lengthOf cX4_lengthOf 2 (some .int) :: ([.fieldLink RX4 16 "DollGarlands$Table" "cells" "LDollGarlands$Row;", .methodLink RX4 28 yX3_at, .instanceMethod yX3_at, .selects RX3 yX3_at yX3_at, .initialized RX3, .code yX3_at cX3_at 2 (some .int), .fieldLink RX3 7 "DollGarlands$Row" "cells" "[I"] ++ wsX40 ++ wsX30)
def wsX4_cellOf : List Cond := .code yX4_cellOf cX4_cellOf 3 (some .int) :: ([])
def wsX4_dollAt : List Cond := .code yX4_dollAt cX4_dollAt 3 (some .int) :: ([.fieldLink RX4 16 "DollGarlands$Table" "cells" "LDollGarlands$Row;", .methodLink RX4 50 yX4_cellOf, .instanceMethod yX4_cellOf, .selects RX4 yX4_cellOf yX4_cellOf, .initialized RX4, .code yX4_cellOf cX4_cellOf 3 (some .int), .methodLink RX4 28 yX3_at, .instanceMethod yX3_at, .selects RX3 yX3_at yX3_at, .initialized RX3, .code yX3_at cX3_at 2 (some .int), .fieldLink RX3 7 "DollGarlands$Row" "cells" "[I"] ++ wsX40 ++ wsX30)
def wsX6_oneIf : List Cond := .code yX6_oneIf cX6_oneIf 1 (some .int) :: ([])
def wsX2_mirroredIn_r1 : List Cond := [Cond.fieldLink RX2 9 "DollGarlands$Looks" "table" "LDollGarlands$Table;", Cond.methodLink RX2 15 yX4_lengthOf, Cond.instanceMethod yX4_lengthOf, Cond.selects RX4 yX4_lengthOf yX4_lengthOf, Cond.initialized RX4, Cond.code yX4_lengthOf cX4_lengthOf 2 (some .int), Cond.fieldLink RX4 16 "DollGarlands$Table" "cells" "LDollGarlands$Row;", Cond.methodLink RX4 28 yX3_at, Cond.instanceMethod yX3_at, Cond.selects RX3 yX3_at yX3_at, Cond.initialized RX3, Cond.code yX3_at cX3_at 2 (some .int), Cond.fieldLink RX3 7 "DollGarlands$Row" "cells" "[I", Cond.methodLink RX2 21 yX4_dollAt, Cond.instanceMethod yX4_dollAt, Cond.selects RX4 yX4_dollAt yX4_dollAt, Cond.code yX4_dollAt cX4_dollAt 3 (some .int), Cond.methodLink RX4 50 yX4_cellOf, Cond.instanceMethod yX4_cellOf, Cond.selects RX4 yX4_cellOf yX4_cellOf, Cond.code yX4_cellOf cX4_cellOf 3 (some .int), Cond.static yX6_isMirrored, Cond.initialized RX6, Cond.code yX6_isMirrored cX6_isMirrored 1 (some .boolean)]
def wsX2_mirroredIn_r2 : List Cond := [Cond.static yX6_oneIf, Cond.code yX6_oneIf cX6_oneIf 1 (some .int)]
def wsX2_mirroredIn : List Cond := .code yX2_mirroredIn cX2_mirroredIn 5 (some .int) :: ((wsX2_mirroredIn_r1 ++ wsX2_mirroredIn_r2) ++ wsX20 ++ wsX40 ++ wsX30)
def wsX2_kindsIn : List Cond := .code yX2_kindsIn cX2_kindsIn 5 (some .int) :: ([.fieldLink RX2 9 "DollGarlands$Looks" "table" "LDollGarlands$Table;", .methodLink RX2 15 yX4_lengthOf, .instanceMethod yX4_lengthOf, .selects RX4 yX4_lengthOf yX4_lengthOf, .initialized RX4, .code yX4_lengthOf cX4_lengthOf 2 (some .int), .fieldLink RX4 16 "DollGarlands$Table" "cells" "LDollGarlands$Row;", .methodLink RX4 28 yX3_at, .instanceMethod yX3_at, .selects RX3 yX3_at yX3_at, .initialized RX3, .code yX3_at cX3_at 2 (some .int), .fieldLink RX3 7 "DollGarlands$Row" "cells" "[I", .methodLink RX2 21 yX4_dollAt, .instanceMethod yX4_dollAt, .selects RX4 yX4_dollAt yX4_dollAt, .code yX4_dollAt cX4_dollAt 3 (some .int), .methodLink RX4 50 yX4_cellOf, .instanceMethod yX4_cellOf, .selects RX4 yX4_cellOf yX4_cellOf, .code yX4_cellOf cX4_cellOf 3 (some .int), .static yX6_kindOf, .initialized RX6, .code yX6_kindOf cX6_kindOf 1 (some .int)] ++ wsX20 ++ wsX40 ++ wsX30)
def wsX2_isSame : List Cond := .code yX2_isSame cX2_isSame 5 (some .boolean) :: ([.fieldLink RX2 9 "DollGarlands$Looks" "table" "LDollGarlands$Table;", .methodLink RX2 15 yX4_lengthOf, .instanceMethod yX4_lengthOf, .selects RX4 yX4_lengthOf yX4_lengthOf, .initialized RX4, .code yX4_lengthOf cX4_lengthOf 2 (some .int), .fieldLink RX4 16 "DollGarlands$Table" "cells" "LDollGarlands$Row;", .methodLink RX4 28 yX3_at, .instanceMethod yX3_at, .selects RX3 yX3_at yX3_at, .initialized RX3, .code yX3_at cX3_at 2 (some .int), .fieldLink RX3 7 "DollGarlands$Row" "cells" "[I", .methodLink RX2 21 yX4_dollAt, .instanceMethod yX4_dollAt, .selects RX4 yX4_dollAt yX4_dollAt, .code yX4_dollAt cX4_dollAt 3 (some .int), .methodLink RX4 50 yX4_cellOf, .instanceMethod yX4_cellOf, .selects RX4 yX4_cellOf yX4_cellOf, .code yX4_cellOf cX4_cellOf 3 (some .int)] ++ wsX20 ++ wsX40 ++ wsX30)
def wsX2_isMirror : List Cond := .code yX2_isMirror cX2_isMirror 6 (some .boolean) :: ([.fieldLink RX2 9 "DollGarlands$Looks" "table" "LDollGarlands$Table;", .methodLink RX2 15 yX4_lengthOf, .instanceMethod yX4_lengthOf, .selects RX4 yX4_lengthOf yX4_lengthOf, .initialized RX4, .code yX4_lengthOf cX4_lengthOf 2 (some .int), .fieldLink RX4 16 "DollGarlands$Table" "cells" "LDollGarlands$Row;", .methodLink RX4 28 yX3_at, .instanceMethod yX3_at, .selects RX3 yX3_at yX3_at, .initialized RX3, .code yX3_at cX3_at 2 (some .int), .fieldLink RX3 7 "DollGarlands$Row" "cells" "[I", .methodLink RX2 21 yX4_dollAt, .instanceMethod yX4_dollAt, .selects RX4 yX4_dollAt yX4_dollAt, .code yX4_dollAt cX4_dollAt 3 (some .int), .methodLink RX4 50 yX4_cellOf, .instanceMethod yX4_cellOf, .selects RX4 yX4_cellOf yX4_cellOf, .code yX4_cellOf cX4_cellOf 3 (some .int), .static yX6_mirrorOf, .initialized RX6, .code yX6_mirrorOf cX6_mirrorOf 1 (some .int)] ++ wsX20 ++ wsX40 ++ wsX30)
def wsX2_isOwnMirror_r1 : List Cond := [Cond.methodLink RX2 39 yX2_isMirror, Cond.instanceMethod yX2_isMirror, Cond.selects RX2 yX2_isMirror yX2_isMirror, Cond.initialized RX2, Cond.code yX2_isMirror cX2_isMirror 6 (some .boolean), Cond.fieldLink RX2 9 "DollGarlands$Looks" "table" "LDollGarlands$Table;", Cond.methodLink RX2 15 yX4_lengthOf, Cond.instanceMethod yX4_lengthOf, Cond.selects RX4 yX4_lengthOf yX4_lengthOf, Cond.initialized RX4, Cond.code yX4_lengthOf cX4_lengthOf 2 (some .int), Cond.fieldLink RX4 16 "DollGarlands$Table" "cells" "LDollGarlands$Row;", Cond.methodLink RX4 28 yX3_at, Cond.instanceMethod yX3_at, Cond.selects RX3 yX3_at yX3_at, Cond.initialized RX3, Cond.code yX3_at cX3_at 2 (some .int), Cond.fieldLink RX3 7 "DollGarlands$Row" "cells" "[I", Cond.methodLink RX2 21 yX4_dollAt, Cond.instanceMethod yX4_dollAt, Cond.selects RX4 yX4_dollAt yX4_dollAt, Cond.code yX4_dollAt cX4_dollAt 3 (some .int), Cond.methodLink RX4 50 yX4_cellOf, Cond.instanceMethod yX4_cellOf]
def wsX2_isOwnMirror_r2 : List Cond := [Cond.selects RX4 yX4_cellOf yX4_cellOf, Cond.code yX4_cellOf cX4_cellOf 3 (some .int), Cond.static yX6_mirrorOf, Cond.initialized RX6, Cond.code yX6_mirrorOf cX6_mirrorOf 1 (some .int)]
def wsX2_isOwnMirror : List Cond := .code yX2_isOwnMirror cX2_isOwnMirror 2 (some .boolean) :: ((wsX2_isOwnMirror_r1 ++ wsX2_isOwnMirror_r2) ++ wsX20 ++ wsX40 ++ wsX30)
def wsX2_repeatsAfter : List Cond := .code yX2_repeatsAfter cX2_repeatsAfter 5 (some .boolean) :: ([.fieldLink RX2 9 "DollGarlands$Looks" "table" "LDollGarlands$Table;", .methodLink RX2 15 yX4_lengthOf, .instanceMethod yX4_lengthOf, .selects RX4 yX4_lengthOf yX4_lengthOf, .initialized RX4, .code yX4_lengthOf cX4_lengthOf 2 (some .int), .fieldLink RX4 16 "DollGarlands$Table" "cells" "LDollGarlands$Row;", .methodLink RX4 28 yX3_at, .instanceMethod yX3_at, .selects RX3 yX3_at yX3_at, .initialized RX3, .code yX3_at cX3_at 2 (some .int), .fieldLink RX3 7 "DollGarlands$Row" "cells" "[I", .methodLink RX2 21 yX4_dollAt, .instanceMethod yX4_dollAt, .selects RX4 yX4_dollAt yX4_dollAt, .code yX4_dollAt cX4_dollAt 3 (some .int), .methodLink RX4 50 yX4_cellOf, .instanceMethod yX4_cellOf, .selects RX4 yX4_cellOf yX4_cellOf, .code yX4_cellOf cX4_cellOf 3 (some .int)] ++ wsX20 ++ wsX40 ++ wsX30)
def wsX2_repeatOf_r1 : List Cond := [Cond.fieldLink RX2 9 "DollGarlands$Looks" "table" "LDollGarlands$Table;", Cond.methodLink RX2 15 yX4_lengthOf, Cond.instanceMethod yX4_lengthOf, Cond.selects RX4 yX4_lengthOf yX4_lengthOf, Cond.initialized RX4, Cond.code yX4_lengthOf cX4_lengthOf 2 (some .int), Cond.fieldLink RX4 16 "DollGarlands$Table" "cells" "LDollGarlands$Row;", Cond.methodLink RX4 28 yX3_at, Cond.instanceMethod yX3_at, Cond.selects RX3 yX3_at yX3_at, Cond.initialized RX3, Cond.code yX3_at cX3_at 2 (some .int), Cond.fieldLink RX3 7 "DollGarlands$Row" "cells" "[I", Cond.methodLink RX2 43 yX2_repeatsAfter, Cond.instanceMethod yX2_repeatsAfter, Cond.selects RX2 yX2_repeatsAfter yX2_repeatsAfter, Cond.initialized RX2, Cond.code yX2_repeatsAfter cX2_repeatsAfter 5 (some .boolean), Cond.methodLink RX2 21 yX4_dollAt, Cond.instanceMethod yX4_dollAt, Cond.selects RX4 yX4_dollAt yX4_dollAt, Cond.code yX4_dollAt cX4_dollAt 3 (some .int), Cond.methodLink RX4 50 yX4_cellOf, Cond.instanceMethod yX4_cellOf]
def wsX2_repeatOf_r2 : List Cond := [Cond.selects RX4 yX4_cellOf yX4_cellOf, Cond.code yX4_cellOf cX4_cellOf 3 (some .int)]
def wsX2_repeatOf : List Cond := .code yX2_repeatOf cX2_repeatOf 4 (some .int) :: ((wsX2_repeatOf_r1 ++ wsX2_repeatOf_r2) ++ wsX20 ++ wsX40 ++ wsX30)
def wsX2_lowestAlike_r1 : List Cond := [Cond.methodLink RX2 46 yX2_isSame, Cond.instanceMethod yX2_isSame, Cond.selects RX2 yX2_isSame yX2_isSame, Cond.initialized RX2, Cond.code yX2_isSame cX2_isSame 5 (some .boolean), Cond.fieldLink RX2 9 "DollGarlands$Looks" "table" "LDollGarlands$Table;", Cond.methodLink RX2 15 yX4_lengthOf, Cond.instanceMethod yX4_lengthOf, Cond.selects RX4 yX4_lengthOf yX4_lengthOf, Cond.initialized RX4, Cond.code yX4_lengthOf cX4_lengthOf 2 (some .int), Cond.fieldLink RX4 16 "DollGarlands$Table" "cells" "LDollGarlands$Row;", Cond.methodLink RX4 28 yX3_at, Cond.instanceMethod yX3_at, Cond.selects RX3 yX3_at yX3_at, Cond.initialized RX3, Cond.code yX3_at cX3_at 2 (some .int), Cond.fieldLink RX3 7 "DollGarlands$Row" "cells" "[I", Cond.methodLink RX2 21 yX4_dollAt, Cond.instanceMethod yX4_dollAt, Cond.selects RX4 yX4_dollAt yX4_dollAt, Cond.code yX4_dollAt cX4_dollAt 3 (some .int), Cond.methodLink RX4 50 yX4_cellOf, Cond.instanceMethod yX4_cellOf]
def wsX2_lowestAlike_r2 : List Cond := [Cond.selects RX4 yX4_cellOf yX4_cellOf, Cond.code yX4_cellOf cX4_cellOf 3 (some .int), Cond.methodLink RX2 39 yX2_isMirror, Cond.instanceMethod yX2_isMirror, Cond.selects RX2 yX2_isMirror yX2_isMirror, Cond.code yX2_isMirror cX2_isMirror 6 (some .boolean), Cond.static yX6_mirrorOf, Cond.initialized RX6, Cond.code yX6_mirrorOf cX6_mirrorOf 1 (some .int)]
def wsX2_lowestAlike : List Cond := .code yX2_lowestAlike cX2_lowestAlike 3 (some .int) :: ((wsX2_lowestAlike_r1 ++ wsX2_lowestAlike_r2) ++ wsX20 ++ wsX40 ++ wsX30)
def wsX2_highestKind_r1 : List Cond := [Cond.fieldLink RX2 9 "DollGarlands$Looks" "table" "LDollGarlands$Table;", Cond.methodLink RX2 49 Lib.Math.max.name, Cond.static Lib.Math.max.name, Cond.initialized "java/lang/Math", Cond.code Lib.Math.max.name Lib.Math.max.code 2 (some .int), Cond.methodLink RX2 15 yX4_lengthOf, Cond.instanceMethod yX4_lengthOf, Cond.selects RX4 yX4_lengthOf yX4_lengthOf, Cond.initialized RX4, Cond.code yX4_lengthOf cX4_lengthOf 2 (some .int), Cond.fieldLink RX4 16 "DollGarlands$Table" "cells" "LDollGarlands$Row;", Cond.methodLink RX4 28 yX3_at, Cond.instanceMethod yX3_at, Cond.selects RX3 yX3_at yX3_at, Cond.initialized RX3, Cond.code yX3_at cX3_at 2 (some .int), Cond.fieldLink RX3 7 "DollGarlands$Row" "cells" "[I", Cond.methodLink RX2 21 yX4_dollAt, Cond.instanceMethod yX4_dollAt, Cond.selects RX4 yX4_dollAt yX4_dollAt, Cond.code yX4_dollAt cX4_dollAt 3 (some .int), Cond.methodLink RX4 50 yX4_cellOf, Cond.instanceMethod yX4_cellOf, Cond.selects RX4 yX4_cellOf yX4_cellOf]
def wsX2_highestKind_r2 : List Cond := [Cond.code yX4_cellOf cX4_cellOf 3 (some .int), Cond.static yX6_kindOf, Cond.initialized RX6, Cond.code yX6_kindOf cX6_kindOf 1 (some .int)]
def wsX2_highestKind : List Cond := .code yX2_highestKind cX2_highestKind 5 (some .int) :: ((wsX2_highestKind_r1 ++ wsX2_highestKind_r2) ++ wsX20 ++ wsX40 ++ wsX30)
def wsX2_dollsLike : List Cond := .code yX2_dollsLike cX2_dollsLike 6 (some .int) :: ([.fieldLink RX2 9 "DollGarlands$Looks" "table" "LDollGarlands$Table;", .methodLink RX2 15 yX4_lengthOf, .instanceMethod yX4_lengthOf, .selects RX4 yX4_lengthOf yX4_lengthOf, .initialized RX4, .code yX4_lengthOf cX4_lengthOf 2 (some .int), .fieldLink RX4 16 "DollGarlands$Table" "cells" "LDollGarlands$Row;", .methodLink RX4 28 yX3_at, .instanceMethod yX3_at, .selects RX3 yX3_at yX3_at, .initialized RX3, .code yX3_at cX3_at 2 (some .int), .fieldLink RX3 7 "DollGarlands$Row" "cells" "[I", .methodLink RX2 21 yX4_dollAt, .instanceMethod yX4_dollAt, .selects RX4 yX4_dollAt yX4_dollAt, .code yX4_dollAt cX4_dollAt 3 (some .int), .methodLink RX4 50 yX4_cellOf, .instanceMethod yX4_cellOf, .selects RX4 yX4_cellOf yX4_cellOf, .code yX4_cellOf cX4_cellOf 3 (some .int), .static yX6_oneIf, .initialized RX6, .code yX6_oneIf cX6_oneIf 1 (some .int)] ++ wsX20 ++ wsX40 ++ wsX30)
def wsX6_isBelow : List Cond := .code yX6_isBelow cX6_isBelow 2 (some .boolean) :: ([])
def wsX4_hasGarland : List Cond := .code yX4_hasGarland cX4_hasGarland 2 (some .boolean) :: ([.static yX6_isBelow, .initialized RX6, .code yX6_isBelow cX6_isBelow 2 (some .boolean), .methodLink RX4 47 yX4_lengthOf, .instanceMethod yX4_lengthOf, .selects RX4 yX4_lengthOf yX4_lengthOf, .initialized RX4, .code yX4_lengthOf cX4_lengthOf 2 (some .int), .fieldLink RX4 16 "DollGarlands$Table" "cells" "LDollGarlands$Row;", .methodLink RX4 28 yX3_at, .instanceMethod yX3_at, .selects RX3 yX3_at yX3_at, .initialized RX3, .code yX3_at cX3_at 2 (some .int), .fieldLink RX3 7 "DollGarlands$Row" "cells" "[I"] ++ wsX40 ++ wsX30)
def wsX2_garlands : List Cond := .code yX2_garlands cX2_garlands 3 (some .int) :: ([.fieldLink RX2 9 "DollGarlands$Looks" "table" "LDollGarlands$Table;", .methodLink RX2 54 yX4_hasGarland, .instanceMethod yX4_hasGarland, .selects RX4 yX4_hasGarland yX4_hasGarland, .initialized RX4, .code yX4_hasGarland cX4_hasGarland 2 (some .boolean), .static yX6_isBelow, .initialized RX6, .code yX6_isBelow cX6_isBelow 2 (some .boolean), .methodLink RX4 47 yX4_lengthOf, .instanceMethod yX4_lengthOf, .selects RX4 yX4_lengthOf yX4_lengthOf, .code yX4_lengthOf cX4_lengthOf 2 (some .int), .fieldLink RX4 16 "DollGarlands$Table" "cells" "LDollGarlands$Row;", .methodLink RX4 28 yX3_at, .instanceMethod yX3_at, .selects RX3 yX3_at yX3_at, .initialized RX3, .code yX3_at cX3_at 2 (some .int), .fieldLink RX3 7 "DollGarlands$Row" "cells" "[I", .static yX6_oneIf, .code yX6_oneIf cX6_oneIf 1 (some .int)] ++ wsX20 ++ wsX40 ++ wsX30)
def wsX2_dolls : List Cond := .code yX2_dolls cX2_dolls 3 (some .int) :: ([.fieldLink RX2 9 "DollGarlands$Looks" "table" "LDollGarlands$Table;", .methodLink RX2 15 yX4_lengthOf, .instanceMethod yX4_lengthOf, .selects RX4 yX4_lengthOf yX4_lengthOf, .initialized RX4, .code yX4_lengthOf cX4_lengthOf 2 (some .int), .fieldLink RX4 16 "DollGarlands$Table" "cells" "LDollGarlands$Row;", .methodLink RX4 28 yX3_at, .instanceMethod yX3_at, .selects RX3 yX3_at yX3_at, .initialized RX3, .code yX3_at cX3_at 2 (some .int), .fieldLink RX3 7 "DollGarlands$Row" "cells" "[I"] ++ wsX20 ++ wsX40 ++ wsX30)
def wsX2_mirroredDolls_r1 : List Cond := [Cond.methodLink RX2 57 yX2_mirroredIn, Cond.instanceMethod yX2_mirroredIn, Cond.selects RX2 yX2_mirroredIn yX2_mirroredIn, Cond.initialized RX2, Cond.code yX2_mirroredIn cX2_mirroredIn 5 (some .int), Cond.fieldLink RX2 9 "DollGarlands$Looks" "table" "LDollGarlands$Table;", Cond.methodLink RX2 15 yX4_lengthOf, Cond.instanceMethod yX4_lengthOf, Cond.selects RX4 yX4_lengthOf yX4_lengthOf, Cond.initialized RX4, Cond.code yX4_lengthOf cX4_lengthOf 2 (some .int), Cond.fieldLink RX4 16 "DollGarlands$Table" "cells" "LDollGarlands$Row;", Cond.methodLink RX4 28 yX3_at, Cond.instanceMethod yX3_at, Cond.selects RX3 yX3_at yX3_at, Cond.initialized RX3, Cond.code yX3_at cX3_at 2 (some .int), Cond.fieldLink RX3 7 "DollGarlands$Row" "cells" "[I", Cond.methodLink RX2 21 yX4_dollAt, Cond.instanceMethod yX4_dollAt, Cond.selects RX4 yX4_dollAt yX4_dollAt, Cond.code yX4_dollAt cX4_dollAt 3 (some .int), Cond.methodLink RX4 50 yX4_cellOf, Cond.instanceMethod yX4_cellOf]
def wsX2_mirroredDolls_r2 : List Cond := [Cond.selects RX4 yX4_cellOf yX4_cellOf, Cond.code yX4_cellOf cX4_cellOf 3 (some .int), Cond.static yX6_isMirrored, Cond.initialized RX6, Cond.code yX6_isMirrored cX6_isMirrored 1 (some .boolean), Cond.static yX6_oneIf, Cond.code yX6_oneIf cX6_oneIf 1 (some .int)]
def wsX2_mirroredDolls : List Cond := .code yX2_mirroredDolls cX2_mirroredDolls 3 (some .int) :: ((wsX2_mirroredDolls_r1 ++ wsX2_mirroredDolls_r2) ++ wsX20 ++ wsX40 ++ wsX30)
def wsX2_ownMirrors_r1 : List Cond := [Cond.fieldLink RX2 9 "DollGarlands$Looks" "table" "LDollGarlands$Table;", Cond.methodLink RX2 54 yX4_hasGarland, Cond.instanceMethod yX4_hasGarland, Cond.selects RX4 yX4_hasGarland yX4_hasGarland, Cond.initialized RX4, Cond.code yX4_hasGarland cX4_hasGarland 2 (some .boolean), Cond.static yX6_isBelow, Cond.initialized RX6, Cond.code yX6_isBelow cX6_isBelow 2 (some .boolean), Cond.methodLink RX4 47 yX4_lengthOf, Cond.instanceMethod yX4_lengthOf, Cond.selects RX4 yX4_lengthOf yX4_lengthOf, Cond.code yX4_lengthOf cX4_lengthOf 2 (some .int), Cond.fieldLink RX4 16 "DollGarlands$Table" "cells" "LDollGarlands$Row;", Cond.methodLink RX4 28 yX3_at, Cond.instanceMethod yX3_at, Cond.selects RX3 yX3_at yX3_at, Cond.initialized RX3, Cond.code yX3_at cX3_at 2 (some .int), Cond.fieldLink RX3 7 "DollGarlands$Row" "cells" "[I", Cond.methodLink RX2 60 yX2_isOwnMirror, Cond.instanceMethod yX2_isOwnMirror, Cond.selects RX2 yX2_isOwnMirror yX2_isOwnMirror, Cond.initialized RX2]
def wsX2_ownMirrors_r2 : List Cond := [Cond.code yX2_isOwnMirror cX2_isOwnMirror 2 (some .boolean), Cond.methodLink RX2 39 yX2_isMirror, Cond.instanceMethod yX2_isMirror, Cond.selects RX2 yX2_isMirror yX2_isMirror, Cond.code yX2_isMirror cX2_isMirror 6 (some .boolean), Cond.methodLink RX2 15 yX4_lengthOf, Cond.methodLink RX2 21 yX4_dollAt, Cond.instanceMethod yX4_dollAt, Cond.selects RX4 yX4_dollAt yX4_dollAt, Cond.code yX4_dollAt cX4_dollAt 3 (some .int), Cond.methodLink RX4 50 yX4_cellOf, Cond.instanceMethod yX4_cellOf, Cond.selects RX4 yX4_cellOf yX4_cellOf, Cond.code yX4_cellOf cX4_cellOf 3 (some .int), Cond.static yX6_mirrorOf, Cond.code yX6_mirrorOf cX6_mirrorOf 1 (some .int), Cond.static yX6_oneIf, Cond.code yX6_oneIf cX6_oneIf 1 (some .int)]
def wsX2_ownMirrors : List Cond := .code yX2_ownMirrors cX2_ownMirrors 3 (some .int) :: ((wsX2_ownMirrors_r1 ++ wsX2_ownMirrors_r2) ++ wsX20 ++ wsX40 ++ wsX30)
def wsX2_handsThatMeet_r1 : List Cond := [Cond.fieldLink RX2 9 "DollGarlands$Looks" "table" "LDollGarlands$Table;", Cond.methodLink RX2 15 yX4_lengthOf, Cond.instanceMethod yX4_lengthOf, Cond.selects RX4 yX4_lengthOf yX4_lengthOf, Cond.initialized RX4, Cond.code yX4_lengthOf cX4_lengthOf 2 (some .int), Cond.fieldLink RX4 16 "DollGarlands$Table" "cells" "LDollGarlands$Row;", Cond.methodLink RX4 28 yX3_at, Cond.instanceMethod yX3_at, Cond.selects RX3 yX3_at yX3_at, Cond.initialized RX3, Cond.code yX3_at cX3_at 2 (some .int), Cond.fieldLink RX3 7 "DollGarlands$Row" "cells" "[I", Cond.methodLink RX2 21 yX4_dollAt, Cond.instanceMethod yX4_dollAt, Cond.selects RX4 yX4_dollAt yX4_dollAt, Cond.code yX4_dollAt cX4_dollAt 3 (some .int), Cond.methodLink RX4 50 yX4_cellOf, Cond.instanceMethod yX4_cellOf, Cond.selects RX4 yX4_cellOf yX4_cellOf, Cond.code yX4_cellOf cX4_cellOf 3 (some .int), Cond.methodLink RX2 63 yX4_rightOf, Cond.instanceMethod yX4_rightOf, Cond.selects RX4 yX4_rightOf yX4_rightOf]
def wsX2_handsThatMeet_r2 : List Cond := [Cond.code yX4_rightOf cX4_rightOf 2 (some .int), Cond.static yX6_isMirrored, Cond.initialized RX6, Cond.code yX6_isMirrored cX6_isMirrored 1 (some .boolean), Cond.static yX6_kindOf, Cond.code yX6_kindOf cX6_kindOf 1 (some .int), Cond.methodLink RX2 66 yX4_leftOf, Cond.instanceMethod yX4_leftOf, Cond.selects RX4 yX4_leftOf yX4_leftOf, Cond.code yX4_leftOf cX4_leftOf 2 (some .int), Cond.static yX6_oneIf, Cond.code yX6_oneIf cX6_oneIf 1 (some .int)]
def wsX2_handsThatMeet : List Cond := .code yX2_handsThatMeet cX2_handsThatMeet 7 (some .int) :: ((wsX2_handsThatMeet_r1 ++ wsX2_handsThatMeet_r2) ++ wsX20 ++ wsX40 ++ wsX30)
def wsX2_differentGarlands_r1 : List Cond := [Cond.fieldLink RX2 9 "DollGarlands$Looks" "table" "LDollGarlands$Table;", Cond.methodLink RX2 54 yX4_hasGarland, Cond.instanceMethod yX4_hasGarland, Cond.selects RX4 yX4_hasGarland yX4_hasGarland, Cond.initialized RX4, Cond.code yX4_hasGarland cX4_hasGarland 2 (some .boolean), Cond.static yX6_isBelow, Cond.initialized RX6, Cond.code yX6_isBelow cX6_isBelow 2 (some .boolean), Cond.methodLink RX4 47 yX4_lengthOf, Cond.instanceMethod yX4_lengthOf, Cond.selects RX4 yX4_lengthOf yX4_lengthOf, Cond.code yX4_lengthOf cX4_lengthOf 2 (some .int), Cond.fieldLink RX4 16 "DollGarlands$Table" "cells" "LDollGarlands$Row;", Cond.methodLink RX4 28 yX3_at, Cond.instanceMethod yX3_at, Cond.selects RX3 yX3_at yX3_at, Cond.initialized RX3, Cond.code yX3_at cX3_at 2 (some .int), Cond.fieldLink RX3 7 "DollGarlands$Row" "cells" "[I", Cond.methodLink RX2 69 yX2_lowestAlike, Cond.instanceMethod yX2_lowestAlike, Cond.selects RX2 yX2_lowestAlike yX2_lowestAlike, Cond.initialized RX2]
def wsX2_differentGarlands_r2 : List Cond := [Cond.code yX2_lowestAlike cX2_lowestAlike 3 (some .int), Cond.methodLink RX2 46 yX2_isSame, Cond.instanceMethod yX2_isSame, Cond.selects RX2 yX2_isSame yX2_isSame, Cond.code yX2_isSame cX2_isSame 5 (some .boolean), Cond.methodLink RX2 15 yX4_lengthOf, Cond.methodLink RX2 21 yX4_dollAt, Cond.instanceMethod yX4_dollAt, Cond.selects RX4 yX4_dollAt yX4_dollAt, Cond.code yX4_dollAt cX4_dollAt 3 (some .int), Cond.methodLink RX4 50 yX4_cellOf, Cond.instanceMethod yX4_cellOf, Cond.selects RX4 yX4_cellOf yX4_cellOf, Cond.code yX4_cellOf cX4_cellOf 3 (some .int), Cond.methodLink RX2 39 yX2_isMirror, Cond.instanceMethod yX2_isMirror, Cond.selects RX2 yX2_isMirror yX2_isMirror, Cond.code yX2_isMirror cX2_isMirror 6 (some .boolean), Cond.static yX6_mirrorOf, Cond.code yX6_mirrorOf cX6_mirrorOf 1 (some .int), Cond.static yX6_oneIf, Cond.code yX6_oneIf cX6_oneIf 1 (some .int)]
def wsX2_differentGarlands : List Cond := .code yX2_differentGarlands cX2_differentGarlands 3 (some .int) :: ((wsX2_differentGarlands_r1 ++ wsX2_differentGarlands_r2) ++ wsX20 ++ wsX40 ++ wsX30)
def wsX4_init : List Cond := .code yX4_init cX4_init 2 none :: ([.methodLink RX4 5 objectInit, .instanceMethod objectInit, .code objectInit ⟨#[0xb1]⟩ 1 none, .classLink RX4 11 RX3, .instantiable RX3 1, .initialized RX3, .fieldLink RX4 16 "DollGarlands$Table" "cells" "LDollGarlands$Row;", .methodLink RX4 13 yX3_init, .instanceMethod yX3_init, .code yX3_init cX3_init 2 none, .methodLink RX3 1 objectInit, .arrayClass .int, .fieldLink RX3 7 "DollGarlands$Row" "cells" "[I", .methodLink RX4 20 yX3_put, .instanceMethod yX3_put, .selects RX3 yX3_put yX3_put, .code yX3_put cX3_put 3 none] ++ wsX30 ++ wsX40)
def wsX4_putRule : List Cond := .code yX4_putRule cX4_putRule 2 none :: ([.fieldLink RX4 16 "DollGarlands$Table" "cells" "LDollGarlands$Row;", .methodLink RX4 20 yX3_put, .instanceMethod yX3_put, .selects RX3 yX3_put yX3_put, .initialized RX3, .code yX3_put cX3_put 3 none, .fieldLink RX3 7 "DollGarlands$Row" "cells" "[I"] ++ wsX40 ++ wsX30)
def wsX4_putKinds : List Cond := .code yX4_putKinds cX4_putKinds 2 none :: ([.fieldLink RX4 16 "DollGarlands$Table" "cells" "LDollGarlands$Row;", .methodLink RX4 20 yX3_put, .instanceMethod yX3_put, .selects RX3 yX3_put yX3_put, .initialized RX3, .code yX3_put cX3_put 3 none, .fieldLink RX3 7 "DollGarlands$Row" "cells" "[I"] ++ wsX40 ++ wsX30)
def wsX4_hasKind : List Cond := .code yX4_hasKind cX4_hasKind 2 (some .boolean) :: ([.methodLink RX4 32 yX4_kindsNow, .instanceMethod yX4_kindsNow, .selects RX4 yX4_kindsNow yX4_kindsNow, .initialized RX4, .code yX4_kindsNow cX4_kindsNow 1 (some .int), .fieldLink RX4 16 "DollGarlands$Table" "cells" "LDollGarlands$Row;", .methodLink RX4 28 yX3_at, .instanceMethod yX3_at, .selects RX3 yX3_at yX3_at, .initialized RX3, .code yX3_at cX3_at 2 (some .int), .fieldLink RX3 7 "DollGarlands$Row" "cells" "[I", .static yX6_isBelow, .initialized RX6, .code yX6_isBelow cX6_isBelow 2 (some .boolean)] ++ wsX40 ++ wsX30)
def wsX4_leftHand : List Cond := .code yX4_leftHand cX4_leftHand 2 (some .int) :: ([.fieldLink RX4 16 "DollGarlands$Table" "cells" "LDollGarlands$Row;", .methodLink RX4 28 yX3_at, .instanceMethod yX3_at, .selects RX3 yX3_at yX3_at, .initialized RX3, .code yX3_at cX3_at 2 (some .int), .fieldLink RX3 7 "DollGarlands$Row" "cells" "[I"] ++ wsX40 ++ wsX30)
def wsX4_rightHand : List Cond := .code yX4_rightHand cX4_rightHand 2 (some .int) :: ([.fieldLink RX4 16 "DollGarlands$Table" "cells" "LDollGarlands$Row;", .methodLink RX4 28 yX3_at, .instanceMethod yX3_at, .selects RX3 yX3_at yX3_at, .initialized RX3, .code yX3_at cX3_at 2 (some .int), .fieldLink RX3 7 "DollGarlands$Row" "cells" "[I"] ++ wsX40 ++ wsX30)
def wsX4_putHands : List Cond := .code yX4_putHands cX4_putHands 4 none :: ([.fieldLink RX4 16 "DollGarlands$Table" "cells" "LDollGarlands$Row;", .methodLink RX4 20 yX3_put, .instanceMethod yX3_put, .selects RX3 yX3_put yX3_put, .initialized RX3, .code yX3_put cX3_put 3 none, .fieldLink RX3 7 "DollGarlands$Row" "cells" "[I"] ++ wsX40 ++ wsX30)
def wsX4_putLength : List Cond := .code yX4_putLength cX4_putLength 3 none :: ([.fieldLink RX4 16 "DollGarlands$Table" "cells" "LDollGarlands$Row;", .methodLink RX4 20 yX3_put, .instanceMethod yX3_put, .selects RX3 yX3_put yX3_put, .initialized RX3, .code yX3_put cX3_put 3 none, .fieldLink RX3 7 "DollGarlands$Row" "cells" "[I"] ++ wsX40 ++ wsX30)
def wsX4_freeNumber : List Cond := .code yX4_freeNumber cX4_freeNumber 2 (some .int) :: ([.methodLink RX4 47 yX4_lengthOf, .instanceMethod yX4_lengthOf, .selects RX4 yX4_lengthOf yX4_lengthOf, .initialized RX4, .code yX4_lengthOf cX4_lengthOf 2 (some .int), .fieldLink RX4 16 "DollGarlands$Table" "cells" "LDollGarlands$Row;", .methodLink RX4 28 yX3_at, .instanceMethod yX3_at, .selects RX3 yX3_at yX3_at, .initialized RX3, .code yX3_at cX3_at 2 (some .int), .fieldLink RX3 7 "DollGarlands$Row" "cells" "[I"] ++ wsX40 ++ wsX30)
def wsX4_firstDoll : List Cond := .code yX4_firstDoll cX4_firstDoll 2 (some .int) :: ([.methodLink RX4 54 yX4_dollAt, .instanceMethod yX4_dollAt, .selects RX4 yX4_dollAt yX4_dollAt, .initialized RX4, .code yX4_dollAt cX4_dollAt 3 (some .int), .fieldLink RX4 16 "DollGarlands$Table" "cells" "LDollGarlands$Row;", .methodLink RX4 50 yX4_cellOf, .instanceMethod yX4_cellOf, .selects RX4 yX4_cellOf yX4_cellOf, .code yX4_cellOf cX4_cellOf 3 (some .int), .methodLink RX4 28 yX3_at, .instanceMethod yX3_at, .selects RX3 yX3_at yX3_at, .initialized RX3, .code yX3_at cX3_at 2 (some .int), .fieldLink RX3 7 "DollGarlands$Row" "cells" "[I"] ++ wsX40 ++ wsX30)
def wsX4_lastDoll : List Cond := .code yX4_lastDoll cX4_lastDoll 2 (some .int) :: ([.methodLink RX4 47 yX4_lengthOf, .instanceMethod yX4_lengthOf, .selects RX4 yX4_lengthOf yX4_lengthOf, .initialized RX4, .code yX4_lengthOf cX4_lengthOf 2 (some .int), .fieldLink RX4 16 "DollGarlands$Table" "cells" "LDollGarlands$Row;", .methodLink RX4 28 yX3_at, .instanceMethod yX3_at, .selects RX3 yX3_at yX3_at, .initialized RX3, .code yX3_at cX3_at 2 (some .int), .fieldLink RX3 7 "DollGarlands$Row" "cells" "[I", .methodLink RX4 54 yX4_dollAt, .instanceMethod yX4_dollAt, .selects RX4 yX4_dollAt yX4_dollAt, .code yX4_dollAt cX4_dollAt 3 (some .int), .methodLink RX4 50 yX4_cellOf, .instanceMethod yX4_cellOf, .selects RX4 yX4_cellOf yX4_cellOf, .code yX4_cellOf cX4_cellOf 3 (some .int)] ++ wsX40 ++ wsX30)
def wsX4_putDoll : List Cond := .code yX4_putDoll cX4_putDoll 4 none :: ([.fieldLink RX4 16 "DollGarlands$Table" "cells" "LDollGarlands$Row;", .methodLink RX4 50 yX4_cellOf, .instanceMethod yX4_cellOf, .selects RX4 yX4_cellOf yX4_cellOf, .initialized RX4, .code yX4_cellOf cX4_cellOf 3 (some .int), .methodLink RX4 20 yX3_put, .instanceMethod yX3_put, .selects RX3 yX3_put yX3_put, .initialized RX3, .code yX3_put cX3_put 3 none, .fieldLink RX3 7 "DollGarlands$Row" "cells" "[I"] ++ wsX40 ++ wsX30)
def wsX4_copyDolls : List Cond := .code yX4_copyDolls cX4_copyDolls 6 none :: ([.fieldLink RX4 16 "DollGarlands$Table" "cells" "LDollGarlands$Row;", .methodLink RX4 50 yX4_cellOf, .instanceMethod yX4_cellOf, .selects RX4 yX4_cellOf yX4_cellOf, .initialized RX4, .code yX4_cellOf cX4_cellOf 3 (some .int), .methodLink RX4 24 yX3_copyFrom, .instanceMethod yX3_copyFrom, .selects RX3 yX3_copyFrom yX3_copyFrom, .initialized RX3, .code yX3_copyFrom cX3_copyFrom 5 none, .fieldLink RX3 7 "DollGarlands$Row" "cells" "[I", .methodLink RX3 13 arraycopyName, .native arraycopyName, .static arraycopyName, .initialized "java/lang/System"] ++ wsX40 ++ wsX30)
def wsX4_hangUp : List Cond := .code yX4_hangUp cX4_hangUp 4 none :: ([.fieldLink RX4 16 "DollGarlands$Table" "cells" "LDollGarlands$Row;", .methodLink RX4 50 yX4_cellOf, .instanceMethod yX4_cellOf, .selects RX4 yX4_cellOf yX4_cellOf, .initialized RX4, .code yX4_cellOf cX4_cellOf 3 (some .int), .methodLink RX4 24 yX3_copyFrom, .instanceMethod yX3_copyFrom, .selects RX3 yX3_copyFrom yX3_copyFrom, .initialized RX3, .code yX3_copyFrom cX3_copyFrom 5 none, .fieldLink RX3 7 "DollGarlands$Row" "cells" "[I", .methodLink RX3 13 arraycopyName, .native arraycopyName, .static arraycopyName, .initialized "java/lang/System", .methodLink RX4 57 yX4_putLength, .instanceMethod yX4_putLength, .selects RX4 yX4_putLength yX4_putLength, .code yX4_putLength cX4_putLength 3 none, .methodLink RX4 20 yX3_put, .instanceMethod yX3_put, .selects RX3 yX3_put yX3_put, .code yX3_put cX3_put 3 none] ++ wsX40 ++ wsX30)
def wsX4_turnRound_r1 : List Cond := [Cond.methodLink RX4 47 yX4_lengthOf, Cond.instanceMethod yX4_lengthOf, Cond.selects RX4 yX4_lengthOf yX4_lengthOf, Cond.initialized RX4, Cond.code yX4_lengthOf cX4_lengthOf 2 (some .int), Cond.fieldLink RX4 16 "DollGarlands$Table" "cells" "LDollGarlands$Row;", Cond.methodLink RX4 28 yX3_at, Cond.instanceMethod yX3_at, Cond.selects RX3 yX3_at yX3_at, Cond.initialized RX3, Cond.code yX3_at cX3_at 2 (some .int), Cond.fieldLink RX3 7 "DollGarlands$Row" "cells" "[I", Cond.methodLink RX4 54 yX4_dollAt, Cond.instanceMethod yX4_dollAt, Cond.selects RX4 yX4_dollAt yX4_dollAt, Cond.code yX4_dollAt cX4_dollAt 3 (some .int), Cond.methodLink RX4 50 yX4_cellOf, Cond.instanceMethod yX4_cellOf, Cond.selects RX4 yX4_cellOf yX4_cellOf, Cond.code yX4_cellOf cX4_cellOf 3 (some .int), Cond.static yX6_mirrorOf, Cond.initialized RX6, Cond.code yX6_mirrorOf cX6_mirrorOf 1 (some .int), Cond.methodLink RX4 63 yX4_putDoll]
def wsX4_turnRound_r2 : List Cond := [Cond.instanceMethod yX4_putDoll, Cond.selects RX4 yX4_putDoll yX4_putDoll, Cond.code yX4_putDoll cX4_putDoll 4 none, Cond.methodLink RX4 20 yX3_put, Cond.instanceMethod yX3_put, Cond.selects RX3 yX3_put yX3_put, Cond.code yX3_put cX3_put 3 none]
def wsX4_turnRound : List Cond := .code yX4_turnRound cX4_turnRound 5 none :: ((wsX4_turnRound_r1 ++ wsX4_turnRound_r2) ++ wsX40 ++ wsX30)
def wsX4_foldOut_r1 : List Cond := [Cond.methodLink RX4 47 yX4_lengthOf, Cond.instanceMethod yX4_lengthOf, Cond.selects RX4 yX4_lengthOf yX4_lengthOf, Cond.initialized RX4, Cond.code yX4_lengthOf cX4_lengthOf 2 (some .int), Cond.fieldLink RX4 16 "DollGarlands$Table" "cells" "LDollGarlands$Row;", Cond.methodLink RX4 28 yX3_at, Cond.instanceMethod yX3_at, Cond.selects RX3 yX3_at yX3_at, Cond.initialized RX3, Cond.code yX3_at cX3_at 2 (some .int), Cond.fieldLink RX3 7 "DollGarlands$Row" "cells" "[I", Cond.methodLink RX4 54 yX4_dollAt, Cond.instanceMethod yX4_dollAt, Cond.selects RX4 yX4_dollAt yX4_dollAt, Cond.code yX4_dollAt cX4_dollAt 3 (some .int), Cond.methodLink RX4 50 yX4_cellOf, Cond.instanceMethod yX4_cellOf, Cond.selects RX4 yX4_cellOf yX4_cellOf, Cond.code yX4_cellOf cX4_cellOf 3 (some .int), Cond.static yX6_mirrorOf, Cond.initialized RX6, Cond.code yX6_mirrorOf cX6_mirrorOf 1 (some .int), Cond.methodLink RX4 63 yX4_putDoll]
def wsX4_foldOut_r2 : List Cond := [Cond.instanceMethod yX4_putDoll, Cond.selects RX4 yX4_putDoll yX4_putDoll, Cond.code yX4_putDoll cX4_putDoll 4 none, Cond.methodLink RX4 20 yX3_put, Cond.instanceMethod yX3_put, Cond.selects RX3 yX3_put yX3_put, Cond.code yX3_put cX3_put 3 none, Cond.methodLink RX4 57 yX4_putLength, Cond.instanceMethod yX4_putLength, Cond.selects RX4 yX4_putLength yX4_putLength, Cond.code yX4_putLength cX4_putLength 3 none]
def wsX4_foldOut : List Cond := .code yX4_foldOut cX4_foldOut 5 none :: ((wsX4_foldOut_r1 ++ wsX4_foldOut_r2) ++ wsX40 ++ wsX30)
def wsX4_hasClashIn_r1 : List Cond := [Cond.methodLink RX4 28 yX3_at, Cond.instanceMethod yX3_at, Cond.selects RX3 yX3_at yX3_at, Cond.initialized RX3, Cond.code yX3_at cX3_at 2 (some .int), Cond.fieldLink RX3 7 "DollGarlands$Row" "cells" "[I", Cond.methodLink RX4 76 yX4_clash, Cond.instanceMethod yX4_clash, Cond.selects RX4 yX4_clash yX4_clash, Cond.initialized RX4, Cond.code yX4_clash cX4_clash 6 (some .boolean), Cond.methodLink RX4 67 yX4_rightOf, Cond.instanceMethod yX4_rightOf, Cond.selects RX4 yX4_rightOf yX4_rightOf, Cond.code yX4_rightOf cX4_rightOf 2 (some .int), Cond.fieldLink RX4 16 "DollGarlands$Table" "cells" "LDollGarlands$Row;", Cond.static yX6_isMirrored, Cond.initialized RX6, Cond.code yX6_isMirrored cX6_isMirrored 1 (some .boolean), Cond.static yX6_kindOf, Cond.code yX6_kindOf cX6_kindOf 1 (some .int), Cond.methodLink RX4 70 yX4_leftOf, Cond.instanceMethod yX4_leftOf, Cond.selects RX4 yX4_leftOf yX4_leftOf]
def wsX4_hasClashIn_r2 : List Cond := [Cond.code yX4_leftOf cX4_leftOf 2 (some .int), Cond.methodLink RX4 73 yX4_ruleNow, Cond.instanceMethod yX4_ruleNow, Cond.selects RX4 yX4_ruleNow yX4_ruleNow, Cond.code yX4_ruleNow cX4_ruleNow 1 (some .int)]
def wsX4_hasClashIn : List Cond := .code yX4_hasClashIn cX4_hasClashIn 5 (some .boolean) :: ((wsX4_hasClashIn_r1 ++ wsX4_hasClashIn_r2) ++ wsX30 ++ wsX40)
def wsX4_hasClash_r1 : List Cond := [Cond.fieldLink RX4 16 "DollGarlands$Table" "cells" "LDollGarlands$Row;", Cond.methodLink RX4 50 yX4_cellOf, Cond.instanceMethod yX4_cellOf, Cond.selects RX4 yX4_cellOf yX4_cellOf, Cond.initialized RX4, Cond.code yX4_cellOf cX4_cellOf 3 (some .int), Cond.methodLink RX4 47 yX4_lengthOf, Cond.instanceMethod yX4_lengthOf, Cond.selects RX4 yX4_lengthOf yX4_lengthOf, Cond.code yX4_lengthOf cX4_lengthOf 2 (some .int), Cond.methodLink RX4 28 yX3_at, Cond.instanceMethod yX3_at, Cond.selects RX3 yX3_at yX3_at, Cond.initialized RX3, Cond.code yX3_at cX3_at 2 (some .int), Cond.fieldLink RX3 7 "DollGarlands$Row" "cells" "[I", Cond.methodLink RX4 79 yX4_hasClashIn, Cond.instanceMethod yX4_hasClashIn, Cond.selects RX4 yX4_hasClashIn yX4_hasClashIn, Cond.code yX4_hasClashIn cX4_hasClashIn 5 (some .boolean), Cond.methodLink RX4 76 yX4_clash, Cond.instanceMethod yX4_clash, Cond.selects RX4 yX4_clash yX4_clash, Cond.code yX4_clash cX4_clash 6 (some .boolean)]
def wsX4_hasClash_r2 : List Cond := [Cond.methodLink RX4 67 yX4_rightOf, Cond.instanceMethod yX4_rightOf, Cond.selects RX4 yX4_rightOf yX4_rightOf, Cond.code yX4_rightOf cX4_rightOf 2 (some .int), Cond.static yX6_isMirrored, Cond.initialized RX6, Cond.code yX6_isMirrored cX6_isMirrored 1 (some .boolean), Cond.static yX6_kindOf, Cond.code yX6_kindOf cX6_kindOf 1 (some .int), Cond.methodLink RX4 70 yX4_leftOf, Cond.instanceMethod yX4_leftOf, Cond.selects RX4 yX4_leftOf yX4_leftOf, Cond.code yX4_leftOf cX4_leftOf 2 (some .int), Cond.methodLink RX4 73 yX4_ruleNow, Cond.instanceMethod yX4_ruleNow, Cond.selects RX4 yX4_ruleNow yX4_ruleNow, Cond.code yX4_ruleNow cX4_ruleNow 1 (some .int)]
def wsX4_hasClash : List Cond := .code yX4_hasClash cX4_hasClash 2 (some .boolean) :: ((wsX4_hasClash_r1 ++ wsX4_hasClash_r2) ++ wsX40 ++ wsX30)
def wsX4_hasKindsOf : List Cond := .code yX4_hasKindsOf cX4_hasKindsOf 4 (some .boolean) :: ([.methodLink RX4 28 yX3_at, .instanceMethod yX3_at, .selects RX3 yX3_at yX3_at, .initialized RX3, .code yX3_at cX3_at 2 (some .int), .fieldLink RX3 7 "DollGarlands$Row" "cells" "[I", .static yX6_kindOf, .initialized RX6, .code yX6_kindOf cX6_kindOf 1 (some .int), .methodLink RX4 83 yX4_hasKind, .instanceMethod yX4_hasKind, .selects RX4 yX4_hasKind yX4_hasKind, .initialized RX4, .code yX4_hasKind cX4_hasKind 2 (some .boolean), .methodLink RX4 32 yX4_kindsNow, .instanceMethod yX4_kindsNow, .selects RX4 yX4_kindsNow yX4_kindsNow, .code yX4_kindsNow cX4_kindsNow 1 (some .int), .fieldLink RX4 16 "DollGarlands$Table" "cells" "LDollGarlands$Row;", .static yX6_isBelow, .code yX6_isBelow cX6_isBelow 2 (some .boolean)] ++ wsX30 ++ wsX40)
def wsX5_init : List Cond := .code yX5_init cX5_init 1 none :: ([.methodLink RX5 3 objectInit, .instanceMethod objectInit, .code objectInit ⟨#[0xb1]⟩ 1 none, .classLink RX5 9 RX3, .instantiable RX3 1, .initialized RX3, .fieldLink RX5 14 "DollGarlands$Text" "characters" "LDollGarlands$Row;", .fieldLink RX5 20 "DollGarlands$Text" "length" "I", .methodLink RX5 11 yX3_init, .instanceMethod yX3_init, .code yX3_init cX3_init 2 none, .methodLink RX3 1 objectInit, .arrayClass .int, .fieldLink RX3 7 "DollGarlands$Row" "cells" "[I"] ++ wsX30 ++ wsX50)
def wsX5_size : List Cond := .code yX5_size cX5_size 1 (some .int) :: ([.fieldLink RX5 20 "DollGarlands$Text" "length" "I"] ++ wsX50)
def wsX5_isFull : List Cond := .code yX5_isFull cX5_isFull 1 (some .boolean) :: ([.fieldLink RX5 20 "DollGarlands$Text" "length" "I"] ++ wsX50)
def wsX5_add : List Cond := .code yX5_add cX5_add 2 (some .int) :: ([.fieldLink RX5 14 "DollGarlands$Text" "characters" "LDollGarlands$Row;", .fieldLink RX5 20 "DollGarlands$Text" "length" "I", .methodLink RX5 24 yX3_put, .instanceMethod yX3_put, .selects RX3 yX3_put yX3_put, .initialized RX3, .code yX3_put cX3_put 3 none, .fieldLink RX3 7 "DollGarlands$Row" "cells" "[I"] ++ wsX50 ++ wsX30)
def wsX5_empty : List Cond := .code yX5_empty cX5_empty 2 (some .int) :: ([.fieldLink RX5 20 "DollGarlands$Text" "length" "I"] ++ wsX50)
def wsX5_isDigit : List Cond := .code yX5_isDigit cX5_isDigit 1 (some .boolean) :: ([])
def wsX5_fault : List Cond := .code yX5_fault cX5_fault 6 (some .int) :: ([.fieldLink RX5 20 "DollGarlands$Text" "length" "I", .fieldLink RX5 14 "DollGarlands$Text" "characters" "LDollGarlands$Row;", .methodLink RX5 28 yX3_at, .instanceMethod yX3_at, .selects RX3 yX3_at yX3_at, .initialized RX3, .code yX3_at cX3_at 2 (some .int), .fieldLink RX3 7 "DollGarlands$Row" "cells" "[I", .methodLink RX5 32 yX5_isDigit, .static yX5_isDigit, .initialized RX5, .code yX5_isDigit cX5_isDigit 1 (some .boolean)] ++ wsX50 ++ wsX30)
def wsX6_dollOf : List Cond := .code yX6_dollOf cX6_dollOf 2 (some .int) :: ([.methodLink RX6 200 yX6_oneIf, .static yX6_oneIf, .initialized RX6, .code yX6_oneIf cX6_oneIf 1 (some .int)])
def wsX5_spellDolls : List Cond := .code yX5_spellDolls cX5_spellDolls 5 (some .int) :: ([.fieldLink RX5 20 "DollGarlands$Text" "length" "I", .fieldLink RX5 14 "DollGarlands$Text" "characters" "LDollGarlands$Row;", .methodLink RX5 28 yX3_at, .instanceMethod yX3_at, .selects RX3 yX3_at yX3_at, .initialized RX3, .code yX3_at cX3_at 2 (some .int), .fieldLink RX3 7 "DollGarlands$Row" "cells" "[I", .methodLink RX5 32 yX5_isDigit, .static yX5_isDigit, .initialized RX5, .code yX5_isDigit cX5_isDigit 1 (some .boolean), .static yX6_dollOf, .initialized RX6, .code yX6_dollOf cX6_dollOf 2 (some .int), .methodLink RX6 200 yX6_oneIf, .static yX6_oneIf, .code yX6_oneIf cX6_oneIf 1 (some .int), .methodLink RX5 24 yX3_put, .instanceMethod yX3_put, .selects RX3 yX3_put yX3_put, .code yX3_put cX3_put 3 none, .static yX6_mirrorOf, .code yX6_mirrorOf cX6_mirrorOf 1 (some .int)] ++ wsX50 ++ wsX30)
def wsX6_init_r1 : List Cond := [Cond.methodLink RX6 3 objectInit, Cond.instanceMethod objectInit, Cond.code objectInit ⟨#[0xb1]⟩ 1 none, Cond.classLink RX6 9 RX4, Cond.instantiable RX4 1, Cond.initialized RX4, Cond.fieldLink RX6 12 "DollGarlands" "table" "LDollGarlands$Table;", Cond.classLink RX6 16 RX2, Cond.instantiable RX2 1, Cond.initialized RX2, Cond.fieldLink RX6 21 "DollGarlands" "looks" "LDollGarlands$Looks;", Cond.classLink RX6 25 RX0, Cond.instantiable RX0 4, Cond.initialized RX0, Cond.fieldLink RX6 28 "DollGarlands" "chains" "LDollGarlands$Chains;", Cond.classLink RX6 32 RX1, Cond.instantiable RX1 3, Cond.initialized RX1, Cond.fieldLink RX6 35 "DollGarlands" "history" "LDollGarlands$History;", Cond.classLink RX6 39 RX5, Cond.instantiable RX5 2, Cond.initialized RX5, Cond.fieldLink RX6 42 "DollGarlands" "text" "LDollGarlands$Text;", Cond.classLink RX6 46 RX3]
def wsX6_init_r2 : List Cond := [Cond.instantiable RX3 1, Cond.initialized RX3, Cond.fieldLink RX6 51 "DollGarlands" "snapshot" "LDollGarlands$Row;", Cond.fieldLink RX6 55 "DollGarlands" "bench" "LDollGarlands$Row;", Cond.fieldLink RX6 58 "DollGarlands" "hasSnapshot" "Z", Cond.methodLink RX6 11 yX4_init, Cond.instanceMethod yX4_init, Cond.code yX4_init cX4_init 2 none, Cond.methodLink RX4 5 objectInit, Cond.classLink RX4 11 RX3, Cond.fieldLink RX4 16 "DollGarlands$Table" "cells" "LDollGarlands$Row;", Cond.methodLink RX4 13 yX3_init, Cond.instanceMethod yX3_init, Cond.code yX3_init cX3_init 2 none, Cond.methodLink RX3 1 objectInit, Cond.arrayClass .int, Cond.fieldLink RX3 7 "DollGarlands$Row" "cells" "[I", Cond.methodLink RX4 20 yX3_put, Cond.instanceMethod yX3_put, Cond.selects RX3 yX3_put yX3_put, Cond.code yX3_put cX3_put 3 none, Cond.methodLink RX6 18 yX2_init, Cond.instanceMethod yX2_init, Cond.code yX2_init cX2_init 2 none]
def wsX6_init_r3 : List Cond := [Cond.methodLink RX2 3 objectInit, Cond.fieldLink RX2 9 "DollGarlands$Looks" "table" "LDollGarlands$Table;", Cond.methodLink RX6 27 yX0_init, Cond.instanceMethod yX0_init, Cond.code yX0_init cX0_init 2 none, Cond.methodLink RX0 3 objectInit, Cond.fieldLink RX0 9 "DollGarlands$Chains" "table" "LDollGarlands$Table;", Cond.classLink RX0 15 RX3, Cond.fieldLink RX0 20 "DollGarlands$Chains" "followers" "LDollGarlands$Row;", Cond.fieldLink RX0 24 "DollGarlands$Chains" "endings" "LDollGarlands$Row;", Cond.fieldLink RX0 27 "DollGarlands$Chains" "longer" "LDollGarlands$Row;", Cond.methodLink RX0 17 yX3_init, Cond.methodLink RX6 34 yX1_init, Cond.instanceMethod yX1_init, Cond.code yX1_init cX1_init 1 none, Cond.methodLink RX1 3 objectInit, Cond.classLink RX1 9 RX3, Cond.fieldLink RX1 16 "DollGarlands$History" "states" "LDollGarlands$Row;", Cond.fieldLink RX1 22 "DollGarlands$History" "oldest" "I", Cond.fieldLink RX1 26 "DollGarlands$History" "recorded" "I", Cond.methodLink RX1 13 yX3_init, Cond.methodLink RX6 41 yX5_init, Cond.instanceMethod yX5_init, Cond.code yX5_init cX5_init 1 none]
def wsX6_init_r4 : List Cond := [Cond.methodLink RX5 3 objectInit, Cond.classLink RX5 9 RX3, Cond.fieldLink RX5 14 "DollGarlands$Text" "characters" "LDollGarlands$Row;", Cond.fieldLink RX5 20 "DollGarlands$Text" "length" "I", Cond.methodLink RX5 11 yX3_init, Cond.methodLink RX6 48 yX3_init]
def wsX6_init : List Cond := .code yX6_init cX6_init 1 none :: ((wsX6_init_r1 ++ (wsX6_init_r2 ++ (wsX6_init_r3 ++ wsX6_init_r4))) ++ wsX40 ++ wsX60 ++ wsX20 ++ wsX00 ++ wsX10 ++ wsX50 ++ wsX30)
def wsX6_setHands_r1 : List Cond := [Cond.fieldLink RX6 12 "DollGarlands" "table" "LDollGarlands$Table;", Cond.fieldLink RX6 35 "DollGarlands" "history" "LDollGarlands$History;", Cond.methodLink RX6 62 yX4_hasKind, Cond.instanceMethod yX4_hasKind, Cond.selects RX4 yX4_hasKind yX4_hasKind, Cond.initialized RX4, Cond.code yX4_hasKind cX4_hasKind 2 (some .boolean), Cond.methodLink RX4 32 yX4_kindsNow, Cond.instanceMethod yX4_kindsNow, Cond.selects RX4 yX4_kindsNow yX4_kindsNow, Cond.code yX4_kindsNow cX4_kindsNow 1 (some .int), Cond.fieldLink RX4 16 "DollGarlands$Table" "cells" "LDollGarlands$Row;", Cond.methodLink RX4 28 yX3_at, Cond.instanceMethod yX3_at, Cond.selects RX3 yX3_at yX3_at, Cond.initialized RX3, Cond.code yX3_at cX3_at 2 (some .int), Cond.fieldLink RX3 7 "DollGarlands$Row" "cells" "[I", Cond.static yX6_isBelow, Cond.initialized RX6, Cond.code yX6_isBelow cX6_isBelow 2 (some .boolean), Cond.methodLink RX6 66 yX6_isBelow, Cond.methodLink RX6 70 yX4_leftHand, Cond.instanceMethod yX4_leftHand]
def wsX6_setHands_r2 : List Cond := [Cond.selects RX4 yX4_leftHand yX4_leftHand, Cond.code yX4_leftHand cX4_leftHand 2 (some .int), Cond.methodLink RX6 74 yX4_rightHand, Cond.instanceMethod yX4_rightHand, Cond.selects RX4 yX4_rightHand yX4_rightHand, Cond.code yX4_rightHand cX4_rightHand 2 (some .int), Cond.methodLink RX6 77 yX4_putHands, Cond.instanceMethod yX4_putHands, Cond.selects RX4 yX4_putHands yX4_putHands, Cond.code yX4_putHands cX4_putHands 4 none, Cond.methodLink RX4 20 yX3_put, Cond.instanceMethod yX3_put, Cond.selects RX3 yX3_put yX3_put, Cond.code yX3_put cX3_put 3 none, Cond.methodLink RX6 81 yX4_hasClash, Cond.instanceMethod yX4_hasClash, Cond.selects RX4 yX4_hasClash yX4_hasClash, Cond.code yX4_hasClash cX4_hasClash 2 (some .boolean), Cond.methodLink RX4 50 yX4_cellOf, Cond.instanceMethod yX4_cellOf, Cond.selects RX4 yX4_cellOf yX4_cellOf, Cond.code yX4_cellOf cX4_cellOf 3 (some .int), Cond.methodLink RX4 47 yX4_lengthOf, Cond.instanceMethod yX4_lengthOf]
def wsX6_setHands_r3 : List Cond := [Cond.selects RX4 yX4_lengthOf yX4_lengthOf, Cond.code yX4_lengthOf cX4_lengthOf 2 (some .int), Cond.methodLink RX4 79 yX4_hasClashIn, Cond.instanceMethod yX4_hasClashIn, Cond.selects RX4 yX4_hasClashIn yX4_hasClashIn, Cond.code yX4_hasClashIn cX4_hasClashIn 5 (some .boolean), Cond.methodLink RX4 76 yX4_clash, Cond.instanceMethod yX4_clash, Cond.selects RX4 yX4_clash yX4_clash, Cond.code yX4_clash cX4_clash 6 (some .boolean), Cond.methodLink RX4 67 yX4_rightOf, Cond.instanceMethod yX4_rightOf, Cond.selects RX4 yX4_rightOf yX4_rightOf, Cond.code yX4_rightOf cX4_rightOf 2 (some .int), Cond.static yX6_isMirrored, Cond.code yX6_isMirrored cX6_isMirrored 1 (some .boolean), Cond.static yX6_kindOf, Cond.code yX6_kindOf cX6_kindOf 1 (some .int), Cond.methodLink RX4 70 yX4_leftOf, Cond.instanceMethod yX4_leftOf, Cond.selects RX4 yX4_leftOf yX4_leftOf, Cond.code yX4_leftOf cX4_leftOf 2 (some .int), Cond.methodLink RX4 73 yX4_ruleNow, Cond.instanceMethod yX4_ruleNow]
def wsX6_setHands_r4 : List Cond := [Cond.selects RX4 yX4_ruleNow yX4_ruleNow, Cond.code yX4_ruleNow cX4_ruleNow 1 (some .int), Cond.methodLink RX6 85 yX1_remember, Cond.instanceMethod yX1_remember, Cond.selects RX1 yX1_remember yX1_remember, Cond.initialized RX1, Cond.code yX1_remember cX1_remember 2 none, Cond.fieldLink RX1 26 "DollGarlands$History" "recorded" "I", Cond.fieldLink RX1 22 "DollGarlands$History" "oldest" "I", Cond.fieldLink RX1 16 "DollGarlands$History" "states" "LDollGarlands$Row;", Cond.methodLink RX1 29 yX1_cellOf, Cond.instanceMethod yX1_cellOf, Cond.selects RX1 yX1_cellOf yX1_cellOf, Cond.code yX1_cellOf cX1_cellOf 2 (some .int), Cond.methodLink RX1 33 yX4_saveTo, Cond.instanceMethod yX4_saveTo, Cond.selects RX4 yX4_saveTo yX4_saveTo, Cond.code yX4_saveTo cX4_saveTo 3 none, Cond.methodLink RX4 24 yX3_copyFrom, Cond.instanceMethod yX3_copyFrom, Cond.selects RX3 yX3_copyFrom yX3_copyFrom, Cond.code yX3_copyFrom cX3_copyFrom 5 none, Cond.methodLink RX3 13 arraycopyName, Cond.native arraycopyName]
def wsX6_setHands_r5 : List Cond := [Cond.static arraycopyName, Cond.initialized "java/lang/System"]
def wsX6_setHands : List Cond := .code yX6_setHands cX6_setHands 7 (some .int) :: ((wsX6_setHands_r1 ++ (wsX6_setHands_r2 ++ (wsX6_setHands_r3 ++ (wsX6_setHands_r4 ++ wsX6_setHands_r5)))) ++ wsX60 ++ wsX40 ++ wsX30 ++ wsX10)
def wsX6_setRule_r1 : List Cond := [Cond.fieldLink RX6 12 "DollGarlands" "table" "LDollGarlands$Table;", Cond.fieldLink RX6 35 "DollGarlands" "history" "LDollGarlands$History;", Cond.methodLink RX6 66 yX6_isBelow, Cond.static yX6_isBelow, Cond.initialized RX6, Cond.code yX6_isBelow cX6_isBelow 2 (some .boolean), Cond.methodLink RX6 88 yX4_ruleNow, Cond.instanceMethod yX4_ruleNow, Cond.selects RX4 yX4_ruleNow yX4_ruleNow, Cond.initialized RX4, Cond.code yX4_ruleNow cX4_ruleNow 1 (some .int), Cond.fieldLink RX4 16 "DollGarlands$Table" "cells" "LDollGarlands$Row;", Cond.methodLink RX4 28 yX3_at, Cond.instanceMethod yX3_at, Cond.selects RX3 yX3_at yX3_at, Cond.initialized RX3, Cond.code yX3_at cX3_at 2 (some .int), Cond.fieldLink RX3 7 "DollGarlands$Row" "cells" "[I", Cond.methodLink RX6 92 yX4_putRule, Cond.instanceMethod yX4_putRule, Cond.selects RX4 yX4_putRule yX4_putRule, Cond.code yX4_putRule cX4_putRule 2 none, Cond.methodLink RX4 20 yX3_put, Cond.instanceMethod yX3_put]
def wsX6_setRule_r2 : List Cond := [Cond.selects RX3 yX3_put yX3_put, Cond.code yX3_put cX3_put 3 none, Cond.methodLink RX6 81 yX4_hasClash, Cond.instanceMethod yX4_hasClash, Cond.selects RX4 yX4_hasClash yX4_hasClash, Cond.code yX4_hasClash cX4_hasClash 2 (some .boolean), Cond.methodLink RX4 50 yX4_cellOf, Cond.instanceMethod yX4_cellOf, Cond.selects RX4 yX4_cellOf yX4_cellOf, Cond.code yX4_cellOf cX4_cellOf 3 (some .int), Cond.methodLink RX4 47 yX4_lengthOf, Cond.instanceMethod yX4_lengthOf, Cond.selects RX4 yX4_lengthOf yX4_lengthOf, Cond.code yX4_lengthOf cX4_lengthOf 2 (some .int), Cond.methodLink RX4 79 yX4_hasClashIn, Cond.instanceMethod yX4_hasClashIn, Cond.selects RX4 yX4_hasClashIn yX4_hasClashIn, Cond.code yX4_hasClashIn cX4_hasClashIn 5 (some .boolean), Cond.methodLink RX4 76 yX4_clash, Cond.instanceMethod yX4_clash, Cond.selects RX4 yX4_clash yX4_clash, Cond.code yX4_clash cX4_clash 6 (some .boolean), Cond.methodLink RX4 67 yX4_rightOf, Cond.instanceMethod yX4_rightOf]
def wsX6_setRule_r3 : List Cond := [Cond.selects RX4 yX4_rightOf yX4_rightOf, Cond.code yX4_rightOf cX4_rightOf 2 (some .int), Cond.static yX6_isMirrored, Cond.code yX6_isMirrored cX6_isMirrored 1 (some .boolean), Cond.static yX6_kindOf, Cond.code yX6_kindOf cX6_kindOf 1 (some .int), Cond.methodLink RX4 70 yX4_leftOf, Cond.instanceMethod yX4_leftOf, Cond.selects RX4 yX4_leftOf yX4_leftOf, Cond.code yX4_leftOf cX4_leftOf 2 (some .int), Cond.methodLink RX4 73 yX4_ruleNow, Cond.methodLink RX6 85 yX1_remember, Cond.instanceMethod yX1_remember, Cond.selects RX1 yX1_remember yX1_remember, Cond.initialized RX1, Cond.code yX1_remember cX1_remember 2 none, Cond.fieldLink RX1 26 "DollGarlands$History" "recorded" "I", Cond.fieldLink RX1 22 "DollGarlands$History" "oldest" "I", Cond.fieldLink RX1 16 "DollGarlands$History" "states" "LDollGarlands$Row;", Cond.methodLink RX1 29 yX1_cellOf, Cond.instanceMethod yX1_cellOf, Cond.selects RX1 yX1_cellOf yX1_cellOf, Cond.code yX1_cellOf cX1_cellOf 2 (some .int), Cond.methodLink RX1 33 yX4_saveTo]
def wsX6_setRule_r4 : List Cond := [Cond.instanceMethod yX4_saveTo, Cond.selects RX4 yX4_saveTo yX4_saveTo, Cond.code yX4_saveTo cX4_saveTo 3 none, Cond.methodLink RX4 24 yX3_copyFrom, Cond.instanceMethod yX3_copyFrom, Cond.selects RX3 yX3_copyFrom yX3_copyFrom, Cond.code yX3_copyFrom cX3_copyFrom 5 none, Cond.methodLink RX3 13 arraycopyName, Cond.native arraycopyName, Cond.static arraycopyName, Cond.initialized "java/lang/System"]
def wsX6_setRule : List Cond := .code yX6_setRule cX6_setRule 4 (some .int) :: ((wsX6_setRule_r1 ++ (wsX6_setRule_r2 ++ (wsX6_setRule_r3 ++ wsX6_setRule_r4))) ++ wsX60 ++ wsX40 ++ wsX30 ++ wsX10)
def wsX6_setKinds_r1 : List Cond := [Cond.fieldLink RX6 21 "DollGarlands" "looks" "LDollGarlands$Looks;", Cond.fieldLink RX6 12 "DollGarlands" "table" "LDollGarlands$Table;", Cond.fieldLink RX6 35 "DollGarlands" "history" "LDollGarlands$History;", Cond.methodLink RX6 95 yX2_highestKind, Cond.instanceMethod yX2_highestKind, Cond.selects RX2 yX2_highestKind yX2_highestKind, Cond.initialized RX2, Cond.code yX2_highestKind cX2_highestKind 5 (some .int), Cond.fieldLink RX2 9 "DollGarlands$Looks" "table" "LDollGarlands$Table;", Cond.methodLink RX2 49 Lib.Math.max.name, Cond.static Lib.Math.max.name, Cond.initialized "java/lang/Math", Cond.code Lib.Math.max.name Lib.Math.max.code 2 (some .int), Cond.methodLink RX2 15 yX4_lengthOf, Cond.instanceMethod yX4_lengthOf, Cond.selects RX4 yX4_lengthOf yX4_lengthOf, Cond.initialized RX4, Cond.code yX4_lengthOf cX4_lengthOf 2 (some .int), Cond.fieldLink RX4 16 "DollGarlands$Table" "cells" "LDollGarlands$Row;", Cond.methodLink RX4 28 yX3_at, Cond.instanceMethod yX3_at, Cond.selects RX3 yX3_at yX3_at, Cond.initialized RX3, Cond.code yX3_at cX3_at 2 (some .int)]
def wsX6_setKinds_r2 : List Cond := [Cond.fieldLink RX3 7 "DollGarlands$Row" "cells" "[I", Cond.methodLink RX2 21 yX4_dollAt, Cond.instanceMethod yX4_dollAt, Cond.selects RX4 yX4_dollAt yX4_dollAt, Cond.code yX4_dollAt cX4_dollAt 3 (some .int), Cond.methodLink RX4 50 yX4_cellOf, Cond.instanceMethod yX4_cellOf, Cond.selects RX4 yX4_cellOf yX4_cellOf, Cond.code yX4_cellOf cX4_cellOf 3 (some .int), Cond.static yX6_kindOf, Cond.initialized RX6, Cond.code yX6_kindOf cX6_kindOf 1 (some .int), Cond.methodLink RX6 98 yX4_kindsNow, Cond.instanceMethod yX4_kindsNow, Cond.selects RX4 yX4_kindsNow yX4_kindsNow, Cond.code yX4_kindsNow cX4_kindsNow 1 (some .int), Cond.methodLink RX6 85 yX1_remember, Cond.instanceMethod yX1_remember, Cond.selects RX1 yX1_remember yX1_remember, Cond.initialized RX1, Cond.code yX1_remember cX1_remember 2 none, Cond.fieldLink RX1 26 "DollGarlands$History" "recorded" "I", Cond.fieldLink RX1 22 "DollGarlands$History" "oldest" "I", Cond.fieldLink RX1 16 "DollGarlands$History" "states" "LDollGarlands$Row;"]
def wsX6_setKinds_r3 : List Cond := [Cond.methodLink RX1 29 yX1_cellOf, Cond.instanceMethod yX1_cellOf, Cond.selects RX1 yX1_cellOf yX1_cellOf, Cond.code yX1_cellOf cX1_cellOf 2 (some .int), Cond.methodLink RX1 33 yX4_saveTo, Cond.instanceMethod yX4_saveTo, Cond.selects RX4 yX4_saveTo yX4_saveTo, Cond.code yX4_saveTo cX4_saveTo 3 none, Cond.methodLink RX4 24 yX3_copyFrom, Cond.instanceMethod yX3_copyFrom, Cond.selects RX3 yX3_copyFrom yX3_copyFrom, Cond.code yX3_copyFrom cX3_copyFrom 5 none, Cond.methodLink RX3 13 arraycopyName, Cond.native arraycopyName, Cond.static arraycopyName, Cond.initialized "java/lang/System", Cond.methodLink RX6 101 yX4_putKinds, Cond.instanceMethod yX4_putKinds, Cond.selects RX4 yX4_putKinds yX4_putKinds, Cond.code yX4_putKinds cX4_putKinds 2 none, Cond.methodLink RX4 20 yX3_put, Cond.instanceMethod yX3_put, Cond.selects RX3 yX3_put yX3_put, Cond.code yX3_put cX3_put 3 none]
def wsX6_setKinds : List Cond := .code yX6_setKinds cX6_setKinds 3 (some .int) :: ((wsX6_setKinds_r1 ++ (wsX6_setKinds_r2 ++ wsX6_setKinds_r3)) ++ wsX60 ++ wsX20 ++ wsX40 ++ wsX30 ++ wsX10)
def wsX6_cutDoll_r1 : List Cond := [Cond.fieldLink RX6 12 "DollGarlands" "table" "LDollGarlands$Table;", Cond.fieldLink RX6 35 "DollGarlands" "history" "LDollGarlands$History;", Cond.methodLink RX6 62 yX4_hasKind, Cond.instanceMethod yX4_hasKind, Cond.selects RX4 yX4_hasKind yX4_hasKind, Cond.initialized RX4, Cond.code yX4_hasKind cX4_hasKind 2 (some .boolean), Cond.methodLink RX4 32 yX4_kindsNow, Cond.instanceMethod yX4_kindsNow, Cond.selects RX4 yX4_kindsNow yX4_kindsNow, Cond.code yX4_kindsNow cX4_kindsNow 1 (some .int), Cond.fieldLink RX4 16 "DollGarlands$Table" "cells" "LDollGarlands$Row;", Cond.methodLink RX4 28 yX3_at, Cond.instanceMethod yX3_at, Cond.selects RX3 yX3_at yX3_at, Cond.initialized RX3, Cond.code yX3_at cX3_at 2 (some .int), Cond.fieldLink RX3 7 "DollGarlands$Row" "cells" "[I", Cond.static yX6_isBelow, Cond.initialized RX6, Cond.code yX6_isBelow cX6_isBelow 2 (some .boolean), Cond.methodLink RX6 104 yX4_freeNumber, Cond.instanceMethod yX4_freeNumber, Cond.selects RX4 yX4_freeNumber yX4_freeNumber]
def wsX6_cutDoll_r2 : List Cond := [Cond.code yX4_freeNumber cX4_freeNumber 2 (some .int), Cond.methodLink RX4 47 yX4_lengthOf, Cond.instanceMethod yX4_lengthOf, Cond.selects RX4 yX4_lengthOf yX4_lengthOf, Cond.code yX4_lengthOf cX4_lengthOf 2 (some .int), Cond.methodLink RX6 85 yX1_remember, Cond.instanceMethod yX1_remember, Cond.selects RX1 yX1_remember yX1_remember, Cond.initialized RX1, Cond.code yX1_remember cX1_remember 2 none, Cond.fieldLink RX1 26 "DollGarlands$History" "recorded" "I", Cond.fieldLink RX1 22 "DollGarlands$History" "oldest" "I", Cond.fieldLink RX1 16 "DollGarlands$History" "states" "LDollGarlands$Row;", Cond.methodLink RX1 29 yX1_cellOf, Cond.instanceMethod yX1_cellOf, Cond.selects RX1 yX1_cellOf yX1_cellOf, Cond.code yX1_cellOf cX1_cellOf 2 (some .int), Cond.methodLink RX1 33 yX4_saveTo, Cond.instanceMethod yX4_saveTo, Cond.selects RX4 yX4_saveTo yX4_saveTo, Cond.code yX4_saveTo cX4_saveTo 3 none, Cond.methodLink RX4 24 yX3_copyFrom, Cond.instanceMethod yX3_copyFrom, Cond.selects RX3 yX3_copyFrom yX3_copyFrom]
def wsX6_cutDoll_r3 : List Cond := [Cond.code yX3_copyFrom cX3_copyFrom 5 none, Cond.methodLink RX3 13 arraycopyName, Cond.native arraycopyName, Cond.static arraycopyName, Cond.initialized "java/lang/System", Cond.methodLink RX6 107 yX6_dollOf, Cond.static yX6_dollOf, Cond.code yX6_dollOf cX6_dollOf 2 (some .int), Cond.methodLink RX6 200 yX6_oneIf, Cond.static yX6_oneIf, Cond.code yX6_oneIf cX6_oneIf 1 (some .int), Cond.methodLink RX6 111 yX4_putDoll, Cond.instanceMethod yX4_putDoll, Cond.selects RX4 yX4_putDoll yX4_putDoll, Cond.code yX4_putDoll cX4_putDoll 4 none, Cond.methodLink RX4 50 yX4_cellOf, Cond.instanceMethod yX4_cellOf, Cond.selects RX4 yX4_cellOf yX4_cellOf, Cond.code yX4_cellOf cX4_cellOf 3 (some .int), Cond.methodLink RX4 20 yX3_put, Cond.instanceMethod yX3_put, Cond.selects RX3 yX3_put yX3_put, Cond.code yX3_put cX3_put 3 none, Cond.methodLink RX6 114 yX4_putLength]
def wsX6_cutDoll_r4 : List Cond := [Cond.instanceMethod yX4_putLength, Cond.selects RX4 yX4_putLength yX4_putLength, Cond.code yX4_putLength cX4_putLength 3 none]
def wsX6_cutDoll : List Cond := .code yX6_cutDoll cX6_cutDoll 4 (some .int) :: ((wsX6_cutDoll_r1 ++ (wsX6_cutDoll_r2 ++ (wsX6_cutDoll_r3 ++ wsX6_cutDoll_r4))) ++ wsX60 ++ wsX40 ++ wsX30 ++ wsX10)
def wsX6_join_r1 : List Cond := [Cond.fieldLink RX6 12 "DollGarlands" "table" "LDollGarlands$Table;", Cond.fieldLink RX6 35 "DollGarlands" "history" "LDollGarlands$History;", Cond.methodLink RX6 118 yX4_hasGarland, Cond.instanceMethod yX4_hasGarland, Cond.selects RX4 yX4_hasGarland yX4_hasGarland, Cond.initialized RX4, Cond.code yX4_hasGarland cX4_hasGarland 2 (some .boolean), Cond.static yX6_isBelow, Cond.initialized RX6, Cond.code yX6_isBelow cX6_isBelow 2 (some .boolean), Cond.methodLink RX4 47 yX4_lengthOf, Cond.instanceMethod yX4_lengthOf, Cond.selects RX4 yX4_lengthOf yX4_lengthOf, Cond.code yX4_lengthOf cX4_lengthOf 2 (some .int), Cond.fieldLink RX4 16 "DollGarlands$Table" "cells" "LDollGarlands$Row;", Cond.methodLink RX4 28 yX3_at, Cond.instanceMethod yX3_at, Cond.selects RX3 yX3_at yX3_at, Cond.initialized RX3, Cond.code yX3_at cX3_at 2 (some .int), Cond.fieldLink RX3 7 "DollGarlands$Row" "cells" "[I", Cond.methodLink RX6 121 yX4_lastDoll, Cond.instanceMethod yX4_lastDoll, Cond.selects RX4 yX4_lastDoll yX4_lastDoll]
def wsX6_join_r2 : List Cond := [Cond.code yX4_lastDoll cX4_lastDoll 2 (some .int), Cond.methodLink RX4 54 yX4_dollAt, Cond.instanceMethod yX4_dollAt, Cond.selects RX4 yX4_dollAt yX4_dollAt, Cond.code yX4_dollAt cX4_dollAt 3 (some .int), Cond.methodLink RX4 50 yX4_cellOf, Cond.instanceMethod yX4_cellOf, Cond.selects RX4 yX4_cellOf yX4_cellOf, Cond.code yX4_cellOf cX4_cellOf 3 (some .int), Cond.methodLink RX6 124 yX4_firstDoll, Cond.instanceMethod yX4_firstDoll, Cond.selects RX4 yX4_firstDoll yX4_firstDoll, Cond.code yX4_firstDoll cX4_firstDoll 2 (some .int), Cond.methodLink RX6 127 yX4_clash, Cond.instanceMethod yX4_clash, Cond.selects RX4 yX4_clash yX4_clash, Cond.code yX4_clash cX4_clash 6 (some .boolean), Cond.methodLink RX4 67 yX4_rightOf, Cond.instanceMethod yX4_rightOf, Cond.selects RX4 yX4_rightOf yX4_rightOf, Cond.code yX4_rightOf cX4_rightOf 2 (some .int), Cond.static yX6_isMirrored, Cond.code yX6_isMirrored cX6_isMirrored 1 (some .boolean), Cond.static yX6_kindOf]
def wsX6_join_r3 : List Cond := [Cond.code yX6_kindOf cX6_kindOf 1 (some .int), Cond.methodLink RX4 70 yX4_leftOf, Cond.instanceMethod yX4_leftOf, Cond.selects RX4 yX4_leftOf yX4_leftOf, Cond.code yX4_leftOf cX4_leftOf 2 (some .int), Cond.methodLink RX4 73 yX4_ruleNow, Cond.instanceMethod yX4_ruleNow, Cond.selects RX4 yX4_ruleNow yX4_ruleNow, Cond.code yX4_ruleNow cX4_ruleNow 1 (some .int), Cond.methodLink RX6 130 yX4_lengthOf, Cond.methodLink RX6 85 yX1_remember, Cond.instanceMethod yX1_remember, Cond.selects RX1 yX1_remember yX1_remember, Cond.initialized RX1, Cond.code yX1_remember cX1_remember 2 none, Cond.fieldLink RX1 26 "DollGarlands$History" "recorded" "I", Cond.fieldLink RX1 22 "DollGarlands$History" "oldest" "I", Cond.fieldLink RX1 16 "DollGarlands$History" "states" "LDollGarlands$Row;", Cond.methodLink RX1 29 yX1_cellOf, Cond.instanceMethod yX1_cellOf, Cond.selects RX1 yX1_cellOf yX1_cellOf, Cond.code yX1_cellOf cX1_cellOf 2 (some .int), Cond.methodLink RX1 33 yX4_saveTo, Cond.instanceMethod yX4_saveTo]
def wsX6_join_r4 : List Cond := [Cond.selects RX4 yX4_saveTo yX4_saveTo, Cond.code yX4_saveTo cX4_saveTo 3 none, Cond.methodLink RX4 24 yX3_copyFrom, Cond.instanceMethod yX3_copyFrom, Cond.selects RX3 yX3_copyFrom yX3_copyFrom, Cond.code yX3_copyFrom cX3_copyFrom 5 none, Cond.methodLink RX3 13 arraycopyName, Cond.native arraycopyName, Cond.static arraycopyName, Cond.initialized "java/lang/System", Cond.methodLink RX6 133 yX4_copyDolls, Cond.instanceMethod yX4_copyDolls, Cond.selects RX4 yX4_copyDolls yX4_copyDolls, Cond.code yX4_copyDolls cX4_copyDolls 6 none, Cond.methodLink RX6 114 yX4_putLength, Cond.instanceMethod yX4_putLength, Cond.selects RX4 yX4_putLength yX4_putLength, Cond.code yX4_putLength cX4_putLength 3 none, Cond.methodLink RX4 20 yX3_put, Cond.instanceMethod yX3_put, Cond.selects RX3 yX3_put yX3_put, Cond.code yX3_put cX3_put 3 none]
def wsX6_join : List Cond := .code yX6_join cX6_join 5 (some .int) :: ((wsX6_join_r1 ++ (wsX6_join_r2 ++ (wsX6_join_r3 ++ wsX6_join_r4))) ++ wsX60 ++ wsX40 ++ wsX30 ++ wsX10)
def wsX6_cutApart_r1 : List Cond := [Cond.fieldLink RX6 12 "DollGarlands" "table" "LDollGarlands$Table;", Cond.fieldLink RX6 35 "DollGarlands" "history" "LDollGarlands$History;", Cond.methodLink RX6 118 yX4_hasGarland, Cond.instanceMethod yX4_hasGarland, Cond.selects RX4 yX4_hasGarland yX4_hasGarland, Cond.initialized RX4, Cond.code yX4_hasGarland cX4_hasGarland 2 (some .boolean), Cond.static yX6_isBelow, Cond.initialized RX6, Cond.code yX6_isBelow cX6_isBelow 2 (some .boolean), Cond.methodLink RX4 47 yX4_lengthOf, Cond.instanceMethod yX4_lengthOf, Cond.selects RX4 yX4_lengthOf yX4_lengthOf, Cond.code yX4_lengthOf cX4_lengthOf 2 (some .int), Cond.fieldLink RX4 16 "DollGarlands$Table" "cells" "LDollGarlands$Row;", Cond.methodLink RX4 28 yX3_at, Cond.instanceMethod yX3_at, Cond.selects RX3 yX3_at yX3_at, Cond.initialized RX3, Cond.code yX3_at cX3_at 2 (some .int), Cond.fieldLink RX3 7 "DollGarlands$Row" "cells" "[I", Cond.methodLink RX6 130 yX4_lengthOf, Cond.methodLink RX6 104 yX4_freeNumber, Cond.instanceMethod yX4_freeNumber]
def wsX6_cutApart_r2 : List Cond := [Cond.selects RX4 yX4_freeNumber yX4_freeNumber, Cond.code yX4_freeNumber cX4_freeNumber 2 (some .int), Cond.methodLink RX6 85 yX1_remember, Cond.instanceMethod yX1_remember, Cond.selects RX1 yX1_remember yX1_remember, Cond.initialized RX1, Cond.code yX1_remember cX1_remember 2 none, Cond.fieldLink RX1 26 "DollGarlands$History" "recorded" "I", Cond.fieldLink RX1 22 "DollGarlands$History" "oldest" "I", Cond.fieldLink RX1 16 "DollGarlands$History" "states" "LDollGarlands$Row;", Cond.methodLink RX1 29 yX1_cellOf, Cond.instanceMethod yX1_cellOf, Cond.selects RX1 yX1_cellOf yX1_cellOf, Cond.code yX1_cellOf cX1_cellOf 2 (some .int), Cond.methodLink RX1 33 yX4_saveTo, Cond.instanceMethod yX4_saveTo, Cond.selects RX4 yX4_saveTo yX4_saveTo, Cond.code yX4_saveTo cX4_saveTo 3 none, Cond.methodLink RX4 24 yX3_copyFrom, Cond.instanceMethod yX3_copyFrom, Cond.selects RX3 yX3_copyFrom yX3_copyFrom, Cond.code yX3_copyFrom cX3_copyFrom 5 none, Cond.methodLink RX3 13 arraycopyName, Cond.native arraycopyName]
def wsX6_cutApart_r3 : List Cond := [Cond.static arraycopyName, Cond.initialized "java/lang/System", Cond.methodLink RX6 133 yX4_copyDolls, Cond.instanceMethod yX4_copyDolls, Cond.selects RX4 yX4_copyDolls yX4_copyDolls, Cond.code yX4_copyDolls cX4_copyDolls 6 none, Cond.methodLink RX4 50 yX4_cellOf, Cond.instanceMethod yX4_cellOf, Cond.selects RX4 yX4_cellOf yX4_cellOf, Cond.code yX4_cellOf cX4_cellOf 3 (some .int), Cond.methodLink RX6 114 yX4_putLength, Cond.instanceMethod yX4_putLength, Cond.selects RX4 yX4_putLength yX4_putLength, Cond.code yX4_putLength cX4_putLength 3 none, Cond.methodLink RX4 20 yX3_put, Cond.instanceMethod yX3_put, Cond.selects RX3 yX3_put yX3_put, Cond.code yX3_put cX3_put 3 none]
def wsX6_cutApart : List Cond := .code yX6_cutApart cX6_cutApart 5 (some .int) :: ((wsX6_cutApart_r1 ++ (wsX6_cutApart_r2 ++ wsX6_cutApart_r3)) ++ wsX60 ++ wsX40 ++ wsX30 ++ wsX10)
def wsX6_turn_r1 : List Cond := [Cond.fieldLink RX6 12 "DollGarlands" "table" "LDollGarlands$Table;", Cond.fieldLink RX6 21 "DollGarlands" "looks" "LDollGarlands$Looks;", Cond.fieldLink RX6 35 "DollGarlands" "history" "LDollGarlands$History;", Cond.methodLink RX6 118 yX4_hasGarland, Cond.instanceMethod yX4_hasGarland, Cond.selects RX4 yX4_hasGarland yX4_hasGarland, Cond.initialized RX4, Cond.code yX4_hasGarland cX4_hasGarland 2 (some .boolean), Cond.static yX6_isBelow, Cond.initialized RX6, Cond.code yX6_isBelow cX6_isBelow 2 (some .boolean), Cond.methodLink RX4 47 yX4_lengthOf, Cond.instanceMethod yX4_lengthOf, Cond.selects RX4 yX4_lengthOf yX4_lengthOf, Cond.code yX4_lengthOf cX4_lengthOf 2 (some .int), Cond.fieldLink RX4 16 "DollGarlands$Table" "cells" "LDollGarlands$Row;", Cond.methodLink RX4 28 yX3_at, Cond.instanceMethod yX3_at, Cond.selects RX3 yX3_at yX3_at, Cond.initialized RX3, Cond.code yX3_at cX3_at 2 (some .int), Cond.fieldLink RX3 7 "DollGarlands$Row" "cells" "[I", Cond.methodLink RX6 137 yX2_isOwnMirror, Cond.instanceMethod yX2_isOwnMirror]
def wsX6_turn_r2 : List Cond := [Cond.selects RX2 yX2_isOwnMirror yX2_isOwnMirror, Cond.initialized RX2, Cond.code yX2_isOwnMirror cX2_isOwnMirror 2 (some .boolean), Cond.methodLink RX2 39 yX2_isMirror, Cond.instanceMethod yX2_isMirror, Cond.selects RX2 yX2_isMirror yX2_isMirror, Cond.code yX2_isMirror cX2_isMirror 6 (some .boolean), Cond.fieldLink RX2 9 "DollGarlands$Looks" "table" "LDollGarlands$Table;", Cond.methodLink RX2 15 yX4_lengthOf, Cond.methodLink RX2 21 yX4_dollAt, Cond.instanceMethod yX4_dollAt, Cond.selects RX4 yX4_dollAt yX4_dollAt, Cond.code yX4_dollAt cX4_dollAt 3 (some .int), Cond.methodLink RX4 50 yX4_cellOf, Cond.instanceMethod yX4_cellOf, Cond.selects RX4 yX4_cellOf yX4_cellOf, Cond.code yX4_cellOf cX4_cellOf 3 (some .int), Cond.static yX6_mirrorOf, Cond.code yX6_mirrorOf cX6_mirrorOf 1 (some .int), Cond.methodLink RX6 85 yX1_remember, Cond.instanceMethod yX1_remember, Cond.selects RX1 yX1_remember yX1_remember, Cond.initialized RX1, Cond.code yX1_remember cX1_remember 2 none]
def wsX6_turn_r3 : List Cond := [Cond.fieldLink RX1 26 "DollGarlands$History" "recorded" "I", Cond.fieldLink RX1 22 "DollGarlands$History" "oldest" "I", Cond.fieldLink RX1 16 "DollGarlands$History" "states" "LDollGarlands$Row;", Cond.methodLink RX1 29 yX1_cellOf, Cond.instanceMethod yX1_cellOf, Cond.selects RX1 yX1_cellOf yX1_cellOf, Cond.code yX1_cellOf cX1_cellOf 2 (some .int), Cond.methodLink RX1 33 yX4_saveTo, Cond.instanceMethod yX4_saveTo, Cond.selects RX4 yX4_saveTo yX4_saveTo, Cond.code yX4_saveTo cX4_saveTo 3 none, Cond.methodLink RX4 24 yX3_copyFrom, Cond.instanceMethod yX3_copyFrom, Cond.selects RX3 yX3_copyFrom yX3_copyFrom, Cond.code yX3_copyFrom cX3_copyFrom 5 none, Cond.methodLink RX3 13 arraycopyName, Cond.native arraycopyName, Cond.static arraycopyName, Cond.initialized "java/lang/System", Cond.methodLink RX6 140 yX4_turnRound, Cond.instanceMethod yX4_turnRound, Cond.selects RX4 yX4_turnRound yX4_turnRound, Cond.code yX4_turnRound cX4_turnRound 5 none, Cond.methodLink RX4 54 yX4_dollAt]
def wsX6_turn_r4 : List Cond := [Cond.methodLink RX4 63 yX4_putDoll, Cond.instanceMethod yX4_putDoll, Cond.selects RX4 yX4_putDoll yX4_putDoll, Cond.code yX4_putDoll cX4_putDoll 4 none, Cond.methodLink RX4 20 yX3_put, Cond.instanceMethod yX3_put, Cond.selects RX3 yX3_put yX3_put, Cond.code yX3_put cX3_put 3 none, Cond.methodLink RX6 143 yX2_mirroredIn, Cond.instanceMethod yX2_mirroredIn, Cond.selects RX2 yX2_mirroredIn yX2_mirroredIn, Cond.code yX2_mirroredIn cX2_mirroredIn 5 (some .int), Cond.static yX6_isMirrored, Cond.code yX6_isMirrored cX6_isMirrored 1 (some .boolean), Cond.static yX6_oneIf, Cond.code yX6_oneIf cX6_oneIf 1 (some .int)]
def wsX6_turn : List Cond := .code yX6_turn cX6_turn 2 (some .int) :: ((wsX6_turn_r1 ++ (wsX6_turn_r2 ++ (wsX6_turn_r3 ++ wsX6_turn_r4))) ++ wsX60 ++ wsX40 ++ wsX30 ++ wsX20 ++ wsX10)
def wsX6_fold_r1 : List Cond := [Cond.fieldLink RX6 12 "DollGarlands" "table" "LDollGarlands$Table;", Cond.fieldLink RX6 35 "DollGarlands" "history" "LDollGarlands$History;", Cond.methodLink RX6 118 yX4_hasGarland, Cond.instanceMethod yX4_hasGarland, Cond.selects RX4 yX4_hasGarland yX4_hasGarland, Cond.initialized RX4, Cond.code yX4_hasGarland cX4_hasGarland 2 (some .boolean), Cond.static yX6_isBelow, Cond.initialized RX6, Cond.code yX6_isBelow cX6_isBelow 2 (some .boolean), Cond.methodLink RX4 47 yX4_lengthOf, Cond.instanceMethod yX4_lengthOf, Cond.selects RX4 yX4_lengthOf yX4_lengthOf, Cond.code yX4_lengthOf cX4_lengthOf 2 (some .int), Cond.fieldLink RX4 16 "DollGarlands$Table" "cells" "LDollGarlands$Row;", Cond.methodLink RX4 28 yX3_at, Cond.instanceMethod yX3_at, Cond.selects RX3 yX3_at yX3_at, Cond.initialized RX3, Cond.code yX3_at cX3_at 2 (some .int), Cond.fieldLink RX3 7 "DollGarlands$Row" "cells" "[I", Cond.methodLink RX6 121 yX4_lastDoll, Cond.instanceMethod yX4_lastDoll, Cond.selects RX4 yX4_lastDoll yX4_lastDoll]
def wsX6_fold_r2 : List Cond := [Cond.code yX4_lastDoll cX4_lastDoll 2 (some .int), Cond.methodLink RX4 54 yX4_dollAt, Cond.instanceMethod yX4_dollAt, Cond.selects RX4 yX4_dollAt yX4_dollAt, Cond.code yX4_dollAt cX4_dollAt 3 (some .int), Cond.methodLink RX4 50 yX4_cellOf, Cond.instanceMethod yX4_cellOf, Cond.selects RX4 yX4_cellOf yX4_cellOf, Cond.code yX4_cellOf cX4_cellOf 3 (some .int), Cond.methodLink RX6 146 yX6_mirrorOf, Cond.static yX6_mirrorOf, Cond.code yX6_mirrorOf cX6_mirrorOf 1 (some .int), Cond.methodLink RX6 127 yX4_clash, Cond.instanceMethod yX4_clash, Cond.selects RX4 yX4_clash yX4_clash, Cond.code yX4_clash cX4_clash 6 (some .boolean), Cond.methodLink RX4 67 yX4_rightOf, Cond.instanceMethod yX4_rightOf, Cond.selects RX4 yX4_rightOf yX4_rightOf, Cond.code yX4_rightOf cX4_rightOf 2 (some .int), Cond.static yX6_isMirrored, Cond.code yX6_isMirrored cX6_isMirrored 1 (some .boolean), Cond.static yX6_kindOf, Cond.code yX6_kindOf cX6_kindOf 1 (some .int)]
def wsX6_fold_r3 : List Cond := [Cond.methodLink RX4 70 yX4_leftOf, Cond.instanceMethod yX4_leftOf, Cond.selects RX4 yX4_leftOf yX4_leftOf, Cond.code yX4_leftOf cX4_leftOf 2 (some .int), Cond.methodLink RX4 73 yX4_ruleNow, Cond.instanceMethod yX4_ruleNow, Cond.selects RX4 yX4_ruleNow yX4_ruleNow, Cond.code yX4_ruleNow cX4_ruleNow 1 (some .int), Cond.methodLink RX6 130 yX4_lengthOf, Cond.methodLink RX6 85 yX1_remember, Cond.instanceMethod yX1_remember, Cond.selects RX1 yX1_remember yX1_remember, Cond.initialized RX1, Cond.code yX1_remember cX1_remember 2 none, Cond.fieldLink RX1 26 "DollGarlands$History" "recorded" "I", Cond.fieldLink RX1 22 "DollGarlands$History" "oldest" "I", Cond.fieldLink RX1 16 "DollGarlands$History" "states" "LDollGarlands$Row;", Cond.methodLink RX1 29 yX1_cellOf, Cond.instanceMethod yX1_cellOf, Cond.selects RX1 yX1_cellOf yX1_cellOf, Cond.code yX1_cellOf cX1_cellOf 2 (some .int), Cond.methodLink RX1 33 yX4_saveTo, Cond.instanceMethod yX4_saveTo, Cond.selects RX4 yX4_saveTo yX4_saveTo]
def wsX6_fold_r4 : List Cond := [Cond.code yX4_saveTo cX4_saveTo 3 none, Cond.methodLink RX4 24 yX3_copyFrom, Cond.instanceMethod yX3_copyFrom, Cond.selects RX3 yX3_copyFrom yX3_copyFrom, Cond.code yX3_copyFrom cX3_copyFrom 5 none, Cond.methodLink RX3 13 arraycopyName, Cond.native arraycopyName, Cond.static arraycopyName, Cond.initialized "java/lang/System", Cond.methodLink RX6 149 yX4_foldOut, Cond.instanceMethod yX4_foldOut, Cond.selects RX4 yX4_foldOut yX4_foldOut, Cond.code yX4_foldOut cX4_foldOut 5 none, Cond.methodLink RX4 63 yX4_putDoll, Cond.instanceMethod yX4_putDoll, Cond.selects RX4 yX4_putDoll yX4_putDoll, Cond.code yX4_putDoll cX4_putDoll 4 none, Cond.methodLink RX4 20 yX3_put, Cond.instanceMethod yX3_put, Cond.selects RX3 yX3_put yX3_put, Cond.code yX3_put cX3_put 3 none, Cond.methodLink RX4 57 yX4_putLength, Cond.instanceMethod yX4_putLength, Cond.selects RX4 yX4_putLength yX4_putLength]
def wsX6_fold_r5 : List Cond := [Cond.code yX4_putLength cX4_putLength 3 none]
def wsX6_fold : List Cond := .code yX6_fold cX6_fold 4 (some .int) :: ((wsX6_fold_r1 ++ (wsX6_fold_r2 ++ (wsX6_fold_r3 ++ (wsX6_fold_r4 ++ wsX6_fold_r5)))) ++ wsX60 ++ wsX40 ++ wsX30 ++ wsX10)
def wsX6_takeAway_r1 : List Cond := [Cond.fieldLink RX6 12 "DollGarlands" "table" "LDollGarlands$Table;", Cond.fieldLink RX6 35 "DollGarlands" "history" "LDollGarlands$History;", Cond.methodLink RX6 118 yX4_hasGarland, Cond.instanceMethod yX4_hasGarland, Cond.selects RX4 yX4_hasGarland yX4_hasGarland, Cond.initialized RX4, Cond.code yX4_hasGarland cX4_hasGarland 2 (some .boolean), Cond.static yX6_isBelow, Cond.initialized RX6, Cond.code yX6_isBelow cX6_isBelow 2 (some .boolean), Cond.methodLink RX4 47 yX4_lengthOf, Cond.instanceMethod yX4_lengthOf, Cond.selects RX4 yX4_lengthOf yX4_lengthOf, Cond.code yX4_lengthOf cX4_lengthOf 2 (some .int), Cond.fieldLink RX4 16 "DollGarlands$Table" "cells" "LDollGarlands$Row;", Cond.methodLink RX4 28 yX3_at, Cond.instanceMethod yX3_at, Cond.selects RX3 yX3_at yX3_at, Cond.initialized RX3, Cond.code yX3_at cX3_at 2 (some .int), Cond.fieldLink RX3 7 "DollGarlands$Row" "cells" "[I", Cond.methodLink RX6 130 yX4_lengthOf, Cond.methodLink RX6 85 yX1_remember, Cond.instanceMethod yX1_remember]
def wsX6_takeAway_r2 : List Cond := [Cond.selects RX1 yX1_remember yX1_remember, Cond.initialized RX1, Cond.code yX1_remember cX1_remember 2 none, Cond.fieldLink RX1 26 "DollGarlands$History" "recorded" "I", Cond.fieldLink RX1 22 "DollGarlands$History" "oldest" "I", Cond.fieldLink RX1 16 "DollGarlands$History" "states" "LDollGarlands$Row;", Cond.methodLink RX1 29 yX1_cellOf, Cond.instanceMethod yX1_cellOf, Cond.selects RX1 yX1_cellOf yX1_cellOf, Cond.code yX1_cellOf cX1_cellOf 2 (some .int), Cond.methodLink RX1 33 yX4_saveTo, Cond.instanceMethod yX4_saveTo, Cond.selects RX4 yX4_saveTo yX4_saveTo, Cond.code yX4_saveTo cX4_saveTo 3 none, Cond.methodLink RX4 24 yX3_copyFrom, Cond.instanceMethod yX3_copyFrom, Cond.selects RX3 yX3_copyFrom yX3_copyFrom, Cond.code yX3_copyFrom cX3_copyFrom 5 none, Cond.methodLink RX3 13 arraycopyName, Cond.native arraycopyName, Cond.static arraycopyName, Cond.initialized "java/lang/System", Cond.methodLink RX6 114 yX4_putLength, Cond.instanceMethod yX4_putLength]
def wsX6_takeAway_r3 : List Cond := [Cond.selects RX4 yX4_putLength yX4_putLength, Cond.code yX4_putLength cX4_putLength 3 none, Cond.methodLink RX4 20 yX3_put, Cond.instanceMethod yX3_put, Cond.selects RX3 yX3_put yX3_put, Cond.code yX3_put cX3_put 3 none]
def wsX6_takeAway : List Cond := .code yX6_takeAway cX6_takeAway 3 (some .int) :: ((wsX6_takeAway_r1 ++ (wsX6_takeAway_r2 ++ wsX6_takeAway_r3)) ++ wsX60 ++ wsX40 ++ wsX30 ++ wsX10)
def wsX6_type : List Cond := .code yX6_type cX6_type 2 (some .int) :: ([.fieldLink RX6 42 "DollGarlands" "text" "LDollGarlands$Text;", .methodLink RX6 152 yX5_isFull, .instanceMethod yX5_isFull, .selects RX5 yX5_isFull yX5_isFull, .initialized RX5, .code yX5_isFull cX5_isFull 1 (some .boolean), .fieldLink RX5 20 "DollGarlands$Text" "length" "I", .methodLink RX6 155 yX5_add, .instanceMethod yX5_add, .selects RX5 yX5_add yX5_add, .code yX5_add cX5_add 2 (some .int), .fieldLink RX5 14 "DollGarlands$Text" "characters" "LDollGarlands$Row;", .methodLink RX5 24 yX3_put, .instanceMethod yX3_put, .selects RX3 yX3_put yX3_put, .initialized RX3, .code yX3_put cX3_put 3 none, .fieldLink RX3 7 "DollGarlands$Row" "cells" "[I"] ++ wsX60 ++ wsX50 ++ wsX30)
def wsX6_clearText : List Cond := .code yX6_clearText cX6_clearText 1 (some .int) :: ([.fieldLink RX6 42 "DollGarlands" "text" "LDollGarlands$Text;", .methodLink RX6 159 yX5_empty, .instanceMethod yX5_empty, .selects RX5 yX5_empty yX5_empty, .initialized RX5, .code yX5_empty cX5_empty 2 (some .int), .fieldLink RX5 20 "DollGarlands$Text" "length" "I"] ++ wsX60 ++ wsX50)
def wsX6_readGarland_r1 : List Cond := [Cond.fieldLink RX6 42 "DollGarlands" "text" "LDollGarlands$Text;", Cond.fieldLink RX6 55 "DollGarlands" "bench" "LDollGarlands$Row;", Cond.fieldLink RX6 12 "DollGarlands" "table" "LDollGarlands$Table;", Cond.fieldLink RX6 35 "DollGarlands" "history" "LDollGarlands$History;", Cond.methodLink RX6 162 yX5_fault, Cond.instanceMethod yX5_fault, Cond.selects RX5 yX5_fault yX5_fault, Cond.initialized RX5, Cond.code yX5_fault cX5_fault 6 (some .int), Cond.fieldLink RX5 20 "DollGarlands$Text" "length" "I", Cond.fieldLink RX5 14 "DollGarlands$Text" "characters" "LDollGarlands$Row;", Cond.methodLink RX5 28 yX3_at, Cond.instanceMethod yX3_at, Cond.selects RX3 yX3_at yX3_at, Cond.initialized RX3, Cond.code yX3_at cX3_at 2 (some .int), Cond.fieldLink RX3 7 "DollGarlands$Row" "cells" "[I", Cond.methodLink RX5 32 yX5_isDigit, Cond.static yX5_isDigit, Cond.code yX5_isDigit cX5_isDigit 1 (some .boolean), Cond.methodLink RX6 165 yX5_spellDolls, Cond.instanceMethod yX5_spellDolls, Cond.selects RX5 yX5_spellDolls yX5_spellDolls, Cond.code yX5_spellDolls cX5_spellDolls 5 (some .int)]
def wsX6_readGarland_r2 : List Cond := [Cond.static yX6_dollOf, Cond.initialized RX6, Cond.code yX6_dollOf cX6_dollOf 2 (some .int), Cond.methodLink RX6 200 yX6_oneIf, Cond.static yX6_oneIf, Cond.code yX6_oneIf cX6_oneIf 1 (some .int), Cond.methodLink RX5 24 yX3_put, Cond.instanceMethod yX3_put, Cond.selects RX3 yX3_put yX3_put, Cond.code yX3_put cX3_put 3 none, Cond.static yX6_mirrorOf, Cond.code yX6_mirrorOf cX6_mirrorOf 1 (some .int), Cond.methodLink RX6 169 yX4_hasKindsOf, Cond.instanceMethod yX4_hasKindsOf, Cond.selects RX4 yX4_hasKindsOf yX4_hasKindsOf, Cond.initialized RX4, Cond.code yX4_hasKindsOf cX4_hasKindsOf 4 (some .boolean), Cond.methodLink RX4 28 yX3_at, Cond.static yX6_kindOf, Cond.code yX6_kindOf cX6_kindOf 1 (some .int), Cond.methodLink RX4 83 yX4_hasKind, Cond.instanceMethod yX4_hasKind, Cond.selects RX4 yX4_hasKind yX4_hasKind, Cond.code yX4_hasKind cX4_hasKind 2 (some .boolean)]
def wsX6_readGarland_r3 : List Cond := [Cond.methodLink RX4 32 yX4_kindsNow, Cond.instanceMethod yX4_kindsNow, Cond.selects RX4 yX4_kindsNow yX4_kindsNow, Cond.code yX4_kindsNow cX4_kindsNow 1 (some .int), Cond.fieldLink RX4 16 "DollGarlands$Table" "cells" "LDollGarlands$Row;", Cond.static yX6_isBelow, Cond.code yX6_isBelow cX6_isBelow 2 (some .boolean), Cond.methodLink RX6 173 yX4_hasClashIn, Cond.instanceMethod yX4_hasClashIn, Cond.selects RX4 yX4_hasClashIn yX4_hasClashIn, Cond.code yX4_hasClashIn cX4_hasClashIn 5 (some .boolean), Cond.methodLink RX4 76 yX4_clash, Cond.instanceMethod yX4_clash, Cond.selects RX4 yX4_clash yX4_clash, Cond.code yX4_clash cX4_clash 6 (some .boolean), Cond.methodLink RX4 67 yX4_rightOf, Cond.instanceMethod yX4_rightOf, Cond.selects RX4 yX4_rightOf yX4_rightOf, Cond.code yX4_rightOf cX4_rightOf 2 (some .int), Cond.static yX6_isMirrored, Cond.code yX6_isMirrored cX6_isMirrored 1 (some .boolean), Cond.methodLink RX4 70 yX4_leftOf, Cond.instanceMethod yX4_leftOf, Cond.selects RX4 yX4_leftOf yX4_leftOf]
def wsX6_readGarland_r4 : List Cond := [Cond.code yX4_leftOf cX4_leftOf 2 (some .int), Cond.methodLink RX4 73 yX4_ruleNow, Cond.instanceMethod yX4_ruleNow, Cond.selects RX4 yX4_ruleNow yX4_ruleNow, Cond.code yX4_ruleNow cX4_ruleNow 1 (some .int), Cond.methodLink RX6 104 yX4_freeNumber, Cond.instanceMethod yX4_freeNumber, Cond.selects RX4 yX4_freeNumber yX4_freeNumber, Cond.code yX4_freeNumber cX4_freeNumber 2 (some .int), Cond.methodLink RX4 47 yX4_lengthOf, Cond.instanceMethod yX4_lengthOf, Cond.selects RX4 yX4_lengthOf yX4_lengthOf, Cond.code yX4_lengthOf cX4_lengthOf 2 (some .int), Cond.methodLink RX6 85 yX1_remember, Cond.instanceMethod yX1_remember, Cond.selects RX1 yX1_remember yX1_remember, Cond.initialized RX1, Cond.code yX1_remember cX1_remember 2 none, Cond.fieldLink RX1 26 "DollGarlands$History" "recorded" "I", Cond.fieldLink RX1 22 "DollGarlands$History" "oldest" "I", Cond.fieldLink RX1 16 "DollGarlands$History" "states" "LDollGarlands$Row;", Cond.methodLink RX1 29 yX1_cellOf, Cond.instanceMethod yX1_cellOf, Cond.selects RX1 yX1_cellOf yX1_cellOf]
def wsX6_readGarland_r5 : List Cond := [Cond.code yX1_cellOf cX1_cellOf 2 (some .int), Cond.methodLink RX1 33 yX4_saveTo, Cond.instanceMethod yX4_saveTo, Cond.selects RX4 yX4_saveTo yX4_saveTo, Cond.code yX4_saveTo cX4_saveTo 3 none, Cond.methodLink RX4 24 yX3_copyFrom, Cond.instanceMethod yX3_copyFrom, Cond.selects RX3 yX3_copyFrom yX3_copyFrom, Cond.code yX3_copyFrom cX3_copyFrom 5 none, Cond.methodLink RX3 13 arraycopyName, Cond.native arraycopyName, Cond.static arraycopyName, Cond.initialized "java/lang/System", Cond.methodLink RX6 177 yX4_hangUp, Cond.instanceMethod yX4_hangUp, Cond.selects RX4 yX4_hangUp yX4_hangUp, Cond.code yX4_hangUp cX4_hangUp 4 none, Cond.methodLink RX4 50 yX4_cellOf, Cond.instanceMethod yX4_cellOf, Cond.selects RX4 yX4_cellOf yX4_cellOf, Cond.code yX4_cellOf cX4_cellOf 3 (some .int), Cond.methodLink RX4 57 yX4_putLength, Cond.instanceMethod yX4_putLength, Cond.selects RX4 yX4_putLength yX4_putLength]
def wsX6_readGarland_r6 : List Cond := [Cond.code yX4_putLength cX4_putLength 3 none, Cond.methodLink RX4 20 yX3_put]
def wsX6_readGarland : List Cond := .code yX6_readGarland cX6_readGarland 4 (some .int) :: ((wsX6_readGarland_r1 ++ (wsX6_readGarland_r2 ++ (wsX6_readGarland_r3 ++ (wsX6_readGarland_r4 ++ (wsX6_readGarland_r5 ++ wsX6_readGarland_r6))))) ++ wsX60 ++ wsX50 ++ wsX30 ++ wsX40 ++ wsX10)
def wsX6_undo_r1 : List Cond := [Cond.fieldLink RX6 35 "DollGarlands" "history" "LDollGarlands$History;", Cond.fieldLink RX6 12 "DollGarlands" "table" "LDollGarlands$Table;", Cond.methodLink RX6 181 yX1_size, Cond.instanceMethod yX1_size, Cond.selects RX1 yX1_size yX1_size, Cond.initialized RX1, Cond.code yX1_size cX1_size 1 (some .int), Cond.fieldLink RX1 26 "DollGarlands$History" "recorded" "I", Cond.methodLink RX6 184 yX1_goBack, Cond.instanceMethod yX1_goBack, Cond.selects RX1 yX1_goBack yX1_goBack, Cond.code yX1_goBack cX1_goBack 2 none, Cond.fieldLink RX1 16 "DollGarlands$History" "states" "LDollGarlands$Row;", Cond.methodLink RX1 29 yX1_cellOf, Cond.instanceMethod yX1_cellOf, Cond.selects RX1 yX1_cellOf yX1_cellOf, Cond.code yX1_cellOf cX1_cellOf 2 (some .int), Cond.fieldLink RX1 22 "DollGarlands$History" "oldest" "I", Cond.methodLink RX1 37 yX4_loadFrom, Cond.instanceMethod yX4_loadFrom, Cond.selects RX4 yX4_loadFrom yX4_loadFrom, Cond.initialized RX4, Cond.code yX4_loadFrom cX4_loadFrom 3 none, Cond.fieldLink RX4 16 "DollGarlands$Table" "cells" "LDollGarlands$Row;"]
def wsX6_undo_r2 : List Cond := [Cond.methodLink RX4 24 yX3_copyFrom, Cond.instanceMethod yX3_copyFrom, Cond.selects RX3 yX3_copyFrom yX3_copyFrom, Cond.initialized RX3, Cond.code yX3_copyFrom cX3_copyFrom 5 none, Cond.fieldLink RX3 7 "DollGarlands$Row" "cells" "[I", Cond.methodLink RX3 13 arraycopyName, Cond.native arraycopyName, Cond.static arraycopyName, Cond.initialized "java/lang/System"]
def wsX6_undo : List Cond := .code yX6_undo cX6_undo 1 (some .int) :: ((wsX6_undo_r1 ++ wsX6_undo_r2) ++ wsX60 ++ wsX10 ++ wsX40 ++ wsX30)
def wsX6_keep_r1 : List Cond := [Cond.fieldLink RX6 12 "DollGarlands" "table" "LDollGarlands$Table;", Cond.fieldLink RX6 51 "DollGarlands" "snapshot" "LDollGarlands$Row;", Cond.fieldLink RX6 58 "DollGarlands" "hasSnapshot" "Z", Cond.fieldLink RX6 21 "DollGarlands" "looks" "LDollGarlands$Looks;", Cond.methodLink RX6 187 yX4_saveTo, Cond.instanceMethod yX4_saveTo, Cond.selects RX4 yX4_saveTo yX4_saveTo, Cond.initialized RX4, Cond.code yX4_saveTo cX4_saveTo 3 none, Cond.fieldLink RX4 16 "DollGarlands$Table" "cells" "LDollGarlands$Row;", Cond.methodLink RX4 24 yX3_copyFrom, Cond.instanceMethod yX3_copyFrom, Cond.selects RX3 yX3_copyFrom yX3_copyFrom, Cond.initialized RX3, Cond.code yX3_copyFrom cX3_copyFrom 5 none, Cond.fieldLink RX3 7 "DollGarlands$Row" "cells" "[I", Cond.methodLink RX3 13 arraycopyName, Cond.native arraycopyName, Cond.static arraycopyName, Cond.initialized "java/lang/System", Cond.methodLink RX6 191 yX2_garlands, Cond.instanceMethod yX2_garlands, Cond.selects RX2 yX2_garlands yX2_garlands, Cond.initialized RX2]
def wsX6_keep_r2 : List Cond := [Cond.code yX2_garlands cX2_garlands 3 (some .int), Cond.fieldLink RX2 9 "DollGarlands$Looks" "table" "LDollGarlands$Table;", Cond.methodLink RX2 54 yX4_hasGarland, Cond.instanceMethod yX4_hasGarland, Cond.selects RX4 yX4_hasGarland yX4_hasGarland, Cond.code yX4_hasGarland cX4_hasGarland 2 (some .boolean), Cond.static yX6_isBelow, Cond.initialized RX6, Cond.code yX6_isBelow cX6_isBelow 2 (some .boolean), Cond.methodLink RX4 47 yX4_lengthOf, Cond.instanceMethod yX4_lengthOf, Cond.selects RX4 yX4_lengthOf yX4_lengthOf, Cond.code yX4_lengthOf cX4_lengthOf 2 (some .int), Cond.methodLink RX4 28 yX3_at, Cond.instanceMethod yX3_at, Cond.selects RX3 yX3_at yX3_at, Cond.code yX3_at cX3_at 2 (some .int), Cond.static yX6_oneIf, Cond.code yX6_oneIf cX6_oneIf 1 (some .int)]
def wsX6_keep : List Cond := .code yX6_keep cX6_keep 1 (some .int) :: ((wsX6_keep_r1 ++ wsX6_keep_r2) ++ wsX60 ++ wsX40 ++ wsX30 ++ wsX20)
def wsX6_restore_r1 : List Cond := [Cond.fieldLink RX6 58 "DollGarlands" "hasSnapshot" "Z", Cond.fieldLink RX6 35 "DollGarlands" "history" "LDollGarlands$History;", Cond.fieldLink RX6 12 "DollGarlands" "table" "LDollGarlands$Table;", Cond.fieldLink RX6 51 "DollGarlands" "snapshot" "LDollGarlands$Row;", Cond.fieldLink RX6 21 "DollGarlands" "looks" "LDollGarlands$Looks;", Cond.methodLink RX6 85 yX1_remember, Cond.instanceMethod yX1_remember, Cond.selects RX1 yX1_remember yX1_remember, Cond.initialized RX1, Cond.code yX1_remember cX1_remember 2 none, Cond.fieldLink RX1 26 "DollGarlands$History" "recorded" "I", Cond.fieldLink RX1 22 "DollGarlands$History" "oldest" "I", Cond.fieldLink RX1 16 "DollGarlands$History" "states" "LDollGarlands$Row;", Cond.methodLink RX1 29 yX1_cellOf, Cond.instanceMethod yX1_cellOf, Cond.selects RX1 yX1_cellOf yX1_cellOf, Cond.code yX1_cellOf cX1_cellOf 2 (some .int), Cond.methodLink RX1 33 yX4_saveTo, Cond.instanceMethod yX4_saveTo, Cond.selects RX4 yX4_saveTo yX4_saveTo, Cond.initialized RX4, Cond.code yX4_saveTo cX4_saveTo 3 none, Cond.fieldLink RX4 16 "DollGarlands$Table" "cells" "LDollGarlands$Row;", Cond.methodLink RX4 24 yX3_copyFrom]
def wsX6_restore_r2 : List Cond := [Cond.instanceMethod yX3_copyFrom, Cond.selects RX3 yX3_copyFrom yX3_copyFrom, Cond.initialized RX3, Cond.code yX3_copyFrom cX3_copyFrom 5 none, Cond.fieldLink RX3 7 "DollGarlands$Row" "cells" "[I", Cond.methodLink RX3 13 arraycopyName, Cond.native arraycopyName, Cond.static arraycopyName, Cond.initialized "java/lang/System", Cond.methodLink RX6 194 yX4_loadFrom, Cond.instanceMethod yX4_loadFrom, Cond.selects RX4 yX4_loadFrom yX4_loadFrom, Cond.code yX4_loadFrom cX4_loadFrom 3 none, Cond.methodLink RX6 191 yX2_garlands, Cond.instanceMethod yX2_garlands, Cond.selects RX2 yX2_garlands yX2_garlands, Cond.initialized RX2, Cond.code yX2_garlands cX2_garlands 3 (some .int), Cond.fieldLink RX2 9 "DollGarlands$Looks" "table" "LDollGarlands$Table;", Cond.methodLink RX2 54 yX4_hasGarland, Cond.instanceMethod yX4_hasGarland, Cond.selects RX4 yX4_hasGarland yX4_hasGarland, Cond.code yX4_hasGarland cX4_hasGarland 2 (some .boolean), Cond.static yX6_isBelow]
def wsX6_restore_r3 : List Cond := [Cond.initialized RX6, Cond.code yX6_isBelow cX6_isBelow 2 (some .boolean), Cond.methodLink RX4 47 yX4_lengthOf, Cond.instanceMethod yX4_lengthOf, Cond.selects RX4 yX4_lengthOf yX4_lengthOf, Cond.code yX4_lengthOf cX4_lengthOf 2 (some .int), Cond.methodLink RX4 28 yX3_at, Cond.instanceMethod yX3_at, Cond.selects RX3 yX3_at yX3_at, Cond.code yX3_at cX3_at 2 (some .int), Cond.static yX6_oneIf, Cond.code yX6_oneIf cX6_oneIf 1 (some .int)]
def wsX6_restore : List Cond := .code yX6_restore cX6_restore 1 (some .int) :: ((wsX6_restore_r1 ++ (wsX6_restore_r2 ++ wsX6_restore_r3)) ++ wsX60 ++ wsX10 ++ wsX40 ++ wsX30 ++ wsX20)
def wsX6_kind_r1 : List Cond := [Cond.fieldLink RX6 12 "DollGarlands" "table" "LDollGarlands$Table;", Cond.fieldLink RX6 21 "DollGarlands" "looks" "LDollGarlands$Looks;", Cond.methodLink RX6 62 yX4_hasKind, Cond.instanceMethod yX4_hasKind, Cond.selects RX4 yX4_hasKind yX4_hasKind, Cond.initialized RX4, Cond.code yX4_hasKind cX4_hasKind 2 (some .boolean), Cond.methodLink RX4 32 yX4_kindsNow, Cond.instanceMethod yX4_kindsNow, Cond.selects RX4 yX4_kindsNow yX4_kindsNow, Cond.code yX4_kindsNow cX4_kindsNow 1 (some .int), Cond.fieldLink RX4 16 "DollGarlands$Table" "cells" "LDollGarlands$Row;", Cond.methodLink RX4 28 yX3_at, Cond.instanceMethod yX3_at, Cond.selects RX3 yX3_at yX3_at, Cond.initialized RX3, Cond.code yX3_at cX3_at 2 (some .int), Cond.fieldLink RX3 7 "DollGarlands$Row" "cells" "[I", Cond.static yX6_isBelow, Cond.initialized RX6, Cond.code yX6_isBelow cX6_isBelow 2 (some .boolean), Cond.methodLink RX6 70 yX4_leftHand, Cond.instanceMethod yX4_leftHand, Cond.selects RX4 yX4_leftHand yX4_leftHand]
def wsX6_kind_r2 : List Cond := [Cond.code yX4_leftHand cX4_leftHand 2 (some .int), Cond.methodLink RX6 74 yX4_rightHand, Cond.instanceMethod yX4_rightHand, Cond.selects RX4 yX4_rightHand yX4_rightHand, Cond.code yX4_rightHand cX4_rightHand 2 (some .int), Cond.methodLink RX6 107 yX6_dollOf, Cond.static yX6_dollOf, Cond.code yX6_dollOf cX6_dollOf 2 (some .int), Cond.methodLink RX6 200 yX6_oneIf, Cond.static yX6_oneIf, Cond.code yX6_oneIf cX6_oneIf 1 (some .int), Cond.methodLink RX6 197 yX2_dollsLike, Cond.instanceMethod yX2_dollsLike, Cond.selects RX2 yX2_dollsLike yX2_dollsLike, Cond.initialized RX2, Cond.code yX2_dollsLike cX2_dollsLike 6 (some .int), Cond.fieldLink RX2 9 "DollGarlands$Looks" "table" "LDollGarlands$Table;", Cond.methodLink RX2 15 yX4_lengthOf, Cond.instanceMethod yX4_lengthOf, Cond.selects RX4 yX4_lengthOf yX4_lengthOf, Cond.code yX4_lengthOf cX4_lengthOf 2 (some .int), Cond.methodLink RX2 21 yX4_dollAt, Cond.instanceMethod yX4_dollAt, Cond.selects RX4 yX4_dollAt yX4_dollAt]
def wsX6_kind_r3 : List Cond := [Cond.code yX4_dollAt cX4_dollAt 3 (some .int), Cond.methodLink RX4 50 yX4_cellOf, Cond.instanceMethod yX4_cellOf, Cond.selects RX4 yX4_cellOf yX4_cellOf, Cond.code yX4_cellOf cX4_cellOf 3 (some .int)]
def wsX6_kind : List Cond := .code yX6_kind cX6_kind 3 (some .int) :: ((wsX6_kind_r1 ++ (wsX6_kind_r2 ++ wsX6_kind_r3)) ++ wsX60 ++ wsX40 ++ wsX30 ++ wsX20)
def wsX6_garland_r1 : List Cond := [Cond.fieldLink RX6 12 "DollGarlands" "table" "LDollGarlands$Table;", Cond.fieldLink RX6 21 "DollGarlands" "looks" "LDollGarlands$Looks;", Cond.methodLink RX6 118 yX4_hasGarland, Cond.instanceMethod yX4_hasGarland, Cond.selects RX4 yX4_hasGarland yX4_hasGarland, Cond.initialized RX4, Cond.code yX4_hasGarland cX4_hasGarland 2 (some .boolean), Cond.static yX6_isBelow, Cond.initialized RX6, Cond.code yX6_isBelow cX6_isBelow 2 (some .boolean), Cond.methodLink RX4 47 yX4_lengthOf, Cond.instanceMethod yX4_lengthOf, Cond.selects RX4 yX4_lengthOf yX4_lengthOf, Cond.code yX4_lengthOf cX4_lengthOf 2 (some .int), Cond.fieldLink RX4 16 "DollGarlands$Table" "cells" "LDollGarlands$Row;", Cond.methodLink RX4 28 yX3_at, Cond.instanceMethod yX3_at, Cond.selects RX3 yX3_at yX3_at, Cond.initialized RX3, Cond.code yX3_at cX3_at 2 (some .int), Cond.fieldLink RX3 7 "DollGarlands$Row" "cells" "[I", Cond.methodLink RX6 130 yX4_lengthOf, Cond.methodLink RX6 124 yX4_firstDoll, Cond.instanceMethod yX4_firstDoll]
def wsX6_garland_r2 : List Cond := [Cond.selects RX4 yX4_firstDoll yX4_firstDoll, Cond.code yX4_firstDoll cX4_firstDoll 2 (some .int), Cond.methodLink RX4 54 yX4_dollAt, Cond.instanceMethod yX4_dollAt, Cond.selects RX4 yX4_dollAt yX4_dollAt, Cond.code yX4_dollAt cX4_dollAt 3 (some .int), Cond.methodLink RX4 50 yX4_cellOf, Cond.instanceMethod yX4_cellOf, Cond.selects RX4 yX4_cellOf yX4_cellOf, Cond.code yX4_cellOf cX4_cellOf 3 (some .int), Cond.methodLink RX6 204 yX4_leftOf, Cond.instanceMethod yX4_leftOf, Cond.selects RX4 yX4_leftOf yX4_leftOf, Cond.code yX4_leftOf cX4_leftOf 2 (some .int), Cond.static yX6_isMirrored, Cond.code yX6_isMirrored cX6_isMirrored 1 (some .boolean), Cond.static yX6_kindOf, Cond.code yX6_kindOf cX6_kindOf 1 (some .int), Cond.methodLink RX6 121 yX4_lastDoll, Cond.instanceMethod yX4_lastDoll, Cond.selects RX4 yX4_lastDoll yX4_lastDoll, Cond.code yX4_lastDoll cX4_lastDoll 2 (some .int), Cond.methodLink RX6 207 yX4_rightOf, Cond.instanceMethod yX4_rightOf]
def wsX6_garland_r3 : List Cond := [Cond.selects RX4 yX4_rightOf yX4_rightOf, Cond.code yX4_rightOf cX4_rightOf 2 (some .int), Cond.methodLink RX6 143 yX2_mirroredIn, Cond.instanceMethod yX2_mirroredIn, Cond.selects RX2 yX2_mirroredIn yX2_mirroredIn, Cond.initialized RX2, Cond.code yX2_mirroredIn cX2_mirroredIn 5 (some .int), Cond.fieldLink RX2 9 "DollGarlands$Looks" "table" "LDollGarlands$Table;", Cond.methodLink RX2 15 yX4_lengthOf, Cond.methodLink RX2 21 yX4_dollAt, Cond.static yX6_oneIf, Cond.code yX6_oneIf cX6_oneIf 1 (some .int), Cond.methodLink RX6 210 yX2_kindsIn, Cond.instanceMethod yX2_kindsIn, Cond.selects RX2 yX2_kindsIn yX2_kindsIn, Cond.code yX2_kindsIn cX2_kindsIn 5 (some .int), Cond.methodLink RX6 137 yX2_isOwnMirror, Cond.instanceMethod yX2_isOwnMirror, Cond.selects RX2 yX2_isOwnMirror yX2_isOwnMirror, Cond.code yX2_isOwnMirror cX2_isOwnMirror 2 (some .boolean), Cond.methodLink RX2 39 yX2_isMirror, Cond.instanceMethod yX2_isMirror, Cond.selects RX2 yX2_isMirror yX2_isMirror, Cond.code yX2_isMirror cX2_isMirror 6 (some .boolean)]
def wsX6_garland_r4 : List Cond := [Cond.static yX6_mirrorOf, Cond.code yX6_mirrorOf cX6_mirrorOf 1 (some .int), Cond.methodLink RX6 200 yX6_oneIf, Cond.methodLink RX6 213 yX2_repeatOf, Cond.instanceMethod yX2_repeatOf, Cond.selects RX2 yX2_repeatOf yX2_repeatOf, Cond.code yX2_repeatOf cX2_repeatOf 4 (some .int), Cond.methodLink RX2 43 yX2_repeatsAfter, Cond.instanceMethod yX2_repeatsAfter, Cond.selects RX2 yX2_repeatsAfter yX2_repeatsAfter, Cond.code yX2_repeatsAfter cX2_repeatsAfter 5 (some .boolean), Cond.methodLink RX6 216 yX2_lowestAlike, Cond.instanceMethod yX2_lowestAlike, Cond.selects RX2 yX2_lowestAlike yX2_lowestAlike, Cond.code yX2_lowestAlike cX2_lowestAlike 3 (some .int), Cond.methodLink RX2 46 yX2_isSame, Cond.instanceMethod yX2_isSame, Cond.selects RX2 yX2_isSame yX2_isSame, Cond.code yX2_isSame cX2_isSame 5 (some .boolean)]
def wsX6_garland : List Cond := .code yX6_garland cX6_garland 3 (some .int) :: ((wsX6_garland_r1 ++ (wsX6_garland_r2 ++ (wsX6_garland_r3 ++ wsX6_garland_r4))) ++ wsX60 ++ wsX40 ++ wsX30 ++ wsX20)
def wsX6_doll_r1 : List Cond := [Cond.fieldLink RX6 12 "DollGarlands" "table" "LDollGarlands$Table;", Cond.methodLink RX6 118 yX4_hasGarland, Cond.instanceMethod yX4_hasGarland, Cond.selects RX4 yX4_hasGarland yX4_hasGarland, Cond.initialized RX4, Cond.code yX4_hasGarland cX4_hasGarland 2 (some .boolean), Cond.static yX6_isBelow, Cond.initialized RX6, Cond.code yX6_isBelow cX6_isBelow 2 (some .boolean), Cond.methodLink RX4 47 yX4_lengthOf, Cond.instanceMethod yX4_lengthOf, Cond.selects RX4 yX4_lengthOf yX4_lengthOf, Cond.code yX4_lengthOf cX4_lengthOf 2 (some .int), Cond.fieldLink RX4 16 "DollGarlands$Table" "cells" "LDollGarlands$Row;", Cond.methodLink RX4 28 yX3_at, Cond.instanceMethod yX3_at, Cond.selects RX3 yX3_at yX3_at, Cond.initialized RX3, Cond.code yX3_at cX3_at 2 (some .int), Cond.fieldLink RX3 7 "DollGarlands$Row" "cells" "[I", Cond.methodLink RX6 130 yX4_lengthOf, Cond.methodLink RX6 66 yX6_isBelow, Cond.methodLink RX6 219 yX4_dollAt, Cond.instanceMethod yX4_dollAt]
def wsX6_doll_r2 : List Cond := [Cond.selects RX4 yX4_dollAt yX4_dollAt, Cond.code yX4_dollAt cX4_dollAt 3 (some .int), Cond.methodLink RX4 50 yX4_cellOf, Cond.instanceMethod yX4_cellOf, Cond.selects RX4 yX4_cellOf yX4_cellOf, Cond.code yX4_cellOf cX4_cellOf 3 (some .int), Cond.methodLink RX6 223 yX6_kindOf, Cond.static yX6_kindOf, Cond.code yX6_kindOf cX6_kindOf 1 (some .int), Cond.methodLink RX6 226 yX6_isMirrored, Cond.static yX6_isMirrored, Cond.code yX6_isMirrored cX6_isMirrored 1 (some .boolean), Cond.methodLink RX6 200 yX6_oneIf, Cond.static yX6_oneIf, Cond.code yX6_oneIf cX6_oneIf 1 (some .int), Cond.methodLink RX6 204 yX4_leftOf, Cond.instanceMethod yX4_leftOf, Cond.selects RX4 yX4_leftOf yX4_leftOf, Cond.code yX4_leftOf cX4_leftOf 2 (some .int), Cond.methodLink RX6 207 yX4_rightOf, Cond.instanceMethod yX4_rightOf, Cond.selects RX4 yX4_rightOf yX4_rightOf, Cond.code yX4_rightOf cX4_rightOf 2 (some .int)]
def wsX6_doll : List Cond := .code yX6_doll cX6_doll 5 (some .int) :: ((wsX6_doll_r1 ++ wsX6_doll_r2) ++ wsX60 ++ wsX40 ++ wsX30)
def wsX6_reason_r1 : List Cond := [Cond.fieldLink RX6 12 "DollGarlands" "table" "LDollGarlands$Table;", Cond.methodLink RX6 118 yX4_hasGarland, Cond.instanceMethod yX4_hasGarland, Cond.selects RX4 yX4_hasGarland yX4_hasGarland, Cond.initialized RX4, Cond.code yX4_hasGarland cX4_hasGarland 2 (some .boolean), Cond.static yX6_isBelow, Cond.initialized RX6, Cond.code yX6_isBelow cX6_isBelow 2 (some .boolean), Cond.methodLink RX4 47 yX4_lengthOf, Cond.instanceMethod yX4_lengthOf, Cond.selects RX4 yX4_lengthOf yX4_lengthOf, Cond.code yX4_lengthOf cX4_lengthOf 2 (some .int), Cond.fieldLink RX4 16 "DollGarlands$Table" "cells" "LDollGarlands$Row;", Cond.methodLink RX4 28 yX3_at, Cond.instanceMethod yX3_at, Cond.selects RX3 yX3_at yX3_at, Cond.initialized RX3, Cond.code yX3_at cX3_at 2 (some .int), Cond.fieldLink RX3 7 "DollGarlands$Row" "cells" "[I", Cond.methodLink RX6 121 yX4_lastDoll, Cond.instanceMethod yX4_lastDoll, Cond.selects RX4 yX4_lastDoll yX4_lastDoll, Cond.code yX4_lastDoll cX4_lastDoll 2 (some .int)]
def wsX6_reason_r2 : List Cond := [Cond.methodLink RX4 54 yX4_dollAt, Cond.instanceMethod yX4_dollAt, Cond.selects RX4 yX4_dollAt yX4_dollAt, Cond.code yX4_dollAt cX4_dollAt 3 (some .int), Cond.methodLink RX4 50 yX4_cellOf, Cond.instanceMethod yX4_cellOf, Cond.selects RX4 yX4_cellOf yX4_cellOf, Cond.code yX4_cellOf cX4_cellOf 3 (some .int), Cond.methodLink RX6 124 yX4_firstDoll, Cond.instanceMethod yX4_firstDoll, Cond.selects RX4 yX4_firstDoll yX4_firstDoll, Cond.code yX4_firstDoll cX4_firstDoll 2 (some .int), Cond.methodLink RX6 127 yX4_clash, Cond.instanceMethod yX4_clash, Cond.selects RX4 yX4_clash yX4_clash, Cond.code yX4_clash cX4_clash 6 (some .boolean), Cond.methodLink RX4 67 yX4_rightOf, Cond.instanceMethod yX4_rightOf, Cond.selects RX4 yX4_rightOf yX4_rightOf, Cond.code yX4_rightOf cX4_rightOf 2 (some .int), Cond.static yX6_isMirrored, Cond.code yX6_isMirrored cX6_isMirrored 1 (some .boolean), Cond.static yX6_kindOf, Cond.code yX6_kindOf cX6_kindOf 1 (some .int)]
def wsX6_reason_r3 : List Cond := [Cond.methodLink RX4 70 yX4_leftOf, Cond.instanceMethod yX4_leftOf, Cond.selects RX4 yX4_leftOf yX4_leftOf, Cond.code yX4_leftOf cX4_leftOf 2 (some .int), Cond.methodLink RX4 73 yX4_ruleNow, Cond.instanceMethod yX4_ruleNow, Cond.selects RX4 yX4_ruleNow yX4_ruleNow, Cond.code yX4_ruleNow cX4_ruleNow 1 (some .int), Cond.methodLink RX6 130 yX4_lengthOf]
def wsX6_reason : List Cond := .code yX6_reason cX6_reason 3 (some .int) :: ((wsX6_reason_r1 ++ (wsX6_reason_r2 ++ wsX6_reason_r3)) ++ wsX60 ++ wsX40 ++ wsX30)
def wsX6_between_r1 : List Cond := [Cond.fieldLink RX6 12 "DollGarlands" "table" "LDollGarlands$Table;", Cond.fieldLink RX6 28 "DollGarlands" "chains" "LDollGarlands$Chains;", Cond.methodLink RX6 118 yX4_hasGarland, Cond.instanceMethod yX4_hasGarland, Cond.selects RX4 yX4_hasGarland yX4_hasGarland, Cond.initialized RX4, Cond.code yX4_hasGarland cX4_hasGarland 2 (some .boolean), Cond.static yX6_isBelow, Cond.initialized RX6, Cond.code yX6_isBelow cX6_isBelow 2 (some .boolean), Cond.methodLink RX4 47 yX4_lengthOf, Cond.instanceMethod yX4_lengthOf, Cond.selects RX4 yX4_lengthOf yX4_lengthOf, Cond.code yX4_lengthOf cX4_lengthOf 2 (some .int), Cond.fieldLink RX4 16 "DollGarlands$Table" "cells" "LDollGarlands$Row;", Cond.methodLink RX4 28 yX3_at, Cond.instanceMethod yX3_at, Cond.selects RX3 yX3_at yX3_at, Cond.initialized RX3, Cond.code yX3_at cX3_at 2 (some .int), Cond.fieldLink RX3 7 "DollGarlands$Row" "cells" "[I", Cond.methodLink RX6 121 yX4_lastDoll, Cond.instanceMethod yX4_lastDoll, Cond.selects RX4 yX4_lastDoll yX4_lastDoll]
def wsX6_between_r2 : List Cond := [Cond.code yX4_lastDoll cX4_lastDoll 2 (some .int), Cond.methodLink RX4 54 yX4_dollAt, Cond.instanceMethod yX4_dollAt, Cond.selects RX4 yX4_dollAt yX4_dollAt, Cond.code yX4_dollAt cX4_dollAt 3 (some .int), Cond.methodLink RX4 50 yX4_cellOf, Cond.instanceMethod yX4_cellOf, Cond.selects RX4 yX4_cellOf yX4_cellOf, Cond.code yX4_cellOf cX4_cellOf 3 (some .int), Cond.methodLink RX6 124 yX4_firstDoll, Cond.instanceMethod yX4_firstDoll, Cond.selects RX4 yX4_firstDoll yX4_firstDoll, Cond.code yX4_firstDoll cX4_firstDoll 2 (some .int), Cond.methodLink RX6 229 yX0_fewestBetween, Cond.instanceMethod yX0_fewestBetween, Cond.selects RX0 yX0_fewestBetween yX0_fewestBetween, Cond.initialized RX0, Cond.code yX0_fewestBetween cX0_fewestBetween 7 (some .int), Cond.fieldLink RX0 9 "DollGarlands$Chains" "table" "LDollGarlands$Table;", Cond.methodLink RX0 36 yX4_clash, Cond.instanceMethod yX4_clash, Cond.selects RX4 yX4_clash yX4_clash, Cond.code yX4_clash cX4_clash 6 (some .boolean), Cond.methodLink RX4 67 yX4_rightOf]
def wsX6_between_r3 : List Cond := [Cond.instanceMethod yX4_rightOf, Cond.selects RX4 yX4_rightOf yX4_rightOf, Cond.code yX4_rightOf cX4_rightOf 2 (some .int), Cond.static yX6_isMirrored, Cond.code yX6_isMirrored cX6_isMirrored 1 (some .boolean), Cond.static yX6_kindOf, Cond.code yX6_kindOf cX6_kindOf 1 (some .int), Cond.methodLink RX4 70 yX4_leftOf, Cond.instanceMethod yX4_leftOf, Cond.selects RX4 yX4_leftOf yX4_leftOf, Cond.code yX4_leftOf cX4_leftOf 2 (some .int), Cond.methodLink RX4 73 yX4_ruleNow, Cond.instanceMethod yX4_ruleNow, Cond.selects RX4 yX4_ruleNow yX4_ruleNow, Cond.code yX4_ruleNow cX4_ruleNow 1 (some .int), Cond.methodLink RX0 47 yX0_leadersOf, Cond.instanceMethod yX0_leadersOf, Cond.selects RX0 yX0_leadersOf yX0_leadersOf, Cond.code yX0_leadersOf cX0_leadersOf 5 (some .int), Cond.methodLink RX0 30 yX4_dollsToCut, Cond.instanceMethod yX4_dollsToCut, Cond.selects RX4 yX4_dollsToCut yX4_dollsToCut, Cond.code yX4_dollsToCut cX4_dollsToCut 1 (some .int), Cond.methodLink RX4 32 yX4_kindsNow]
def wsX6_between_r4 : List Cond := [Cond.instanceMethod yX4_kindsNow, Cond.selects RX4 yX4_kindsNow yX4_kindsNow, Cond.code yX4_kindsNow cX4_kindsNow 1 (some .int), Cond.methodLink RX0 43 yX0_followersOf, Cond.instanceMethod yX0_followersOf, Cond.selects RX0 yX0_followersOf yX0_followersOf, Cond.code yX0_followersOf cX0_followersOf 5 (some .int), Cond.methodLink RX0 50 yX0_followersOfAny, Cond.instanceMethod yX0_followersOfAny, Cond.selects RX0 yX0_followersOfAny yX0_followersOfAny, Cond.code yX0_followersOfAny cX0_followersOfAny 5 (some .int), Cond.methodLink RX0 40 yX0_holds, Cond.static yX0_holds, Cond.code yX0_holds cX0_holds 2 (some .boolean)]
def wsX6_between : List Cond := .code yX6_between cX6_between 3 (some .int) :: ((wsX6_between_r1 ++ (wsX6_between_r2 ++ (wsX6_between_r3 ++ wsX6_between_r4))) ++ wsX60 ++ wsX40 ++ wsX30 ++ wsX00)
def wsX6_ways_r1 : List Cond := [Cond.fieldLink RX6 28 "DollGarlands" "chains" "LDollGarlands$Chains;", Cond.methodLink RX6 232 yX0_garlandsOf, Cond.instanceMethod yX0_garlandsOf, Cond.selects RX0 yX0_garlandsOf yX0_garlandsOf, Cond.initialized RX0, Cond.code yX0_garlandsOf cX0_garlandsOf 5 (some .int), Cond.fieldLink RX0 9 "DollGarlands$Chains" "table" "LDollGarlands$Table;", Cond.fieldLink RX0 24 "DollGarlands$Chains" "endings" "LDollGarlands$Row;", Cond.methodLink RX0 67 yX0_countEndings, Cond.instanceMethod yX0_countEndings, Cond.selects RX0 yX0_countEndings yX0_countEndings, Cond.code yX0_countEndings cX0_countEndings 5 none, Cond.fieldLink RX0 20 "DollGarlands$Chains" "followers" "LDollGarlands$Row;", Cond.fieldLink RX0 27 "DollGarlands$Chains" "longer" "LDollGarlands$Row;", Cond.methodLink RX0 30 yX4_dollsToCut, Cond.instanceMethod yX4_dollsToCut, Cond.selects RX4 yX4_dollsToCut yX4_dollsToCut, Cond.initialized RX4, Cond.code yX4_dollsToCut cX4_dollsToCut 1 (some .int), Cond.methodLink RX4 32 yX4_kindsNow, Cond.instanceMethod yX4_kindsNow, Cond.selects RX4 yX4_kindsNow yX4_kindsNow, Cond.code yX4_kindsNow cX4_kindsNow 1 (some .int), Cond.fieldLink RX4 16 "DollGarlands$Table" "cells" "LDollGarlands$Row;"]
def wsX6_ways_r2 : List Cond := [Cond.methodLink RX4 28 yX3_at, Cond.instanceMethod yX3_at, Cond.selects RX3 yX3_at yX3_at, Cond.initialized RX3, Cond.code yX3_at cX3_at 2 (some .int), Cond.fieldLink RX3 7 "DollGarlands$Row" "cells" "[I", Cond.methodLink RX0 43 yX0_followersOf, Cond.instanceMethod yX0_followersOf, Cond.selects RX0 yX0_followersOf yX0_followersOf, Cond.code yX0_followersOf cX0_followersOf 5 (some .int), Cond.methodLink RX0 36 yX4_clash, Cond.instanceMethod yX4_clash, Cond.selects RX4 yX4_clash yX4_clash, Cond.code yX4_clash cX4_clash 6 (some .boolean), Cond.methodLink RX4 67 yX4_rightOf, Cond.instanceMethod yX4_rightOf, Cond.selects RX4 yX4_rightOf yX4_rightOf, Cond.code yX4_rightOf cX4_rightOf 2 (some .int), Cond.static yX6_isMirrored, Cond.initialized RX6, Cond.code yX6_isMirrored cX6_isMirrored 1 (some .boolean), Cond.static yX6_kindOf, Cond.code yX6_kindOf cX6_kindOf 1 (some .int), Cond.methodLink RX4 70 yX4_leftOf]
def wsX6_ways_r3 : List Cond := [Cond.instanceMethod yX4_leftOf, Cond.selects RX4 yX4_leftOf yX4_leftOf, Cond.code yX4_leftOf cX4_leftOf 2 (some .int), Cond.methodLink RX4 73 yX4_ruleNow, Cond.instanceMethod yX4_ruleNow, Cond.selects RX4 yX4_ruleNow yX4_ruleNow, Cond.code yX4_ruleNow cX4_ruleNow 1 (some .int), Cond.methodLink RX0 53 yX3_put, Cond.instanceMethod yX3_put, Cond.selects RX3 yX3_put yX3_put, Cond.code yX3_put cX3_put 3 none, Cond.methodLink RX0 57 yX0_endingsAheadOf, Cond.instanceMethod yX0_endingsAheadOf, Cond.selects RX0 yX0_endingsAheadOf yX0_endingsAheadOf, Cond.code yX0_endingsAheadOf cX0_endingsAheadOf 5 (some .int), Cond.methodLink RX0 64 yX3_at, Cond.methodLink RX0 40 yX0_holds, Cond.static yX0_holds, Cond.code yX0_holds cX0_holds 2 (some .boolean), Cond.methodLink RX0 60 yX3_copyFrom, Cond.instanceMethod yX3_copyFrom, Cond.selects RX3 yX3_copyFrom yX3_copyFrom, Cond.code yX3_copyFrom cX3_copyFrom 5 none, Cond.methodLink RX3 13 arraycopyName]
def wsX6_ways_r4 : List Cond := [Cond.native arraycopyName, Cond.static arraycopyName, Cond.initialized "java/lang/System", Cond.methodLink RX6 235 yX0_ownMirrorsOf, Cond.instanceMethod yX0_ownMirrorsOf, Cond.selects RX0 yX0_ownMirrorsOf yX0_ownMirrorsOf, Cond.code yX0_ownMirrorsOf cX0_ownMirrorsOf 5 (some .int), Cond.static yX6_mirrorOf, Cond.code yX6_mirrorOf cX6_mirrorOf 1 (some .int)]
def wsX6_ways : List Cond := .code yX6_ways cX6_ways 3 (some .int) :: ((wsX6_ways_r1 ++ (wsX6_ways_r2 ++ (wsX6_ways_r3 ++ wsX6_ways_r4))) ++ wsX60 ++ wsX00 ++ wsX40 ++ wsX30)
def wsX6_longest : List Cond := .code yX6_longest cX6_longest 4 (some .int) :: ([.fieldLink RX6 12 "DollGarlands" "table" "LDollGarlands$Table;", .methodLink RX6 130 yX4_lengthOf, .instanceMethod yX4_lengthOf, .selects RX4 yX4_lengthOf yX4_lengthOf, .initialized RX4, .code yX4_lengthOf cX4_lengthOf 2 (some .int), .fieldLink RX4 16 "DollGarlands$Table" "cells" "LDollGarlands$Row;", .methodLink RX4 28 yX3_at, .instanceMethod yX3_at, .selects RX3 yX3_at yX3_at, .initialized RX3, .code yX3_at cX3_at 2 (some .int), .fieldLink RX3 7 "DollGarlands$Row" "cells" "[I"] ++ wsX60 ++ wsX40 ++ wsX30)
def wsX6_count_r1 : List Cond := [Cond.fieldLink RX6 21 "DollGarlands" "looks" "LDollGarlands$Looks;", Cond.fieldLink RX6 12 "DollGarlands" "table" "LDollGarlands$Table;", Cond.fieldLink RX6 35 "DollGarlands" "history" "LDollGarlands$History;", Cond.fieldLink RX6 42 "DollGarlands" "text" "LDollGarlands$Text;", Cond.methodLink RX6 191 yX2_garlands, Cond.instanceMethod yX2_garlands, Cond.selects RX2 yX2_garlands yX2_garlands, Cond.initialized RX2, Cond.code yX2_garlands cX2_garlands 3 (some .int), Cond.fieldLink RX2 9 "DollGarlands$Looks" "table" "LDollGarlands$Table;", Cond.methodLink RX2 54 yX4_hasGarland, Cond.instanceMethod yX4_hasGarland, Cond.selects RX4 yX4_hasGarland yX4_hasGarland, Cond.initialized RX4, Cond.code yX4_hasGarland cX4_hasGarland 2 (some .boolean), Cond.static yX6_isBelow, Cond.initialized RX6, Cond.code yX6_isBelow cX6_isBelow 2 (some .boolean), Cond.methodLink RX4 47 yX4_lengthOf, Cond.instanceMethod yX4_lengthOf, Cond.selects RX4 yX4_lengthOf yX4_lengthOf, Cond.code yX4_lengthOf cX4_lengthOf 2 (some .int), Cond.fieldLink RX4 16 "DollGarlands$Table" "cells" "LDollGarlands$Row;", Cond.methodLink RX4 28 yX3_at]
def wsX6_count_r2 : List Cond := [Cond.instanceMethod yX3_at, Cond.selects RX3 yX3_at yX3_at, Cond.initialized RX3, Cond.code yX3_at cX3_at 2 (some .int), Cond.fieldLink RX3 7 "DollGarlands$Row" "cells" "[I", Cond.static yX6_oneIf, Cond.code yX6_oneIf cX6_oneIf 1 (some .int), Cond.methodLink RX6 238 yX2_dolls, Cond.instanceMethod yX2_dolls, Cond.selects RX2 yX2_dolls yX2_dolls, Cond.code yX2_dolls cX2_dolls 3 (some .int), Cond.methodLink RX2 15 yX4_lengthOf, Cond.methodLink RX6 241 yX2_mirroredDolls, Cond.instanceMethod yX2_mirroredDolls, Cond.selects RX2 yX2_mirroredDolls yX2_mirroredDolls, Cond.code yX2_mirroredDolls cX2_mirroredDolls 3 (some .int), Cond.methodLink RX2 57 yX2_mirroredIn, Cond.instanceMethod yX2_mirroredIn, Cond.selects RX2 yX2_mirroredIn yX2_mirroredIn, Cond.code yX2_mirroredIn cX2_mirroredIn 5 (some .int), Cond.methodLink RX2 21 yX4_dollAt, Cond.instanceMethod yX4_dollAt, Cond.selects RX4 yX4_dollAt yX4_dollAt, Cond.code yX4_dollAt cX4_dollAt 3 (some .int)]
def wsX6_count_r3 : List Cond := [Cond.methodLink RX4 50 yX4_cellOf, Cond.instanceMethod yX4_cellOf, Cond.selects RX4 yX4_cellOf yX4_cellOf, Cond.code yX4_cellOf cX4_cellOf 3 (some .int), Cond.static yX6_isMirrored, Cond.code yX6_isMirrored cX6_isMirrored 1 (some .boolean), Cond.methodLink RX6 244 yX2_ownMirrors, Cond.instanceMethod yX2_ownMirrors, Cond.selects RX2 yX2_ownMirrors yX2_ownMirrors, Cond.code yX2_ownMirrors cX2_ownMirrors 3 (some .int), Cond.methodLink RX2 60 yX2_isOwnMirror, Cond.instanceMethod yX2_isOwnMirror, Cond.selects RX2 yX2_isOwnMirror yX2_isOwnMirror, Cond.code yX2_isOwnMirror cX2_isOwnMirror 2 (some .boolean), Cond.methodLink RX2 39 yX2_isMirror, Cond.instanceMethod yX2_isMirror, Cond.selects RX2 yX2_isMirror yX2_isMirror, Cond.code yX2_isMirror cX2_isMirror 6 (some .boolean), Cond.static yX6_mirrorOf, Cond.code yX6_mirrorOf cX6_mirrorOf 1 (some .int), Cond.methodLink RX6 88 yX4_ruleNow, Cond.instanceMethod yX4_ruleNow, Cond.selects RX4 yX4_ruleNow yX4_ruleNow, Cond.code yX4_ruleNow cX4_ruleNow 1 (some .int)]
def wsX6_count_r4 : List Cond := [Cond.methodLink RX6 98 yX4_kindsNow, Cond.instanceMethod yX4_kindsNow, Cond.selects RX4 yX4_kindsNow yX4_kindsNow, Cond.code yX4_kindsNow cX4_kindsNow 1 (some .int), Cond.methodLink RX6 247 yX2_handsThatMeet, Cond.instanceMethod yX2_handsThatMeet, Cond.selects RX2 yX2_handsThatMeet yX2_handsThatMeet, Cond.code yX2_handsThatMeet cX2_handsThatMeet 7 (some .int), Cond.methodLink RX2 63 yX4_rightOf, Cond.instanceMethod yX4_rightOf, Cond.selects RX4 yX4_rightOf yX4_rightOf, Cond.code yX4_rightOf cX4_rightOf 2 (some .int), Cond.static yX6_kindOf, Cond.code yX6_kindOf cX6_kindOf 1 (some .int), Cond.methodLink RX2 66 yX4_leftOf, Cond.instanceMethod yX4_leftOf, Cond.selects RX4 yX4_leftOf yX4_leftOf, Cond.code yX4_leftOf cX4_leftOf 2 (some .int), Cond.methodLink RX6 250 yX2_differentGarlands, Cond.instanceMethod yX2_differentGarlands, Cond.selects RX2 yX2_differentGarlands yX2_differentGarlands, Cond.code yX2_differentGarlands cX2_differentGarlands 3 (some .int), Cond.methodLink RX2 69 yX2_lowestAlike, Cond.instanceMethod yX2_lowestAlike]
def wsX6_count_r5 : List Cond := [Cond.selects RX2 yX2_lowestAlike yX2_lowestAlike, Cond.code yX2_lowestAlike cX2_lowestAlike 3 (some .int), Cond.methodLink RX2 46 yX2_isSame, Cond.instanceMethod yX2_isSame, Cond.selects RX2 yX2_isSame yX2_isSame, Cond.code yX2_isSame cX2_isSame 5 (some .boolean), Cond.methodLink RX6 181 yX1_size, Cond.instanceMethod yX1_size, Cond.selects RX1 yX1_size yX1_size, Cond.initialized RX1, Cond.code yX1_size cX1_size 1 (some .int), Cond.fieldLink RX1 26 "DollGarlands$History" "recorded" "I", Cond.methodLink RX6 253 yX5_size, Cond.instanceMethod yX5_size, Cond.selects RX5 yX5_size yX5_size, Cond.initialized RX5, Cond.code yX5_size cX5_size 1 (some .int), Cond.fieldLink RX5 20 "DollGarlands$Text" "length" "I"]
def wsX6_count : List Cond := .code yX6_count cX6_count 2 (some .int) :: ((wsX6_count_r1 ++ (wsX6_count_r2 ++ (wsX6_count_r3 ++ (wsX6_count_r4 ++ wsX6_count_r5)))) ++ wsX60 ++ wsX20 ++ wsX40 ++ wsX30 ++ wsX10 ++ wsX50)
def wsX7_init : List Cond := .code yX7_init cX7_init 2 none :: ([.methodLink RX7 1 objectInit, .instanceMethod objectInit, .code objectInit ⟨#[0xb1]⟩ 1 none, .arrayClass .int, .fieldLink RX7 7 "DollGarlandsModel" "all" "[I", .fieldLink RX7 13 "DollGarlandsModel" "kept" "[I", .fieldLink RX7 16 "DollGarlandsModel" "history" "[I", .fieldLink RX7 19 "DollGarlandsModel" "snapshot" "[I", .fieldLink RX7 22 "DollGarlandsModel" "row" "[I", .fieldLink RX7 25 "DollGarlandsModel" "text" "[I", .fieldLink RX7 28 "DollGarlandsModel" "far" "[I", .fieldLink RX7 31 "DollGarlandsModel" "ending" "[I", .fieldLink RX7 34 "DollGarlandsModel" "longer" "[I"] ++ wsX70)
def wsX7_in : List Cond := .code yX7_in cX7_in 6 (some .boolean) :: ([])
def wsX7_keeps : List Cond := .code yX7_keeps cX7_keeps 2 none :: ([.fieldLink RX7 13 "DollGarlandsModel" "kept" "[I", .fieldLink RX7 7 "DollGarlandsModel" "all" "[I"] ++ wsX70)
def wsX7_comesBack : List Cond := .code yX7_comesBack cX7_comesBack 2 none :: ([.fieldLink RX7 7 "DollGarlandsModel" "all" "[I", .fieldLink RX7 13 "DollGarlandsModel" "kept" "[I"] ++ wsX70)
def wsX7_records : List Cond := .code yX7_records cX7_records 2 none :: ([.fieldLink RX7 37 "DollGarlandsModel" "historyLong" "I", .fieldLink RX7 16 "DollGarlandsModel" "history" "[I", .fieldLink RX7 13 "DollGarlandsModel" "kept" "[I"] ++ wsX70)
def wsX7_ends : List Cond := .code yX7_ends cX7_ends 2 (some .int) :: ([.methodLink RX7 41 yX7_comesBack, .instanceMethod yX7_comesBack, .selects RX7 yX7_comesBack yX7_comesBack, .initialized RX7, .code yX7_comesBack cX7_comesBack 2 none, .fieldLink RX7 7 "DollGarlandsModel" "all" "[I", .fieldLink RX7 13 "DollGarlandsModel" "kept" "[I", .methodLink RX7 44 yX7_records, .instanceMethod yX7_records, .selects RX7 yX7_records yX7_records, .code yX7_records cX7_records 2 none, .fieldLink RX7 37 "DollGarlandsModel" "historyLong" "I", .fieldLink RX7 16 "DollGarlandsModel" "history" "[I"] ++ wsX70)
def wsX7_isKind : List Cond := .code yX7_isKind cX7_isKind 2 (some .boolean) :: ([.fieldLink RX7 7 "DollGarlandsModel" "all" "[I", .methodLink RX7 47 yX7_in, .static yX7_in, .initialized RX7, .code yX7_in cX7_in 6 (some .boolean)] ++ wsX70)
def wsX7_handOf : List Cond := .code yX7_handOf cX7_handOf 3 (some .int) :: ([.fieldLink RX7 7 "DollGarlandsModel" "all" "[I"] ++ wsX70)
def wsX7_clash : List Cond := .code yX7_clash cX7_clash 5 (some .boolean) :: ([.fieldLink RX7 7 "DollGarlandsModel" "all" "[I", .methodLink RX7 51 yX7_handOf, .instanceMethod yX7_handOf, .selects RX7 yX7_handOf yX7_handOf, .initialized RX7, .code yX7_handOf cX7_handOf 3 (some .int)] ++ wsX70)
def wsX7_isGarland : List Cond := .code yX7_isGarland cX7_isGarland 2 (some .boolean) :: ([.constantLong RX7 55 (7), .fieldLink RX7 7 "DollGarlandsModel" "all" "[I", .methodLink RX7 47 yX7_in, .static yX7_in, .initialized RX7, .code yX7_in cX7_in 6 (some .boolean)] ++ wsX70)
def wsX7_dollAt : List Cond := .code yX7_dollAt cX7_dollAt 3 (some .int) :: ([.fieldLink RX7 7 "DollGarlandsModel" "all" "[I"] ++ wsX70)
def wsX7_last : List Cond := .code yX7_last cX7_last 2 (some .int) :: ([.fieldLink RX7 7 "DollGarlandsModel" "all" "[I", .methodLink RX7 57 yX7_dollAt, .instanceMethod yX7_dollAt, .selects RX7 yX7_dollAt yX7_dollAt, .initialized RX7, .code yX7_dollAt cX7_dollAt 3 (some .int)] ++ wsX70)
def wsX7_lays : List Cond := .code yX7_lays cX7_lays 4 none :: ([.fieldLink RX7 7 "DollGarlandsModel" "all" "[I"] ++ wsX70)
def wsX7_freeNumber : List Cond := .code yX7_freeNumber cX7_freeNumber 2 (some .int) :: ([.fieldLink RX7 7 "DollGarlandsModel" "all" "[I"] ++ wsX70)
def wsX7_anyClash : List Cond := .code yX7_anyClash cX7_anyClash 4 (some .boolean) :: ([.fieldLink RX7 7 "DollGarlandsModel" "all" "[I", .methodLink RX7 57 yX7_dollAt, .instanceMethod yX7_dollAt, .selects RX7 yX7_dollAt yX7_dollAt, .initialized RX7, .code yX7_dollAt cX7_dollAt 3 (some .int), .methodLink RX7 60 yX7_clash, .instanceMethod yX7_clash, .selects RX7 yX7_clash yX7_clash, .code yX7_clash cX7_clash 5 (some .boolean), .methodLink RX7 51 yX7_handOf, .instanceMethod yX7_handOf, .selects RX7 yX7_handOf yX7_handOf, .code yX7_handOf cX7_handOf 3 (some .int)] ++ wsX70)
def wsX7_turnedDoll : List Cond := .code yX7_turnedDoll cX7_turnedDoll 3 (some .int) :: ([.fieldLink RX7 7 "DollGarlandsModel" "all" "[I", .methodLink RX7 57 yX7_dollAt, .instanceMethod yX7_dollAt, .selects RX7 yX7_dollAt yX7_dollAt, .initialized RX7, .code yX7_dollAt cX7_dollAt 3 (some .int)] ++ wsX70)
def wsX7_isLike : List Cond := .code yX7_isLike cX7_isLike 6 (some .boolean) :: ([.fieldLink RX7 7 "DollGarlandsModel" "all" "[I", .methodLink RX7 57 yX7_dollAt, .instanceMethod yX7_dollAt, .selects RX7 yX7_dollAt yX7_dollAt, .initialized RX7, .code yX7_dollAt cX7_dollAt 3 (some .int), .methodLink RX7 64 yX7_turnedDoll, .instanceMethod yX7_turnedDoll, .selects RX7 yX7_turnedDoll yX7_turnedDoll, .code yX7_turnedDoll cX7_turnedDoll 3 (some .int)] ++ wsX70)
def wsX7_isOwnImage : List Cond := .code yX7_isOwnImage cX7_isOwnImage 2 (some .boolean) :: ([.methodLink RX7 67 yX7_isLike, .instanceMethod yX7_isLike, .selects RX7 yX7_isLike yX7_isLike, .initialized RX7, .code yX7_isLike cX7_isLike 6 (some .boolean), .fieldLink RX7 7 "DollGarlandsModel" "all" "[I", .methodLink RX7 57 yX7_dollAt, .instanceMethod yX7_dollAt, .selects RX7 yX7_dollAt yX7_dollAt, .code yX7_dollAt cX7_dollAt 3 (some .int), .methodLink RX7 64 yX7_turnedDoll, .instanceMethod yX7_turnedDoll, .selects RX7 yX7_turnedDoll yX7_turnedDoll, .code yX7_turnedDoll cX7_turnedDoll 3 (some .int)] ++ wsX70)
def wsX7_mirroredIn : List Cond := .code yX7_mirroredIn cX7_mirroredIn 4 (some .int) :: ([.fieldLink RX7 7 "DollGarlandsModel" "all" "[I", .methodLink RX7 57 yX7_dollAt, .instanceMethod yX7_dollAt, .selects RX7 yX7_dollAt yX7_dollAt, .initialized RX7, .code yX7_dollAt cX7_dollAt 3 (some .int)] ++ wsX70)
def wsX7_takes : List Cond := .code yX7_takes cX7_takes 3 none :: ([.fieldLink RX7 7 "DollGarlandsModel" "all" "[I", .methodLink RX7 71 yX7_lays, .instanceMethod yX7_lays, .selects RX7 yX7_lays yX7_lays, .initialized RX7, .code yX7_lays cX7_lays 4 none] ++ wsX70)
def wsX7_setHands_r1 : List Cond := [Cond.constantLong RX7 79 (5), Cond.fieldLink RX7 7 "DollGarlandsModel" "all" "[I", Cond.methodLink RX7 75 yX7_isKind, Cond.instanceMethod yX7_isKind, Cond.selects RX7 yX7_isKind yX7_isKind, Cond.initialized RX7, Cond.code yX7_isKind cX7_isKind 2 (some .boolean), Cond.methodLink RX7 47 yX7_in, Cond.static yX7_in, Cond.code yX7_in cX7_in 6 (some .boolean), Cond.methodLink RX7 81 yX7_keeps, Cond.instanceMethod yX7_keeps, Cond.selects RX7 yX7_keeps yX7_keeps, Cond.code yX7_keeps cX7_keeps 2 none, Cond.fieldLink RX7 13 "DollGarlandsModel" "kept" "[I", Cond.methodLink RX7 84 yX7_anyClash, Cond.instanceMethod yX7_anyClash, Cond.selects RX7 yX7_anyClash yX7_anyClash, Cond.code yX7_anyClash cX7_anyClash 4 (some .boolean), Cond.methodLink RX7 57 yX7_dollAt, Cond.instanceMethod yX7_dollAt, Cond.selects RX7 yX7_dollAt yX7_dollAt, Cond.code yX7_dollAt cX7_dollAt 3 (some .int), Cond.methodLink RX7 60 yX7_clash]
def wsX7_setHands_r2 : List Cond := [Cond.instanceMethod yX7_clash, Cond.selects RX7 yX7_clash yX7_clash, Cond.code yX7_clash cX7_clash 5 (some .boolean), Cond.methodLink RX7 51 yX7_handOf, Cond.instanceMethod yX7_handOf, Cond.selects RX7 yX7_handOf yX7_handOf, Cond.code yX7_handOf cX7_handOf 3 (some .int), Cond.methodLink RX7 88 yX7_ends, Cond.instanceMethod yX7_ends, Cond.selects RX7 yX7_ends yX7_ends, Cond.code yX7_ends cX7_ends 2 (some .int), Cond.methodLink RX7 41 yX7_comesBack, Cond.instanceMethod yX7_comesBack, Cond.selects RX7 yX7_comesBack yX7_comesBack, Cond.code yX7_comesBack cX7_comesBack 2 none, Cond.methodLink RX7 44 yX7_records, Cond.instanceMethod yX7_records, Cond.selects RX7 yX7_records yX7_records, Cond.code yX7_records cX7_records 2 none, Cond.fieldLink RX7 37 "DollGarlandsModel" "historyLong" "I", Cond.fieldLink RX7 16 "DollGarlandsModel" "history" "[I"]
def wsX7_setHands : List Cond := .code yX7_setHands cX7_setHands 7 (some .int) :: ((wsX7_setHands_r1 ++ wsX7_setHands_r2) ++ wsX70)
def wsX7_setRule_r1 : List Cond := [Cond.constantLong RX7 92 (2), Cond.fieldLink RX7 7 "DollGarlandsModel" "all" "[I", Cond.methodLink RX7 47 yX7_in, Cond.static yX7_in, Cond.initialized RX7, Cond.code yX7_in cX7_in 6 (some .boolean), Cond.methodLink RX7 81 yX7_keeps, Cond.instanceMethod yX7_keeps, Cond.selects RX7 yX7_keeps yX7_keeps, Cond.code yX7_keeps cX7_keeps 2 none, Cond.fieldLink RX7 13 "DollGarlandsModel" "kept" "[I", Cond.methodLink RX7 84 yX7_anyClash, Cond.instanceMethod yX7_anyClash, Cond.selects RX7 yX7_anyClash yX7_anyClash, Cond.code yX7_anyClash cX7_anyClash 4 (some .boolean), Cond.methodLink RX7 57 yX7_dollAt, Cond.instanceMethod yX7_dollAt, Cond.selects RX7 yX7_dollAt yX7_dollAt, Cond.code yX7_dollAt cX7_dollAt 3 (some .int), Cond.methodLink RX7 60 yX7_clash, Cond.instanceMethod yX7_clash, Cond.selects RX7 yX7_clash yX7_clash, Cond.code yX7_clash cX7_clash 5 (some .boolean), Cond.methodLink RX7 51 yX7_handOf]
def wsX7_setRule_r2 : List Cond := [Cond.instanceMethod yX7_handOf, Cond.selects RX7 yX7_handOf yX7_handOf, Cond.code yX7_handOf cX7_handOf 3 (some .int), Cond.methodLink RX7 88 yX7_ends, Cond.instanceMethod yX7_ends, Cond.selects RX7 yX7_ends yX7_ends, Cond.code yX7_ends cX7_ends 2 (some .int), Cond.methodLink RX7 41 yX7_comesBack, Cond.instanceMethod yX7_comesBack, Cond.selects RX7 yX7_comesBack yX7_comesBack, Cond.code yX7_comesBack cX7_comesBack 2 none, Cond.methodLink RX7 44 yX7_records, Cond.instanceMethod yX7_records, Cond.selects RX7 yX7_records yX7_records, Cond.code yX7_records cX7_records 2 none, Cond.fieldLink RX7 37 "DollGarlandsModel" "historyLong" "I", Cond.fieldLink RX7 16 "DollGarlandsModel" "history" "[I"]
def wsX7_setRule : List Cond := .code yX7_setRule cX7_setRule 3 (some .int) :: ((wsX7_setRule_r1 ++ wsX7_setRule_r2) ++ wsX70)
def wsX7_greatestKind : List Cond := .code yX7_greatestKind cX7_greatestKind 4 (some .int) :: ([.fieldLink RX7 7 "DollGarlandsModel" "all" "[I", .methodLink RX7 57 yX7_dollAt, .instanceMethod yX7_dollAt, .selects RX7 yX7_dollAt yX7_dollAt, .initialized RX7, .code yX7_dollAt cX7_dollAt 3 (some .int)] ++ wsX70)
def wsX7_setKinds_r1 : List Cond := [Cond.constantLong RX7 94 (10), Cond.fieldLink RX7 7 "DollGarlandsModel" "all" "[I", Cond.methodLink RX7 47 yX7_in, Cond.static yX7_in, Cond.initialized RX7, Cond.code yX7_in cX7_in 6 (some .boolean), Cond.methodLink RX7 96 yX7_greatestKind, Cond.instanceMethod yX7_greatestKind, Cond.selects RX7 yX7_greatestKind yX7_greatestKind, Cond.code yX7_greatestKind cX7_greatestKind 4 (some .int), Cond.methodLink RX7 57 yX7_dollAt, Cond.instanceMethod yX7_dollAt, Cond.selects RX7 yX7_dollAt yX7_dollAt, Cond.code yX7_dollAt cX7_dollAt 3 (some .int), Cond.methodLink RX7 81 yX7_keeps, Cond.instanceMethod yX7_keeps, Cond.selects RX7 yX7_keeps yX7_keeps, Cond.code yX7_keeps cX7_keeps 2 none, Cond.fieldLink RX7 13 "DollGarlandsModel" "kept" "[I", Cond.methodLink RX7 88 yX7_ends, Cond.instanceMethod yX7_ends, Cond.selects RX7 yX7_ends yX7_ends, Cond.code yX7_ends cX7_ends 2 (some .int), Cond.methodLink RX7 41 yX7_comesBack]
def wsX7_setKinds_r2 : List Cond := [Cond.instanceMethod yX7_comesBack, Cond.selects RX7 yX7_comesBack yX7_comesBack, Cond.code yX7_comesBack cX7_comesBack 2 none, Cond.methodLink RX7 44 yX7_records, Cond.instanceMethod yX7_records, Cond.selects RX7 yX7_records yX7_records, Cond.code yX7_records cX7_records 2 none, Cond.fieldLink RX7 37 "DollGarlandsModel" "historyLong" "I", Cond.fieldLink RX7 16 "DollGarlandsModel" "history" "[I"]
def wsX7_setKinds : List Cond := .code yX7_setKinds cX7_setKinds 3 (some .int) :: ((wsX7_setKinds_r1 ++ wsX7_setKinds_r2) ++ wsX70)
def wsX7_cutDoll_r1 : List Cond := [Cond.fieldLink RX7 7 "DollGarlandsModel" "all" "[I", Cond.methodLink RX7 75 yX7_isKind, Cond.instanceMethod yX7_isKind, Cond.selects RX7 yX7_isKind yX7_isKind, Cond.initialized RX7, Cond.code yX7_isKind cX7_isKind 2 (some .boolean), Cond.methodLink RX7 47 yX7_in, Cond.static yX7_in, Cond.code yX7_in cX7_in 6 (some .boolean), Cond.methodLink RX7 100 yX7_freeNumber, Cond.instanceMethod yX7_freeNumber, Cond.selects RX7 yX7_freeNumber yX7_freeNumber, Cond.code yX7_freeNumber cX7_freeNumber 2 (some .int), Cond.methodLink RX7 81 yX7_keeps, Cond.instanceMethod yX7_keeps, Cond.selects RX7 yX7_keeps yX7_keeps, Cond.code yX7_keeps cX7_keeps 2 none, Cond.fieldLink RX7 13 "DollGarlandsModel" "kept" "[I", Cond.methodLink RX7 71 yX7_lays, Cond.instanceMethod yX7_lays, Cond.selects RX7 yX7_lays yX7_lays, Cond.code yX7_lays cX7_lays 4 none, Cond.methodLink RX7 88 yX7_ends, Cond.instanceMethod yX7_ends]
def wsX7_cutDoll_r2 : List Cond := [Cond.selects RX7 yX7_ends yX7_ends, Cond.code yX7_ends cX7_ends 2 (some .int), Cond.methodLink RX7 41 yX7_comesBack, Cond.instanceMethod yX7_comesBack, Cond.selects RX7 yX7_comesBack yX7_comesBack, Cond.code yX7_comesBack cX7_comesBack 2 none, Cond.methodLink RX7 44 yX7_records, Cond.instanceMethod yX7_records, Cond.selects RX7 yX7_records yX7_records, Cond.code yX7_records cX7_records 2 none, Cond.fieldLink RX7 37 "DollGarlandsModel" "historyLong" "I", Cond.fieldLink RX7 16 "DollGarlandsModel" "history" "[I"]
def wsX7_cutDoll : List Cond := .code yX7_cutDoll cX7_cutDoll 4 (some .int) :: ((wsX7_cutDoll_r1 ++ wsX7_cutDoll_r2) ++ wsX70)
def wsX7_join_r1 : List Cond := [Cond.fieldLink RX7 7 "DollGarlandsModel" "all" "[I", Cond.methodLink RX7 103 yX7_isGarland, Cond.instanceMethod yX7_isGarland, Cond.selects RX7 yX7_isGarland yX7_isGarland, Cond.initialized RX7, Cond.code yX7_isGarland cX7_isGarland 2 (some .boolean), Cond.constantLong RX7 55 (7), Cond.methodLink RX7 47 yX7_in, Cond.static yX7_in, Cond.code yX7_in cX7_in 6 (some .boolean), Cond.methodLink RX7 106 yX7_last, Cond.instanceMethod yX7_last, Cond.selects RX7 yX7_last yX7_last, Cond.code yX7_last cX7_last 2 (some .int), Cond.methodLink RX7 57 yX7_dollAt, Cond.instanceMethod yX7_dollAt, Cond.selects RX7 yX7_dollAt yX7_dollAt, Cond.code yX7_dollAt cX7_dollAt 3 (some .int), Cond.methodLink RX7 60 yX7_clash, Cond.instanceMethod yX7_clash, Cond.selects RX7 yX7_clash yX7_clash, Cond.code yX7_clash cX7_clash 5 (some .boolean), Cond.methodLink RX7 51 yX7_handOf, Cond.instanceMethod yX7_handOf]
def wsX7_join_r2 : List Cond := [Cond.selects RX7 yX7_handOf yX7_handOf, Cond.code yX7_handOf cX7_handOf 3 (some .int), Cond.methodLink RX7 81 yX7_keeps, Cond.instanceMethod yX7_keeps, Cond.selects RX7 yX7_keeps yX7_keeps, Cond.code yX7_keeps cX7_keeps 2 none, Cond.fieldLink RX7 13 "DollGarlandsModel" "kept" "[I", Cond.methodLink RX7 71 yX7_lays, Cond.instanceMethod yX7_lays, Cond.selects RX7 yX7_lays yX7_lays, Cond.code yX7_lays cX7_lays 4 none, Cond.methodLink RX7 109 yX7_takes, Cond.instanceMethod yX7_takes, Cond.selects RX7 yX7_takes yX7_takes, Cond.code yX7_takes cX7_takes 3 none, Cond.methodLink RX7 88 yX7_ends, Cond.instanceMethod yX7_ends, Cond.selects RX7 yX7_ends yX7_ends, Cond.code yX7_ends cX7_ends 2 (some .int), Cond.methodLink RX7 41 yX7_comesBack, Cond.instanceMethod yX7_comesBack, Cond.selects RX7 yX7_comesBack yX7_comesBack, Cond.code yX7_comesBack cX7_comesBack 2 none, Cond.methodLink RX7 44 yX7_records]
def wsX7_join_r3 : List Cond := [Cond.instanceMethod yX7_records, Cond.selects RX7 yX7_records yX7_records, Cond.code yX7_records cX7_records 2 none, Cond.fieldLink RX7 37 "DollGarlandsModel" "historyLong" "I", Cond.fieldLink RX7 16 "DollGarlandsModel" "history" "[I"]
def wsX7_join : List Cond := .code yX7_join cX7_join 4 (some .int) :: ((wsX7_join_r1 ++ (wsX7_join_r2 ++ wsX7_join_r3)) ++ wsX70)
def wsX7_cutApart_r1 : List Cond := [Cond.fieldLink RX7 7 "DollGarlandsModel" "all" "[I", Cond.methodLink RX7 103 yX7_isGarland, Cond.instanceMethod yX7_isGarland, Cond.selects RX7 yX7_isGarland yX7_isGarland, Cond.initialized RX7, Cond.code yX7_isGarland cX7_isGarland 2 (some .boolean), Cond.constantLong RX7 55 (7), Cond.methodLink RX7 47 yX7_in, Cond.static yX7_in, Cond.code yX7_in cX7_in 6 (some .boolean), Cond.methodLink RX7 100 yX7_freeNumber, Cond.instanceMethod yX7_freeNumber, Cond.selects RX7 yX7_freeNumber yX7_freeNumber, Cond.code yX7_freeNumber cX7_freeNumber 2 (some .int), Cond.methodLink RX7 81 yX7_keeps, Cond.instanceMethod yX7_keeps, Cond.selects RX7 yX7_keeps yX7_keeps, Cond.code yX7_keeps cX7_keeps 2 none, Cond.fieldLink RX7 13 "DollGarlandsModel" "kept" "[I", Cond.methodLink RX7 57 yX7_dollAt, Cond.instanceMethod yX7_dollAt, Cond.selects RX7 yX7_dollAt yX7_dollAt, Cond.code yX7_dollAt cX7_dollAt 3 (some .int), Cond.methodLink RX7 71 yX7_lays]
def wsX7_cutApart_r2 : List Cond := [Cond.instanceMethod yX7_lays, Cond.selects RX7 yX7_lays yX7_lays, Cond.code yX7_lays cX7_lays 4 none, Cond.methodLink RX7 88 yX7_ends, Cond.instanceMethod yX7_ends, Cond.selects RX7 yX7_ends yX7_ends, Cond.code yX7_ends cX7_ends 2 (some .int), Cond.methodLink RX7 41 yX7_comesBack, Cond.instanceMethod yX7_comesBack, Cond.selects RX7 yX7_comesBack yX7_comesBack, Cond.code yX7_comesBack cX7_comesBack 2 none, Cond.methodLink RX7 44 yX7_records, Cond.instanceMethod yX7_records, Cond.selects RX7 yX7_records yX7_records, Cond.code yX7_records cX7_records 2 none, Cond.fieldLink RX7 37 "DollGarlandsModel" "historyLong" "I", Cond.fieldLink RX7 16 "DollGarlandsModel" "history" "[I"]
def wsX7_cutApart : List Cond := .code yX7_cutApart cX7_cutApart 5 (some .int) :: ((wsX7_cutApart_r1 ++ wsX7_cutApart_r2) ++ wsX70)
def wsX7_turn_r1 : List Cond := [Cond.fieldLink RX7 7 "DollGarlandsModel" "all" "[I", Cond.fieldLink RX7 22 "DollGarlandsModel" "row" "[I", Cond.methodLink RX7 103 yX7_isGarland, Cond.instanceMethod yX7_isGarland, Cond.selects RX7 yX7_isGarland yX7_isGarland, Cond.initialized RX7, Cond.code yX7_isGarland cX7_isGarland 2 (some .boolean), Cond.constantLong RX7 55 (7), Cond.methodLink RX7 47 yX7_in, Cond.static yX7_in, Cond.code yX7_in cX7_in 6 (some .boolean), Cond.methodLink RX7 113 yX7_isOwnImage, Cond.instanceMethod yX7_isOwnImage, Cond.selects RX7 yX7_isOwnImage yX7_isOwnImage, Cond.code yX7_isOwnImage cX7_isOwnImage 2 (some .boolean), Cond.methodLink RX7 67 yX7_isLike, Cond.instanceMethod yX7_isLike, Cond.selects RX7 yX7_isLike yX7_isLike, Cond.code yX7_isLike cX7_isLike 6 (some .boolean), Cond.methodLink RX7 57 yX7_dollAt, Cond.instanceMethod yX7_dollAt, Cond.selects RX7 yX7_dollAt yX7_dollAt, Cond.code yX7_dollAt cX7_dollAt 3 (some .int), Cond.methodLink RX7 64 yX7_turnedDoll]
def wsX7_turn_r2 : List Cond := [Cond.instanceMethod yX7_turnedDoll, Cond.selects RX7 yX7_turnedDoll yX7_turnedDoll, Cond.code yX7_turnedDoll cX7_turnedDoll 3 (some .int), Cond.methodLink RX7 81 yX7_keeps, Cond.instanceMethod yX7_keeps, Cond.selects RX7 yX7_keeps yX7_keeps, Cond.code yX7_keeps cX7_keeps 2 none, Cond.fieldLink RX7 13 "DollGarlandsModel" "kept" "[I", Cond.methodLink RX7 71 yX7_lays, Cond.instanceMethod yX7_lays, Cond.selects RX7 yX7_lays yX7_lays, Cond.code yX7_lays cX7_lays 4 none, Cond.methodLink RX7 116 yX7_mirroredIn, Cond.instanceMethod yX7_mirroredIn, Cond.selects RX7 yX7_mirroredIn yX7_mirroredIn, Cond.code yX7_mirroredIn cX7_mirroredIn 4 (some .int), Cond.methodLink RX7 88 yX7_ends, Cond.instanceMethod yX7_ends, Cond.selects RX7 yX7_ends yX7_ends, Cond.code yX7_ends cX7_ends 2 (some .int), Cond.methodLink RX7 41 yX7_comesBack, Cond.instanceMethod yX7_comesBack, Cond.selects RX7 yX7_comesBack yX7_comesBack, Cond.code yX7_comesBack cX7_comesBack 2 none]
def wsX7_turn_r3 : List Cond := [Cond.methodLink RX7 44 yX7_records, Cond.instanceMethod yX7_records, Cond.selects RX7 yX7_records yX7_records, Cond.code yX7_records cX7_records 2 none, Cond.fieldLink RX7 37 "DollGarlandsModel" "historyLong" "I", Cond.fieldLink RX7 16 "DollGarlandsModel" "history" "[I"]
def wsX7_turn : List Cond := .code yX7_turn cX7_turn 3 (some .int) :: ((wsX7_turn_r1 ++ (wsX7_turn_r2 ++ wsX7_turn_r3)) ++ wsX70)
def wsX7_fold_r1 : List Cond := [Cond.fieldLink RX7 7 "DollGarlandsModel" "all" "[I", Cond.methodLink RX7 103 yX7_isGarland, Cond.instanceMethod yX7_isGarland, Cond.selects RX7 yX7_isGarland yX7_isGarland, Cond.initialized RX7, Cond.code yX7_isGarland cX7_isGarland 2 (some .boolean), Cond.constantLong RX7 55 (7), Cond.methodLink RX7 47 yX7_in, Cond.static yX7_in, Cond.code yX7_in cX7_in 6 (some .boolean), Cond.methodLink RX7 106 yX7_last, Cond.instanceMethod yX7_last, Cond.selects RX7 yX7_last yX7_last, Cond.code yX7_last cX7_last 2 (some .int), Cond.methodLink RX7 57 yX7_dollAt, Cond.instanceMethod yX7_dollAt, Cond.selects RX7 yX7_dollAt yX7_dollAt, Cond.code yX7_dollAt cX7_dollAt 3 (some .int), Cond.methodLink RX7 60 yX7_clash, Cond.instanceMethod yX7_clash, Cond.selects RX7 yX7_clash yX7_clash, Cond.code yX7_clash cX7_clash 5 (some .boolean), Cond.methodLink RX7 51 yX7_handOf, Cond.instanceMethod yX7_handOf]
def wsX7_fold_r2 : List Cond := [Cond.selects RX7 yX7_handOf yX7_handOf, Cond.code yX7_handOf cX7_handOf 3 (some .int), Cond.methodLink RX7 81 yX7_keeps, Cond.instanceMethod yX7_keeps, Cond.selects RX7 yX7_keeps yX7_keeps, Cond.code yX7_keeps cX7_keeps 2 none, Cond.fieldLink RX7 13 "DollGarlandsModel" "kept" "[I", Cond.methodLink RX7 71 yX7_lays, Cond.instanceMethod yX7_lays, Cond.selects RX7 yX7_lays yX7_lays, Cond.code yX7_lays cX7_lays 4 none, Cond.methodLink RX7 88 yX7_ends, Cond.instanceMethod yX7_ends, Cond.selects RX7 yX7_ends yX7_ends, Cond.code yX7_ends cX7_ends 2 (some .int), Cond.methodLink RX7 41 yX7_comesBack, Cond.instanceMethod yX7_comesBack, Cond.selects RX7 yX7_comesBack yX7_comesBack, Cond.code yX7_comesBack cX7_comesBack 2 none, Cond.methodLink RX7 44 yX7_records, Cond.instanceMethod yX7_records, Cond.selects RX7 yX7_records yX7_records, Cond.code yX7_records cX7_records 2 none, Cond.fieldLink RX7 37 "DollGarlandsModel" "historyLong" "I"]
def wsX7_fold_r3 : List Cond := [Cond.fieldLink RX7 16 "DollGarlandsModel" "history" "[I"]
def wsX7_fold : List Cond := .code yX7_fold cX7_fold 4 (some .int) :: ((wsX7_fold_r1 ++ (wsX7_fold_r2 ++ wsX7_fold_r3)) ++ wsX70)
def wsX7_takeAway_r1 : List Cond := [Cond.fieldLink RX7 7 "DollGarlandsModel" "all" "[I", Cond.methodLink RX7 103 yX7_isGarland, Cond.instanceMethod yX7_isGarland, Cond.selects RX7 yX7_isGarland yX7_isGarland, Cond.initialized RX7, Cond.code yX7_isGarland cX7_isGarland 2 (some .boolean), Cond.constantLong RX7 55 (7), Cond.methodLink RX7 47 yX7_in, Cond.static yX7_in, Cond.code yX7_in cX7_in 6 (some .boolean), Cond.methodLink RX7 81 yX7_keeps, Cond.instanceMethod yX7_keeps, Cond.selects RX7 yX7_keeps yX7_keeps, Cond.code yX7_keeps cX7_keeps 2 none, Cond.fieldLink RX7 13 "DollGarlandsModel" "kept" "[I", Cond.methodLink RX7 109 yX7_takes, Cond.instanceMethod yX7_takes, Cond.selects RX7 yX7_takes yX7_takes, Cond.code yX7_takes cX7_takes 3 none, Cond.methodLink RX7 71 yX7_lays, Cond.instanceMethod yX7_lays, Cond.selects RX7 yX7_lays yX7_lays, Cond.code yX7_lays cX7_lays 4 none, Cond.methodLink RX7 88 yX7_ends]
def wsX7_takeAway_r2 : List Cond := [Cond.instanceMethod yX7_ends, Cond.selects RX7 yX7_ends yX7_ends, Cond.code yX7_ends cX7_ends 2 (some .int), Cond.methodLink RX7 41 yX7_comesBack, Cond.instanceMethod yX7_comesBack, Cond.selects RX7 yX7_comesBack yX7_comesBack, Cond.code yX7_comesBack cX7_comesBack 2 none, Cond.methodLink RX7 44 yX7_records, Cond.instanceMethod yX7_records, Cond.selects RX7 yX7_records yX7_records, Cond.code yX7_records cX7_records 2 none, Cond.fieldLink RX7 37 "DollGarlandsModel" "historyLong" "I", Cond.fieldLink RX7 16 "DollGarlandsModel" "history" "[I"]
def wsX7_takeAway : List Cond := .code yX7_takeAway cX7_takeAway 3 (some .int) :: ((wsX7_takeAway_r1 ++ wsX7_takeAway_r2) ++ wsX70)
def wsX7_type : List Cond := .code yX7_type cX7_type 2 (some .int) :: ([.fieldLink RX7 119 "DollGarlandsModel" "textLong" "I", .fieldLink RX7 25 "DollGarlandsModel" "text" "[I"] ++ wsX70)
def wsX7_clearText : List Cond := .code yX7_clearText cX7_clearText 2 (some .int) :: ([.fieldLink RX7 119 "DollGarlandsModel" "textLong" "I"] ++ wsX70)
def wsX7_takesOne : List Cond := .code yX7_takesOne cX7_takesOne 3 (some .boolean) :: ([.fieldLink RX7 122 "DollGarlandsModel" "spot" "I", .fieldLink RX7 119 "DollGarlandsModel" "textLong" "I", .fieldLink RX7 25 "DollGarlandsModel" "text" "[I"] ++ wsX70)
def wsX7_readsDoll : List Cond := .code yX7_readsDoll cX7_readsDoll 1 (some .boolean) :: ([.fieldLink RX7 122 "DollGarlandsModel" "spot" "I", .fieldLink RX7 119 "DollGarlandsModel" "textLong" "I", .fieldLink RX7 25 "DollGarlandsModel" "text" "[I", .constantLong RX7 125 (48), .constantLong RX7 127 (57), .fieldLink RX7 22 "DollGarlandsModel" "row" "[I", .fieldLink RX7 129 "DollGarlandsModel" "read" "I", .methodLink RX7 47 yX7_in, .static yX7_in, .initialized RX7, .code yX7_in cX7_in 6 (some .boolean), .methodLink RX7 132 yX7_takesOne, .instanceMethod yX7_takesOne, .selects RX7 yX7_takesOne yX7_takesOne, .code yX7_takesOne cX7_takesOne 3 (some .boolean)] ++ wsX70)
def wsX7_fault : List Cond := .code yX7_fault cX7_fault 2 (some .int) :: ([.fieldLink RX7 122 "DollGarlandsModel" "spot" "I", .fieldLink RX7 129 "DollGarlandsModel" "read" "I", .fieldLink RX7 119 "DollGarlandsModel" "textLong" "I", .methodLink RX7 135 yX7_readsDoll, .instanceMethod yX7_readsDoll, .selects RX7 yX7_readsDoll yX7_readsDoll, .initialized RX7, .code yX7_readsDoll cX7_readsDoll 1 (some .boolean), .fieldLink RX7 25 "DollGarlandsModel" "text" "[I", .constantLong RX7 125 (48), .constantLong RX7 127 (57), .fieldLink RX7 22 "DollGarlandsModel" "row" "[I", .methodLink RX7 47 yX7_in, .static yX7_in, .code yX7_in cX7_in 6 (some .boolean), .methodLink RX7 132 yX7_takesOne, .instanceMethod yX7_takesOne, .selects RX7 yX7_takesOne yX7_takesOne, .code yX7_takesOne cX7_takesOne 3 (some .boolean)] ++ wsX70)
def wsX7_wrong : List Cond := .code yX7_wrong cX7_wrong 3 (some .int) :: ([.fieldLink RX7 129 "DollGarlandsModel" "read" "I", .fieldLink RX7 22 "DollGarlandsModel" "row" "[I", .methodLink RX7 75 yX7_isKind, .instanceMethod yX7_isKind, .selects RX7 yX7_isKind yX7_isKind, .initialized RX7, .code yX7_isKind cX7_isKind 2 (some .boolean), .fieldLink RX7 7 "DollGarlandsModel" "all" "[I", .methodLink RX7 47 yX7_in, .static yX7_in, .code yX7_in cX7_in 6 (some .boolean), .methodLink RX7 60 yX7_clash, .instanceMethod yX7_clash, .selects RX7 yX7_clash yX7_clash, .code yX7_clash cX7_clash 5 (some .boolean), .methodLink RX7 51 yX7_handOf, .instanceMethod yX7_handOf, .selects RX7 yX7_handOf yX7_handOf, .code yX7_handOf cX7_handOf 3 (some .int), .methodLink RX7 100 yX7_freeNumber, .instanceMethod yX7_freeNumber, .selects RX7 yX7_freeNumber yX7_freeNumber, .code yX7_freeNumber cX7_freeNumber 2 (some .int)] ++ wsX70)
def wsX7_readGarland_r1 : List Cond := [Cond.fieldLink RX7 7 "DollGarlandsModel" "all" "[I", Cond.fieldLink RX7 129 "DollGarlandsModel" "read" "I", Cond.fieldLink RX7 22 "DollGarlandsModel" "row" "[I", Cond.methodLink RX7 138 yX7_fault, Cond.instanceMethod yX7_fault, Cond.selects RX7 yX7_fault yX7_fault, Cond.initialized RX7, Cond.code yX7_fault cX7_fault 2 (some .int), Cond.fieldLink RX7 122 "DollGarlandsModel" "spot" "I", Cond.fieldLink RX7 119 "DollGarlandsModel" "textLong" "I", Cond.methodLink RX7 135 yX7_readsDoll, Cond.instanceMethod yX7_readsDoll, Cond.selects RX7 yX7_readsDoll yX7_readsDoll, Cond.code yX7_readsDoll cX7_readsDoll 1 (some .boolean), Cond.fieldLink RX7 25 "DollGarlandsModel" "text" "[I", Cond.constantLong RX7 125 (48), Cond.constantLong RX7 127 (57), Cond.methodLink RX7 47 yX7_in, Cond.static yX7_in, Cond.code yX7_in cX7_in 6 (some .boolean), Cond.methodLink RX7 132 yX7_takesOne, Cond.instanceMethod yX7_takesOne, Cond.selects RX7 yX7_takesOne yX7_takesOne, Cond.code yX7_takesOne cX7_takesOne 3 (some .boolean)]
def wsX7_readGarland_r2 : List Cond := [Cond.methodLink RX7 141 yX7_wrong, Cond.instanceMethod yX7_wrong, Cond.selects RX7 yX7_wrong yX7_wrong, Cond.code yX7_wrong cX7_wrong 3 (some .int), Cond.methodLink RX7 75 yX7_isKind, Cond.instanceMethod yX7_isKind, Cond.selects RX7 yX7_isKind yX7_isKind, Cond.code yX7_isKind cX7_isKind 2 (some .boolean), Cond.methodLink RX7 60 yX7_clash, Cond.instanceMethod yX7_clash, Cond.selects RX7 yX7_clash yX7_clash, Cond.code yX7_clash cX7_clash 5 (some .boolean), Cond.methodLink RX7 51 yX7_handOf, Cond.instanceMethod yX7_handOf, Cond.selects RX7 yX7_handOf yX7_handOf, Cond.code yX7_handOf cX7_handOf 3 (some .int), Cond.methodLink RX7 100 yX7_freeNumber, Cond.instanceMethod yX7_freeNumber, Cond.selects RX7 yX7_freeNumber yX7_freeNumber, Cond.code yX7_freeNumber cX7_freeNumber 2 (some .int), Cond.methodLink RX7 81 yX7_keeps, Cond.instanceMethod yX7_keeps, Cond.selects RX7 yX7_keeps yX7_keeps, Cond.code yX7_keeps cX7_keeps 2 none]
def wsX7_readGarland_r3 : List Cond := [Cond.fieldLink RX7 13 "DollGarlandsModel" "kept" "[I", Cond.methodLink RX7 71 yX7_lays, Cond.instanceMethod yX7_lays, Cond.selects RX7 yX7_lays yX7_lays, Cond.code yX7_lays cX7_lays 4 none, Cond.methodLink RX7 88 yX7_ends, Cond.instanceMethod yX7_ends, Cond.selects RX7 yX7_ends yX7_ends, Cond.code yX7_ends cX7_ends 2 (some .int), Cond.methodLink RX7 41 yX7_comesBack, Cond.instanceMethod yX7_comesBack, Cond.selects RX7 yX7_comesBack yX7_comesBack, Cond.code yX7_comesBack cX7_comesBack 2 none, Cond.methodLink RX7 44 yX7_records, Cond.instanceMethod yX7_records, Cond.selects RX7 yX7_records yX7_records, Cond.code yX7_records cX7_records 2 none, Cond.fieldLink RX7 37 "DollGarlandsModel" "historyLong" "I", Cond.fieldLink RX7 16 "DollGarlandsModel" "history" "[I"]
def wsX7_readGarland : List Cond := .code yX7_readGarland cX7_readGarland 5 (some .int) :: ((wsX7_readGarland_r1 ++ (wsX7_readGarland_r2 ++ wsX7_readGarland_r3)) ++ wsX70)
def wsX7_undo : List Cond := .code yX7_undo cX7_undo 2 (some .int) :: ([.fieldLink RX7 37 "DollGarlandsModel" "historyLong" "I", .fieldLink RX7 7 "DollGarlandsModel" "all" "[I", .fieldLink RX7 16 "DollGarlandsModel" "history" "[I"] ++ wsX70)
def wsX7_garlands : List Cond := .code yX7_garlands cX7_garlands 3 (some .int) :: ([.fieldLink RX7 7 "DollGarlandsModel" "all" "[I"] ++ wsX70)
def wsX7_keep : List Cond := .code yX7_keep cX7_keep 2 (some .int) :: ([.fieldLink RX7 19 "DollGarlandsModel" "snapshot" "[I", .fieldLink RX7 7 "DollGarlandsModel" "all" "[I", .fieldLink RX7 144 "DollGarlandsModel" "isKept" "I", .methodLink RX7 147 yX7_garlands, .instanceMethod yX7_garlands, .selects RX7 yX7_garlands yX7_garlands, .initialized RX7, .code yX7_garlands cX7_garlands 3 (some .int)] ++ wsX70)
def wsX7_restore_r1 : List Cond := [Cond.fieldLink RX7 144 "DollGarlandsModel" "isKept" "I", Cond.fieldLink RX7 7 "DollGarlandsModel" "all" "[I", Cond.fieldLink RX7 19 "DollGarlandsModel" "snapshot" "[I", Cond.methodLink RX7 81 yX7_keeps, Cond.instanceMethod yX7_keeps, Cond.selects RX7 yX7_keeps yX7_keeps, Cond.initialized RX7, Cond.code yX7_keeps cX7_keeps 2 none, Cond.fieldLink RX7 13 "DollGarlandsModel" "kept" "[I", Cond.methodLink RX7 147 yX7_garlands, Cond.instanceMethod yX7_garlands, Cond.selects RX7 yX7_garlands yX7_garlands, Cond.code yX7_garlands cX7_garlands 3 (some .int), Cond.methodLink RX7 88 yX7_ends, Cond.instanceMethod yX7_ends, Cond.selects RX7 yX7_ends yX7_ends, Cond.code yX7_ends cX7_ends 2 (some .int), Cond.methodLink RX7 41 yX7_comesBack, Cond.instanceMethod yX7_comesBack, Cond.selects RX7 yX7_comesBack yX7_comesBack, Cond.code yX7_comesBack cX7_comesBack 2 none, Cond.methodLink RX7 44 yX7_records, Cond.instanceMethod yX7_records, Cond.selects RX7 yX7_records yX7_records]
def wsX7_restore_r2 : List Cond := [Cond.code yX7_records cX7_records 2 none, Cond.fieldLink RX7 37 "DollGarlandsModel" "historyLong" "I", Cond.fieldLink RX7 16 "DollGarlandsModel" "history" "[I"]
def wsX7_restore : List Cond := .code yX7_restore cX7_restore 2 (some .int) :: ((wsX7_restore_r1 ++ wsX7_restore_r2) ++ wsX70)
def wsX7_dollsOf : List Cond := .code yX7_dollsOf cX7_dollsOf 6 (some .int) :: ([.fieldLink RX7 7 "DollGarlandsModel" "all" "[I", .methodLink RX7 57 yX7_dollAt, .instanceMethod yX7_dollAt, .selects RX7 yX7_dollAt yX7_dollAt, .initialized RX7, .code yX7_dollAt cX7_dollAt 3 (some .int)] ++ wsX70)
def wsX7_kind : List Cond := .code yX7_kind cX7_kind 4 (some .int) :: ([.fieldLink RX7 7 "DollGarlandsModel" "all" "[I", .methodLink RX7 75 yX7_isKind, .instanceMethod yX7_isKind, .selects RX7 yX7_isKind yX7_isKind, .initialized RX7, .code yX7_isKind cX7_isKind 2 (some .boolean), .methodLink RX7 47 yX7_in, .static yX7_in, .code yX7_in cX7_in 6 (some .boolean), .methodLink RX7 150 yX7_dollsOf, .instanceMethod yX7_dollsOf, .selects RX7 yX7_dollsOf yX7_dollsOf, .code yX7_dollsOf cX7_dollsOf 6 (some .int), .methodLink RX7 57 yX7_dollAt, .instanceMethod yX7_dollAt, .selects RX7 yX7_dollAt yX7_dollAt, .code yX7_dollAt cX7_dollAt 3 (some .int)] ++ wsX70)
def wsX7_kindsIn : List Cond := .code yX7_kindsIn cX7_kindsIn 4 (some .int) :: ([.fieldLink RX7 7 "DollGarlandsModel" "all" "[I", .methodLink RX7 57 yX7_dollAt, .instanceMethod yX7_dollAt, .selects RX7 yX7_dollAt yX7_dollAt, .initialized RX7, .code yX7_dollAt cX7_dollAt 3 (some .int)] ++ wsX70)
def wsX7_repeatOf : List Cond := .code yX7_repeatOf cX7_repeatOf 5 (some .int) :: ([.fieldLink RX7 7 "DollGarlandsModel" "all" "[I", .methodLink RX7 57 yX7_dollAt, .instanceMethod yX7_dollAt, .selects RX7 yX7_dollAt yX7_dollAt, .initialized RX7, .code yX7_dollAt cX7_dollAt 3 (some .int)] ++ wsX70)
def wsX7_firstLike : List Cond := .code yX7_firstLike cX7_firstLike 3 (some .int) :: ([.methodLink RX7 67 yX7_isLike, .instanceMethod yX7_isLike, .selects RX7 yX7_isLike yX7_isLike, .initialized RX7, .code yX7_isLike cX7_isLike 6 (some .boolean), .fieldLink RX7 7 "DollGarlandsModel" "all" "[I", .methodLink RX7 57 yX7_dollAt, .instanceMethod yX7_dollAt, .selects RX7 yX7_dollAt yX7_dollAt, .code yX7_dollAt cX7_dollAt 3 (some .int), .methodLink RX7 64 yX7_turnedDoll, .instanceMethod yX7_turnedDoll, .selects RX7 yX7_turnedDoll yX7_turnedDoll, .code yX7_turnedDoll cX7_turnedDoll 3 (some .int)] ++ wsX70)
def wsX7_garland_r1 : List Cond := [Cond.fieldLink RX7 7 "DollGarlandsModel" "all" "[I", Cond.methodLink RX7 103 yX7_isGarland, Cond.instanceMethod yX7_isGarland, Cond.selects RX7 yX7_isGarland yX7_isGarland, Cond.initialized RX7, Cond.code yX7_isGarland cX7_isGarland 2 (some .boolean), Cond.constantLong RX7 55 (7), Cond.methodLink RX7 47 yX7_in, Cond.static yX7_in, Cond.code yX7_in cX7_in 6 (some .boolean), Cond.methodLink RX7 57 yX7_dollAt, Cond.instanceMethod yX7_dollAt, Cond.selects RX7 yX7_dollAt yX7_dollAt, Cond.code yX7_dollAt cX7_dollAt 3 (some .int), Cond.methodLink RX7 51 yX7_handOf, Cond.instanceMethod yX7_handOf, Cond.selects RX7 yX7_handOf yX7_handOf, Cond.code yX7_handOf cX7_handOf 3 (some .int), Cond.methodLink RX7 106 yX7_last, Cond.instanceMethod yX7_last, Cond.selects RX7 yX7_last yX7_last, Cond.code yX7_last cX7_last 2 (some .int), Cond.methodLink RX7 116 yX7_mirroredIn, Cond.instanceMethod yX7_mirroredIn]
def wsX7_garland_r2 : List Cond := [Cond.selects RX7 yX7_mirroredIn yX7_mirroredIn, Cond.code yX7_mirroredIn cX7_mirroredIn 4 (some .int), Cond.methodLink RX7 154 yX7_kindsIn, Cond.instanceMethod yX7_kindsIn, Cond.selects RX7 yX7_kindsIn yX7_kindsIn, Cond.code yX7_kindsIn cX7_kindsIn 4 (some .int), Cond.methodLink RX7 113 yX7_isOwnImage, Cond.instanceMethod yX7_isOwnImage, Cond.selects RX7 yX7_isOwnImage yX7_isOwnImage, Cond.code yX7_isOwnImage cX7_isOwnImage 2 (some .boolean), Cond.methodLink RX7 67 yX7_isLike, Cond.instanceMethod yX7_isLike, Cond.selects RX7 yX7_isLike yX7_isLike, Cond.code yX7_isLike cX7_isLike 6 (some .boolean), Cond.methodLink RX7 64 yX7_turnedDoll, Cond.instanceMethod yX7_turnedDoll, Cond.selects RX7 yX7_turnedDoll yX7_turnedDoll, Cond.code yX7_turnedDoll cX7_turnedDoll 3 (some .int), Cond.methodLink RX7 157 yX7_repeatOf, Cond.instanceMethod yX7_repeatOf, Cond.selects RX7 yX7_repeatOf yX7_repeatOf, Cond.code yX7_repeatOf cX7_repeatOf 5 (some .int), Cond.methodLink RX7 160 yX7_firstLike, Cond.instanceMethod yX7_firstLike]
def wsX7_garland_r3 : List Cond := [Cond.selects RX7 yX7_firstLike yX7_firstLike, Cond.code yX7_firstLike cX7_firstLike 3 (some .int)]
def wsX7_garland : List Cond := .code yX7_garland cX7_garland 3 (some .int) :: ((wsX7_garland_r1 ++ (wsX7_garland_r2 ++ wsX7_garland_r3)) ++ wsX70)
def wsX7_doll : List Cond := .code yX7_doll cX7_doll 5 (some .int) :: ([.fieldLink RX7 7 "DollGarlandsModel" "all" "[I", .methodLink RX7 103 yX7_isGarland, .instanceMethod yX7_isGarland, .selects RX7 yX7_isGarland yX7_isGarland, .initialized RX7, .code yX7_isGarland cX7_isGarland 2 (some .boolean), .constantLong RX7 55 (7), .methodLink RX7 47 yX7_in, .static yX7_in, .code yX7_in cX7_in 6 (some .boolean), .methodLink RX7 57 yX7_dollAt, .instanceMethod yX7_dollAt, .selects RX7 yX7_dollAt yX7_dollAt, .code yX7_dollAt cX7_dollAt 3 (some .int), .methodLink RX7 51 yX7_handOf, .instanceMethod yX7_handOf, .selects RX7 yX7_handOf yX7_handOf, .code yX7_handOf cX7_handOf 3 (some .int)] ++ wsX70)
def wsX7_reason_r1 : List Cond := [Cond.fieldLink RX7 7 "DollGarlandsModel" "all" "[I", Cond.methodLink RX7 103 yX7_isGarland, Cond.instanceMethod yX7_isGarland, Cond.selects RX7 yX7_isGarland yX7_isGarland, Cond.initialized RX7, Cond.code yX7_isGarland cX7_isGarland 2 (some .boolean), Cond.constantLong RX7 55 (7), Cond.methodLink RX7 47 yX7_in, Cond.static yX7_in, Cond.code yX7_in cX7_in 6 (some .boolean), Cond.methodLink RX7 106 yX7_last, Cond.instanceMethod yX7_last, Cond.selects RX7 yX7_last yX7_last, Cond.code yX7_last cX7_last 2 (some .int), Cond.methodLink RX7 57 yX7_dollAt, Cond.instanceMethod yX7_dollAt, Cond.selects RX7 yX7_dollAt yX7_dollAt, Cond.code yX7_dollAt cX7_dollAt 3 (some .int), Cond.methodLink RX7 60 yX7_clash, Cond.instanceMethod yX7_clash, Cond.selects RX7 yX7_clash yX7_clash, Cond.code yX7_clash cX7_clash 5 (some .boolean), Cond.methodLink RX7 51 yX7_handOf, Cond.instanceMethod yX7_handOf]
def wsX7_reason_r2 : List Cond := [Cond.selects RX7 yX7_handOf yX7_handOf, Cond.code yX7_handOf cX7_handOf 3 (some .int)]
def wsX7_reason : List Cond := .code yX7_reason cX7_reason 3 (some .int) :: ((wsX7_reason_r1 ++ wsX7_reason_r2) ++ wsX70)
def wsX7_between_r1 : List Cond := [Cond.fieldLink RX7 7 "DollGarlandsModel" "all" "[I", Cond.fieldLink RX7 28 "DollGarlandsModel" "far" "[I", Cond.methodLink RX7 103 yX7_isGarland, Cond.instanceMethod yX7_isGarland, Cond.selects RX7 yX7_isGarland yX7_isGarland, Cond.initialized RX7, Cond.code yX7_isGarland cX7_isGarland 2 (some .boolean), Cond.constantLong RX7 55 (7), Cond.methodLink RX7 47 yX7_in, Cond.static yX7_in, Cond.code yX7_in cX7_in 6 (some .boolean), Cond.methodLink RX7 106 yX7_last, Cond.instanceMethod yX7_last, Cond.selects RX7 yX7_last yX7_last, Cond.code yX7_last cX7_last 2 (some .int), Cond.methodLink RX7 57 yX7_dollAt, Cond.instanceMethod yX7_dollAt, Cond.selects RX7 yX7_dollAt yX7_dollAt, Cond.code yX7_dollAt cX7_dollAt 3 (some .int), Cond.methodLink RX7 60 yX7_clash, Cond.instanceMethod yX7_clash, Cond.selects RX7 yX7_clash yX7_clash, Cond.code yX7_clash cX7_clash 5 (some .boolean), Cond.methodLink RX7 51 yX7_handOf]
def wsX7_between_r2 : List Cond := [Cond.instanceMethod yX7_handOf, Cond.selects RX7 yX7_handOf yX7_handOf, Cond.code yX7_handOf cX7_handOf 3 (some .int)]
def wsX7_between : List Cond := .code yX7_between cX7_between 10 (some .int) :: ((wsX7_between_r1 ++ wsX7_between_r2) ++ wsX70)
def wsX7_counts : List Cond := .code yX7_counts cX7_counts 6 none :: ([.fieldLink RX7 7 "DollGarlandsModel" "all" "[I", .fieldLink RX7 31 "DollGarlandsModel" "ending" "[I", .fieldLink RX7 34 "DollGarlandsModel" "longer" "[I", .methodLink RX7 60 yX7_clash, .instanceMethod yX7_clash, .selects RX7 yX7_clash yX7_clash, .initialized RX7, .code yX7_clash cX7_clash 5 (some .boolean), .methodLink RX7 51 yX7_handOf, .instanceMethod yX7_handOf, .selects RX7 yX7_handOf yX7_handOf, .code yX7_handOf cX7_handOf 3 (some .int)] ++ wsX70)
def wsX7_allOf : List Cond := .code yX7_allOf cX7_allOf 4 (some .int) :: ([.fieldLink RX7 7 "DollGarlandsModel" "all" "[I", .fieldLink RX7 31 "DollGarlandsModel" "ending" "[I", .methodLink RX7 163 yX7_counts, .instanceMethod yX7_counts, .selects RX7 yX7_counts yX7_counts, .initialized RX7, .code yX7_counts cX7_counts 6 none, .fieldLink RX7 34 "DollGarlandsModel" "longer" "[I", .methodLink RX7 60 yX7_clash, .instanceMethod yX7_clash, .selects RX7 yX7_clash yX7_clash, .code yX7_clash cX7_clash 5 (some .boolean), .methodLink RX7 51 yX7_handOf, .instanceMethod yX7_handOf, .selects RX7 yX7_handOf yX7_handOf, .code yX7_handOf cX7_handOf 3 (some .int)] ++ wsX70)
def wsX7_ownImages : List Cond := .code yX7_ownImages cX7_ownImages 4 (some .int) :: ([.fieldLink RX7 7 "DollGarlandsModel" "all" "[I", .fieldLink RX7 31 "DollGarlandsModel" "ending" "[I", .methodLink RX7 163 yX7_counts, .instanceMethod yX7_counts, .selects RX7 yX7_counts yX7_counts, .initialized RX7, .code yX7_counts cX7_counts 6 none, .fieldLink RX7 34 "DollGarlandsModel" "longer" "[I", .methodLink RX7 60 yX7_clash, .instanceMethod yX7_clash, .selects RX7 yX7_clash yX7_clash, .code yX7_clash cX7_clash 5 (some .boolean), .methodLink RX7 51 yX7_handOf, .instanceMethod yX7_handOf, .selects RX7 yX7_handOf yX7_handOf, .code yX7_handOf cX7_handOf 3 (some .int)] ++ wsX70)
def wsX7_ways_r1 : List Cond := [Cond.constantLong RX7 166 (6), Cond.constantLong RX7 92 (2), Cond.methodLink RX7 47 yX7_in, Cond.static yX7_in, Cond.initialized RX7, Cond.code yX7_in cX7_in 6 (some .boolean), Cond.methodLink RX7 168 yX7_allOf, Cond.instanceMethod yX7_allOf, Cond.selects RX7 yX7_allOf yX7_allOf, Cond.code yX7_allOf cX7_allOf 4 (some .int), Cond.fieldLink RX7 7 "DollGarlandsModel" "all" "[I", Cond.fieldLink RX7 31 "DollGarlandsModel" "ending" "[I", Cond.methodLink RX7 163 yX7_counts, Cond.instanceMethod yX7_counts, Cond.selects RX7 yX7_counts yX7_counts, Cond.code yX7_counts cX7_counts 6 none, Cond.fieldLink RX7 34 "DollGarlandsModel" "longer" "[I", Cond.methodLink RX7 60 yX7_clash, Cond.instanceMethod yX7_clash, Cond.selects RX7 yX7_clash yX7_clash, Cond.code yX7_clash cX7_clash 5 (some .boolean), Cond.methodLink RX7 51 yX7_handOf, Cond.instanceMethod yX7_handOf, Cond.selects RX7 yX7_handOf yX7_handOf]
def wsX7_ways_r2 : List Cond := [Cond.code yX7_handOf cX7_handOf 3 (some .int), Cond.methodLink RX7 171 yX7_ownImages, Cond.instanceMethod yX7_ownImages, Cond.selects RX7 yX7_ownImages yX7_ownImages, Cond.code yX7_ownImages cX7_ownImages 4 (some .int)]
def wsX7_ways : List Cond := .code yX7_ways cX7_ways 3 (some .int) :: ((wsX7_ways_r1 ++ wsX7_ways_r2) ++ wsX70)
def wsX7_longest : List Cond := .code yX7_longest cX7_longest 3 (some .int) :: ([.fieldLink RX7 7 "DollGarlandsModel" "all" "[I", .methodLink RX7 103 yX7_isGarland, .instanceMethod yX7_isGarland, .selects RX7 yX7_isGarland yX7_isGarland, .initialized RX7, .code yX7_isGarland cX7_isGarland 2 (some .boolean), .constantLong RX7 55 (7), .methodLink RX7 47 yX7_in, .static yX7_in, .code yX7_in cX7_in 6 (some .boolean)] ++ wsX70)
def wsX7_meeting : List Cond := .code yX7_meeting cX7_meeting 4 (some .int) :: ([.fieldLink RX7 7 "DollGarlandsModel" "all" "[I", .methodLink RX7 57 yX7_dollAt, .instanceMethod yX7_dollAt, .selects RX7 yX7_dollAt yX7_dollAt, .initialized RX7, .code yX7_dollAt cX7_dollAt 3 (some .int), .methodLink RX7 51 yX7_handOf, .instanceMethod yX7_handOf, .selects RX7 yX7_handOf yX7_handOf, .code yX7_handOf cX7_handOf 3 (some .int)] ++ wsX70)
def wsX7_over_r1 : List Cond := [Cond.fieldLink RX7 7 "DollGarlandsModel" "all" "[I", Cond.methodLink RX7 103 yX7_isGarland, Cond.instanceMethod yX7_isGarland, Cond.selects RX7 yX7_isGarland yX7_isGarland, Cond.initialized RX7, Cond.code yX7_isGarland cX7_isGarland 2 (some .boolean), Cond.constantLong RX7 55 (7), Cond.methodLink RX7 47 yX7_in, Cond.static yX7_in, Cond.code yX7_in cX7_in 6 (some .boolean), Cond.methodLink RX7 116 yX7_mirroredIn, Cond.instanceMethod yX7_mirroredIn, Cond.selects RX7 yX7_mirroredIn yX7_mirroredIn, Cond.code yX7_mirroredIn cX7_mirroredIn 4 (some .int), Cond.methodLink RX7 57 yX7_dollAt, Cond.instanceMethod yX7_dollAt, Cond.selects RX7 yX7_dollAt yX7_dollAt, Cond.code yX7_dollAt cX7_dollAt 3 (some .int), Cond.methodLink RX7 113 yX7_isOwnImage, Cond.instanceMethod yX7_isOwnImage, Cond.selects RX7 yX7_isOwnImage yX7_isOwnImage, Cond.code yX7_isOwnImage cX7_isOwnImage 2 (some .boolean), Cond.methodLink RX7 67 yX7_isLike, Cond.instanceMethod yX7_isLike]
def wsX7_over_r2 : List Cond := [Cond.selects RX7 yX7_isLike yX7_isLike, Cond.code yX7_isLike cX7_isLike 6 (some .boolean), Cond.methodLink RX7 64 yX7_turnedDoll, Cond.instanceMethod yX7_turnedDoll, Cond.selects RX7 yX7_turnedDoll yX7_turnedDoll, Cond.code yX7_turnedDoll cX7_turnedDoll 3 (some .int), Cond.methodLink RX7 174 yX7_meeting, Cond.instanceMethod yX7_meeting, Cond.selects RX7 yX7_meeting yX7_meeting, Cond.code yX7_meeting cX7_meeting 4 (some .int), Cond.methodLink RX7 51 yX7_handOf, Cond.instanceMethod yX7_handOf, Cond.selects RX7 yX7_handOf yX7_handOf, Cond.code yX7_handOf cX7_handOf 3 (some .int), Cond.methodLink RX7 160 yX7_firstLike, Cond.instanceMethod yX7_firstLike, Cond.selects RX7 yX7_firstLike yX7_firstLike, Cond.code yX7_firstLike cX7_firstLike 3 (some .int)]
def wsX7_over : List Cond := .code yX7_over cX7_over 4 (some .int) :: ((wsX7_over_r1 ++ wsX7_over_r2) ++ wsX70)
def wsX7_count_r1 : List Cond := [Cond.fieldLink RX7 7 "DollGarlandsModel" "all" "[I", Cond.fieldLink RX7 37 "DollGarlandsModel" "historyLong" "I", Cond.fieldLink RX7 119 "DollGarlandsModel" "textLong" "I", Cond.methodLink RX7 177 yX7_over, Cond.instanceMethod yX7_over, Cond.selects RX7 yX7_over yX7_over, Cond.initialized RX7, Cond.code yX7_over cX7_over 4 (some .int), Cond.methodLink RX7 103 yX7_isGarland, Cond.instanceMethod yX7_isGarland, Cond.selects RX7 yX7_isGarland yX7_isGarland, Cond.code yX7_isGarland cX7_isGarland 2 (some .boolean), Cond.constantLong RX7 55 (7), Cond.methodLink RX7 47 yX7_in, Cond.static yX7_in, Cond.code yX7_in cX7_in 6 (some .boolean), Cond.methodLink RX7 116 yX7_mirroredIn, Cond.instanceMethod yX7_mirroredIn, Cond.selects RX7 yX7_mirroredIn yX7_mirroredIn, Cond.code yX7_mirroredIn cX7_mirroredIn 4 (some .int), Cond.methodLink RX7 57 yX7_dollAt, Cond.instanceMethod yX7_dollAt, Cond.selects RX7 yX7_dollAt yX7_dollAt, Cond.code yX7_dollAt cX7_dollAt 3 (some .int)]
def wsX7_count_r2 : List Cond := [Cond.methodLink RX7 113 yX7_isOwnImage, Cond.instanceMethod yX7_isOwnImage, Cond.selects RX7 yX7_isOwnImage yX7_isOwnImage, Cond.code yX7_isOwnImage cX7_isOwnImage 2 (some .boolean), Cond.methodLink RX7 67 yX7_isLike, Cond.instanceMethod yX7_isLike, Cond.selects RX7 yX7_isLike yX7_isLike, Cond.code yX7_isLike cX7_isLike 6 (some .boolean), Cond.methodLink RX7 64 yX7_turnedDoll, Cond.instanceMethod yX7_turnedDoll, Cond.selects RX7 yX7_turnedDoll yX7_turnedDoll, Cond.code yX7_turnedDoll cX7_turnedDoll 3 (some .int), Cond.methodLink RX7 174 yX7_meeting, Cond.instanceMethod yX7_meeting, Cond.selects RX7 yX7_meeting yX7_meeting, Cond.code yX7_meeting cX7_meeting 4 (some .int), Cond.methodLink RX7 51 yX7_handOf, Cond.instanceMethod yX7_handOf, Cond.selects RX7 yX7_handOf yX7_handOf, Cond.code yX7_handOf cX7_handOf 3 (some .int), Cond.methodLink RX7 160 yX7_firstLike, Cond.instanceMethod yX7_firstLike, Cond.selects RX7 yX7_firstLike yX7_firstLike, Cond.code yX7_firstLike cX7_firstLike 3 (some .int)]
def wsX7_count : List Cond := .code yX7_count cX7_count 2 (some .int) :: ((wsX7_count_r1 ++ wsX7_count_r2) ++ wsX70)
def wsJ9_max_7cf53 : List Cond := .code yJ9_max_7cf53 cJ9_max_7cf53 2 (some .int) :: ([])
def wsL_law_r1 : List Cond := [Cond.classLink RL 7 RX6, Cond.instantiable RX6 8, Cond.initialized RX6, Cond.classLink RL 10 RX7, Cond.instantiable RX7 14, Cond.initialized RX7, Cond.methodLink RL 9 yX6_init, Cond.instanceMethod yX6_init, Cond.code yX6_init cX6_init 1 none, Cond.methodLink RX6 3 objectInit, Cond.instanceMethod objectInit, Cond.code objectInit ⟨#[0xb1]⟩ 1 none, Cond.classLink RX6 9 RX4, Cond.instantiable RX4 1, Cond.initialized RX4, Cond.fieldLink RX6 12 "DollGarlands" "table" "LDollGarlands$Table;", Cond.classLink RX6 16 RX2, Cond.instantiable RX2 1, Cond.initialized RX2, Cond.fieldLink RX6 21 "DollGarlands" "looks" "LDollGarlands$Looks;", Cond.classLink RX6 25 RX0, Cond.instantiable RX0 4, Cond.initialized RX0, Cond.fieldLink RX6 28 "DollGarlands" "chains" "LDollGarlands$Chains;"]
def wsL_law_r2 : List Cond := [Cond.classLink RX6 32 RX1, Cond.instantiable RX1 3, Cond.initialized RX1, Cond.fieldLink RX6 35 "DollGarlands" "history" "LDollGarlands$History;", Cond.classLink RX6 39 RX5, Cond.instantiable RX5 2, Cond.initialized RX5, Cond.fieldLink RX6 42 "DollGarlands" "text" "LDollGarlands$Text;", Cond.classLink RX6 46 RX3, Cond.instantiable RX3 1, Cond.initialized RX3, Cond.fieldLink RX6 51 "DollGarlands" "snapshot" "LDollGarlands$Row;", Cond.fieldLink RX6 55 "DollGarlands" "bench" "LDollGarlands$Row;", Cond.fieldLink RX6 58 "DollGarlands" "hasSnapshot" "Z", Cond.methodLink RX6 11 yX4_init, Cond.instanceMethod yX4_init, Cond.code yX4_init cX4_init 2 none, Cond.methodLink RX4 5 objectInit, Cond.classLink RX4 11 RX3, Cond.fieldLink RX4 16 "DollGarlands$Table" "cells" "LDollGarlands$Row;", Cond.methodLink RX4 13 yX3_init, Cond.instanceMethod yX3_init, Cond.code yX3_init cX3_init 2 none, Cond.methodLink RX3 1 objectInit]
def wsL_law_r3 : List Cond := [Cond.arrayClass .int, Cond.fieldLink RX3 7 "DollGarlands$Row" "cells" "[I", Cond.methodLink RX4 20 yX3_put, Cond.instanceMethod yX3_put, Cond.selects RX3 yX3_put yX3_put, Cond.code yX3_put cX3_put 3 none, Cond.methodLink RX6 18 yX2_init, Cond.instanceMethod yX2_init, Cond.code yX2_init cX2_init 2 none, Cond.methodLink RX2 3 objectInit, Cond.fieldLink RX2 9 "DollGarlands$Looks" "table" "LDollGarlands$Table;", Cond.methodLink RX6 27 yX0_init, Cond.instanceMethod yX0_init, Cond.code yX0_init cX0_init 2 none, Cond.methodLink RX0 3 objectInit, Cond.fieldLink RX0 9 "DollGarlands$Chains" "table" "LDollGarlands$Table;", Cond.classLink RX0 15 RX3, Cond.fieldLink RX0 20 "DollGarlands$Chains" "followers" "LDollGarlands$Row;", Cond.fieldLink RX0 24 "DollGarlands$Chains" "endings" "LDollGarlands$Row;", Cond.fieldLink RX0 27 "DollGarlands$Chains" "longer" "LDollGarlands$Row;", Cond.methodLink RX0 17 yX3_init, Cond.methodLink RX6 34 yX1_init, Cond.instanceMethod yX1_init, Cond.code yX1_init cX1_init 1 none]
def wsL_law_r4 : List Cond := [Cond.methodLink RX1 3 objectInit, Cond.classLink RX1 9 RX3, Cond.fieldLink RX1 16 "DollGarlands$History" "states" "LDollGarlands$Row;", Cond.fieldLink RX1 22 "DollGarlands$History" "oldest" "I", Cond.fieldLink RX1 26 "DollGarlands$History" "recorded" "I", Cond.methodLink RX1 13 yX3_init, Cond.methodLink RX6 41 yX5_init, Cond.instanceMethod yX5_init, Cond.code yX5_init cX5_init 1 none, Cond.methodLink RX5 3 objectInit, Cond.classLink RX5 9 RX3, Cond.fieldLink RX5 14 "DollGarlands$Text" "characters" "LDollGarlands$Row;", Cond.fieldLink RX5 20 "DollGarlands$Text" "length" "I", Cond.methodLink RX5 11 yX3_init, Cond.methodLink RX6 48 yX3_init, Cond.methodLink RL 12 yX7_init, Cond.instanceMethod yX7_init, Cond.code yX7_init cX7_init 2 none, Cond.methodLink RX7 1 objectInit, Cond.fieldLink RX7 7 "DollGarlandsModel" "all" "[I", Cond.fieldLink RX7 13 "DollGarlandsModel" "kept" "[I", Cond.fieldLink RX7 16 "DollGarlandsModel" "history" "[I", Cond.fieldLink RX7 19 "DollGarlandsModel" "snapshot" "[I", Cond.fieldLink RX7 22 "DollGarlandsModel" "row" "[I"]
def wsL_law_r5 : List Cond := [Cond.fieldLink RX7 25 "DollGarlandsModel" "text" "[I", Cond.fieldLink RX7 28 "DollGarlandsModel" "far" "[I", Cond.fieldLink RX7 31 "DollGarlandsModel" "ending" "[I", Cond.fieldLink RX7 34 "DollGarlandsModel" "longer" "[I", Cond.methodLink RL 13 yX6_setHands, Cond.instanceMethod yX6_setHands, Cond.selects RX6 yX6_setHands yX6_setHands, Cond.code yX6_setHands cX6_setHands 7 (some .int), Cond.methodLink RX6 62 yX4_hasKind, Cond.instanceMethod yX4_hasKind, Cond.selects RX4 yX4_hasKind yX4_hasKind, Cond.code yX4_hasKind cX4_hasKind 2 (some .boolean), Cond.methodLink RX4 32 yX4_kindsNow, Cond.instanceMethod yX4_kindsNow, Cond.selects RX4 yX4_kindsNow yX4_kindsNow, Cond.code yX4_kindsNow cX4_kindsNow 1 (some .int), Cond.methodLink RX4 28 yX3_at, Cond.instanceMethod yX3_at, Cond.selects RX3 yX3_at yX3_at, Cond.code yX3_at cX3_at 2 (some .int), Cond.static yX6_isBelow, Cond.code yX6_isBelow cX6_isBelow 2 (some .boolean), Cond.methodLink RX6 66 yX6_isBelow, Cond.methodLink RX6 70 yX4_leftHand]
def wsL_law_r6 : List Cond := [Cond.instanceMethod yX4_leftHand, Cond.selects RX4 yX4_leftHand yX4_leftHand, Cond.code yX4_leftHand cX4_leftHand 2 (some .int), Cond.methodLink RX6 74 yX4_rightHand, Cond.instanceMethod yX4_rightHand, Cond.selects RX4 yX4_rightHand yX4_rightHand, Cond.code yX4_rightHand cX4_rightHand 2 (some .int), Cond.methodLink RX6 77 yX4_putHands, Cond.instanceMethod yX4_putHands, Cond.selects RX4 yX4_putHands yX4_putHands, Cond.code yX4_putHands cX4_putHands 4 none, Cond.methodLink RX6 81 yX4_hasClash, Cond.instanceMethod yX4_hasClash, Cond.selects RX4 yX4_hasClash yX4_hasClash, Cond.code yX4_hasClash cX4_hasClash 2 (some .boolean), Cond.methodLink RX4 50 yX4_cellOf, Cond.instanceMethod yX4_cellOf, Cond.selects RX4 yX4_cellOf yX4_cellOf, Cond.code yX4_cellOf cX4_cellOf 3 (some .int), Cond.methodLink RX4 47 yX4_lengthOf, Cond.instanceMethod yX4_lengthOf, Cond.selects RX4 yX4_lengthOf yX4_lengthOf, Cond.code yX4_lengthOf cX4_lengthOf 2 (some .int), Cond.methodLink RX4 79 yX4_hasClashIn]
def wsL_law_r7 : List Cond := [Cond.instanceMethod yX4_hasClashIn, Cond.selects RX4 yX4_hasClashIn yX4_hasClashIn, Cond.code yX4_hasClashIn cX4_hasClashIn 5 (some .boolean), Cond.methodLink RX4 76 yX4_clash, Cond.instanceMethod yX4_clash, Cond.selects RX4 yX4_clash yX4_clash, Cond.code yX4_clash cX4_clash 6 (some .boolean), Cond.methodLink RX4 67 yX4_rightOf, Cond.instanceMethod yX4_rightOf, Cond.selects RX4 yX4_rightOf yX4_rightOf, Cond.code yX4_rightOf cX4_rightOf 2 (some .int), Cond.static yX6_isMirrored, Cond.code yX6_isMirrored cX6_isMirrored 1 (some .boolean), Cond.static yX6_kindOf, Cond.code yX6_kindOf cX6_kindOf 1 (some .int), Cond.methodLink RX4 70 yX4_leftOf, Cond.instanceMethod yX4_leftOf, Cond.selects RX4 yX4_leftOf yX4_leftOf, Cond.code yX4_leftOf cX4_leftOf 2 (some .int), Cond.methodLink RX4 73 yX4_ruleNow, Cond.instanceMethod yX4_ruleNow, Cond.selects RX4 yX4_ruleNow yX4_ruleNow, Cond.code yX4_ruleNow cX4_ruleNow 1 (some .int), Cond.methodLink RX6 85 yX1_remember]
def wsL_law_r8 : List Cond := [Cond.instanceMethod yX1_remember, Cond.selects RX1 yX1_remember yX1_remember, Cond.code yX1_remember cX1_remember 2 none, Cond.methodLink RX1 29 yX1_cellOf, Cond.instanceMethod yX1_cellOf, Cond.selects RX1 yX1_cellOf yX1_cellOf, Cond.code yX1_cellOf cX1_cellOf 2 (some .int), Cond.methodLink RX1 33 yX4_saveTo, Cond.instanceMethod yX4_saveTo, Cond.selects RX4 yX4_saveTo yX4_saveTo, Cond.code yX4_saveTo cX4_saveTo 3 none, Cond.methodLink RX4 24 yX3_copyFrom, Cond.instanceMethod yX3_copyFrom, Cond.selects RX3 yX3_copyFrom yX3_copyFrom, Cond.code yX3_copyFrom cX3_copyFrom 5 none, Cond.methodLink RX3 13 arraycopyName, Cond.native arraycopyName, Cond.static arraycopyName, Cond.initialized "java/lang/System", Cond.methodLink RL 17 yX7_setHands, Cond.instanceMethod yX7_setHands, Cond.selects RX7 yX7_setHands yX7_setHands, Cond.code yX7_setHands cX7_setHands 7 (some .int), Cond.constantLong RX7 79 (5)]
def wsL_law_r9 : List Cond := [Cond.methodLink RX7 75 yX7_isKind, Cond.instanceMethod yX7_isKind, Cond.selects RX7 yX7_isKind yX7_isKind, Cond.code yX7_isKind cX7_isKind 2 (some .boolean), Cond.methodLink RX7 47 yX7_in, Cond.static yX7_in, Cond.code yX7_in cX7_in 6 (some .boolean), Cond.methodLink RX7 81 yX7_keeps, Cond.instanceMethod yX7_keeps, Cond.selects RX7 yX7_keeps yX7_keeps, Cond.code yX7_keeps cX7_keeps 2 none, Cond.methodLink RX7 84 yX7_anyClash, Cond.instanceMethod yX7_anyClash, Cond.selects RX7 yX7_anyClash yX7_anyClash, Cond.code yX7_anyClash cX7_anyClash 4 (some .boolean), Cond.methodLink RX7 57 yX7_dollAt, Cond.instanceMethod yX7_dollAt, Cond.selects RX7 yX7_dollAt yX7_dollAt, Cond.code yX7_dollAt cX7_dollAt 3 (some .int), Cond.methodLink RX7 60 yX7_clash, Cond.instanceMethod yX7_clash, Cond.selects RX7 yX7_clash yX7_clash, Cond.code yX7_clash cX7_clash 5 (some .boolean), Cond.methodLink RX7 51 yX7_handOf]
def wsL_law_r10 : List Cond := [Cond.instanceMethod yX7_handOf, Cond.selects RX7 yX7_handOf yX7_handOf, Cond.code yX7_handOf cX7_handOf 3 (some .int), Cond.methodLink RX7 88 yX7_ends, Cond.instanceMethod yX7_ends, Cond.selects RX7 yX7_ends yX7_ends, Cond.code yX7_ends cX7_ends 2 (some .int), Cond.methodLink RX7 41 yX7_comesBack, Cond.instanceMethod yX7_comesBack, Cond.selects RX7 yX7_comesBack yX7_comesBack, Cond.code yX7_comesBack cX7_comesBack 2 none, Cond.methodLink RX7 44 yX7_records, Cond.instanceMethod yX7_records, Cond.selects RX7 yX7_records yX7_records, Cond.code yX7_records cX7_records 2 none, Cond.fieldLink RX7 37 "DollGarlandsModel" "historyLong" "I", Cond.methodLink RL 18 yX6_setRule, Cond.instanceMethod yX6_setRule, Cond.selects RX6 yX6_setRule yX6_setRule, Cond.code yX6_setRule cX6_setRule 4 (some .int), Cond.methodLink RX6 88 yX4_ruleNow, Cond.methodLink RX6 92 yX4_putRule, Cond.instanceMethod yX4_putRule, Cond.selects RX4 yX4_putRule yX4_putRule]
def wsL_law_r11 : List Cond := [Cond.code yX4_putRule cX4_putRule 2 none, Cond.methodLink RL 22 yX7_setRule, Cond.instanceMethod yX7_setRule, Cond.selects RX7 yX7_setRule yX7_setRule, Cond.code yX7_setRule cX7_setRule 3 (some .int), Cond.constantLong RX7 92 (2), Cond.methodLink RL 23 yX6_setKinds, Cond.instanceMethod yX6_setKinds, Cond.selects RX6 yX6_setKinds yX6_setKinds, Cond.code yX6_setKinds cX6_setKinds 3 (some .int), Cond.methodLink RX6 95 yX2_highestKind, Cond.instanceMethod yX2_highestKind, Cond.selects RX2 yX2_highestKind yX2_highestKind, Cond.code yX2_highestKind cX2_highestKind 5 (some .int), Cond.methodLink RX2 49 Lib.Math.max.name, Cond.static Lib.Math.max.name, Cond.initialized "java/lang/Math", Cond.code Lib.Math.max.name Lib.Math.max.code 2 (some .int), Cond.methodLink RX2 15 yX4_lengthOf, Cond.methodLink RX2 21 yX4_dollAt, Cond.instanceMethod yX4_dollAt, Cond.selects RX4 yX4_dollAt yX4_dollAt, Cond.code yX4_dollAt cX4_dollAt 3 (some .int), Cond.methodLink RX6 98 yX4_kindsNow]
def wsL_law_r12 : List Cond := [Cond.methodLink RX6 101 yX4_putKinds, Cond.instanceMethod yX4_putKinds, Cond.selects RX4 yX4_putKinds yX4_putKinds, Cond.code yX4_putKinds cX4_putKinds 2 none, Cond.methodLink RL 26 yX7_setKinds, Cond.instanceMethod yX7_setKinds, Cond.selects RX7 yX7_setKinds yX7_setKinds, Cond.code yX7_setKinds cX7_setKinds 3 (some .int), Cond.constantLong RX7 94 (10), Cond.methodLink RX7 96 yX7_greatestKind, Cond.instanceMethod yX7_greatestKind, Cond.selects RX7 yX7_greatestKind yX7_greatestKind, Cond.code yX7_greatestKind cX7_greatestKind 4 (some .int), Cond.methodLink RL 27 yX6_cutDoll, Cond.instanceMethod yX6_cutDoll, Cond.selects RX6 yX6_cutDoll yX6_cutDoll, Cond.code yX6_cutDoll cX6_cutDoll 4 (some .int), Cond.methodLink RX6 104 yX4_freeNumber, Cond.instanceMethod yX4_freeNumber, Cond.selects RX4 yX4_freeNumber yX4_freeNumber, Cond.code yX4_freeNumber cX4_freeNumber 2 (some .int), Cond.methodLink RX6 107 yX6_dollOf, Cond.static yX6_dollOf, Cond.code yX6_dollOf cX6_dollOf 2 (some .int)]
def wsL_law_r13 : List Cond := [Cond.methodLink RX6 200 yX6_oneIf, Cond.static yX6_oneIf, Cond.code yX6_oneIf cX6_oneIf 1 (some .int), Cond.methodLink RX6 111 yX4_putDoll, Cond.instanceMethod yX4_putDoll, Cond.selects RX4 yX4_putDoll yX4_putDoll, Cond.code yX4_putDoll cX4_putDoll 4 none, Cond.methodLink RX6 114 yX4_putLength, Cond.instanceMethod yX4_putLength, Cond.selects RX4 yX4_putLength yX4_putLength, Cond.code yX4_putLength cX4_putLength 3 none, Cond.methodLink RL 31 yX7_cutDoll, Cond.instanceMethod yX7_cutDoll, Cond.selects RX7 yX7_cutDoll yX7_cutDoll, Cond.code yX7_cutDoll cX7_cutDoll 4 (some .int), Cond.methodLink RX7 100 yX7_freeNumber, Cond.instanceMethod yX7_freeNumber, Cond.selects RX7 yX7_freeNumber yX7_freeNumber, Cond.code yX7_freeNumber cX7_freeNumber 2 (some .int), Cond.methodLink RX7 71 yX7_lays, Cond.instanceMethod yX7_lays, Cond.selects RX7 yX7_lays yX7_lays, Cond.code yX7_lays cX7_lays 4 none, Cond.methodLink RL 32 yX6_join]
def wsL_law_r14 : List Cond := [Cond.instanceMethod yX6_join, Cond.selects RX6 yX6_join yX6_join, Cond.code yX6_join cX6_join 5 (some .int), Cond.methodLink RX6 118 yX4_hasGarland, Cond.instanceMethod yX4_hasGarland, Cond.selects RX4 yX4_hasGarland yX4_hasGarland, Cond.code yX4_hasGarland cX4_hasGarland 2 (some .boolean), Cond.methodLink RX6 121 yX4_lastDoll, Cond.instanceMethod yX4_lastDoll, Cond.selects RX4 yX4_lastDoll yX4_lastDoll, Cond.code yX4_lastDoll cX4_lastDoll 2 (some .int), Cond.methodLink RX4 54 yX4_dollAt, Cond.methodLink RX6 124 yX4_firstDoll, Cond.instanceMethod yX4_firstDoll, Cond.selects RX4 yX4_firstDoll yX4_firstDoll, Cond.code yX4_firstDoll cX4_firstDoll 2 (some .int), Cond.methodLink RX6 127 yX4_clash, Cond.methodLink RX6 130 yX4_lengthOf, Cond.methodLink RX6 133 yX4_copyDolls, Cond.instanceMethod yX4_copyDolls, Cond.selects RX4 yX4_copyDolls yX4_copyDolls, Cond.code yX4_copyDolls cX4_copyDolls 6 none, Cond.methodLink RL 36 yX7_join, Cond.instanceMethod yX7_join]
def wsL_law_r15 : List Cond := [Cond.selects RX7 yX7_join yX7_join, Cond.code yX7_join cX7_join 4 (some .int), Cond.methodLink RX7 103 yX7_isGarland, Cond.instanceMethod yX7_isGarland, Cond.selects RX7 yX7_isGarland yX7_isGarland, Cond.code yX7_isGarland cX7_isGarland 2 (some .boolean), Cond.constantLong RX7 55 (7), Cond.methodLink RX7 106 yX7_last, Cond.instanceMethod yX7_last, Cond.selects RX7 yX7_last yX7_last, Cond.code yX7_last cX7_last 2 (some .int), Cond.methodLink RX7 109 yX7_takes, Cond.instanceMethod yX7_takes, Cond.selects RX7 yX7_takes yX7_takes, Cond.code yX7_takes cX7_takes 3 none, Cond.methodLink RL 37 yX6_cutApart, Cond.instanceMethod yX6_cutApart, Cond.selects RX6 yX6_cutApart yX6_cutApart, Cond.code yX6_cutApart cX6_cutApart 5 (some .int), Cond.methodLink RL 40 yX7_cutApart, Cond.instanceMethod yX7_cutApart, Cond.selects RX7 yX7_cutApart yX7_cutApart, Cond.code yX7_cutApart cX7_cutApart 5 (some .int), Cond.methodLink RL 41 yX6_turn]
def wsL_law_r16 : List Cond := [Cond.instanceMethod yX6_turn, Cond.selects RX6 yX6_turn yX6_turn, Cond.code yX6_turn cX6_turn 2 (some .int), Cond.methodLink RX6 137 yX2_isOwnMirror, Cond.instanceMethod yX2_isOwnMirror, Cond.selects RX2 yX2_isOwnMirror yX2_isOwnMirror, Cond.code yX2_isOwnMirror cX2_isOwnMirror 2 (some .boolean), Cond.methodLink RX2 39 yX2_isMirror, Cond.instanceMethod yX2_isMirror, Cond.selects RX2 yX2_isMirror yX2_isMirror, Cond.code yX2_isMirror cX2_isMirror 6 (some .boolean), Cond.static yX6_mirrorOf, Cond.code yX6_mirrorOf cX6_mirrorOf 1 (some .int), Cond.methodLink RX6 140 yX4_turnRound, Cond.instanceMethod yX4_turnRound, Cond.selects RX4 yX4_turnRound yX4_turnRound, Cond.code yX4_turnRound cX4_turnRound 5 none, Cond.methodLink RX4 63 yX4_putDoll, Cond.methodLink RX6 143 yX2_mirroredIn, Cond.instanceMethod yX2_mirroredIn, Cond.selects RX2 yX2_mirroredIn yX2_mirroredIn, Cond.code yX2_mirroredIn cX2_mirroredIn 5 (some .int), Cond.methodLink RL 44 yX7_turn, Cond.instanceMethod yX7_turn]
def wsL_law_r17 : List Cond := [Cond.selects RX7 yX7_turn yX7_turn, Cond.code yX7_turn cX7_turn 3 (some .int), Cond.methodLink RX7 113 yX7_isOwnImage, Cond.instanceMethod yX7_isOwnImage, Cond.selects RX7 yX7_isOwnImage yX7_isOwnImage, Cond.code yX7_isOwnImage cX7_isOwnImage 2 (some .boolean), Cond.methodLink RX7 67 yX7_isLike, Cond.instanceMethod yX7_isLike, Cond.selects RX7 yX7_isLike yX7_isLike, Cond.code yX7_isLike cX7_isLike 6 (some .boolean), Cond.methodLink RX7 64 yX7_turnedDoll, Cond.instanceMethod yX7_turnedDoll, Cond.selects RX7 yX7_turnedDoll yX7_turnedDoll, Cond.code yX7_turnedDoll cX7_turnedDoll 3 (some .int), Cond.methodLink RX7 116 yX7_mirroredIn, Cond.instanceMethod yX7_mirroredIn, Cond.selects RX7 yX7_mirroredIn yX7_mirroredIn, Cond.code yX7_mirroredIn cX7_mirroredIn 4 (some .int), Cond.methodLink RL 45 yX6_fold, Cond.instanceMethod yX6_fold, Cond.selects RX6 yX6_fold yX6_fold, Cond.code yX6_fold cX6_fold 4 (some .int), Cond.methodLink RX6 146 yX6_mirrorOf, Cond.methodLink RX6 149 yX4_foldOut]
def wsL_law_r18 : List Cond := [Cond.instanceMethod yX4_foldOut, Cond.selects RX4 yX4_foldOut yX4_foldOut, Cond.code yX4_foldOut cX4_foldOut 5 none, Cond.methodLink RX4 57 yX4_putLength, Cond.methodLink RL 48 yX7_fold, Cond.instanceMethod yX7_fold, Cond.selects RX7 yX7_fold yX7_fold, Cond.code yX7_fold cX7_fold 4 (some .int), Cond.methodLink RL 49 yX6_takeAway, Cond.instanceMethod yX6_takeAway, Cond.selects RX6 yX6_takeAway yX6_takeAway, Cond.code yX6_takeAway cX6_takeAway 3 (some .int), Cond.methodLink RL 52 yX7_takeAway, Cond.instanceMethod yX7_takeAway, Cond.selects RX7 yX7_takeAway yX7_takeAway, Cond.code yX7_takeAway cX7_takeAway 3 (some .int), Cond.methodLink RL 53 yX6_type, Cond.instanceMethod yX6_type, Cond.selects RX6 yX6_type yX6_type, Cond.code yX6_type cX6_type 2 (some .int), Cond.methodLink RX6 152 yX5_isFull, Cond.instanceMethod yX5_isFull, Cond.selects RX5 yX5_isFull yX5_isFull, Cond.code yX5_isFull cX5_isFull 1 (some .boolean)]
def wsL_law_r19 : List Cond := [Cond.methodLink RX6 155 yX5_add, Cond.instanceMethod yX5_add, Cond.selects RX5 yX5_add yX5_add, Cond.code yX5_add cX5_add 2 (some .int), Cond.methodLink RX5 24 yX3_put, Cond.methodLink RL 57 yX7_type, Cond.instanceMethod yX7_type, Cond.selects RX7 yX7_type yX7_type, Cond.code yX7_type cX7_type 2 (some .int), Cond.fieldLink RX7 119 "DollGarlandsModel" "textLong" "I", Cond.methodLink RL 58 yX6_clearText, Cond.instanceMethod yX6_clearText, Cond.selects RX6 yX6_clearText yX6_clearText, Cond.code yX6_clearText cX6_clearText 1 (some .int), Cond.methodLink RX6 159 yX5_empty, Cond.instanceMethod yX5_empty, Cond.selects RX5 yX5_empty yX5_empty, Cond.code yX5_empty cX5_empty 2 (some .int), Cond.methodLink RL 62 yX7_clearText, Cond.instanceMethod yX7_clearText, Cond.selects RX7 yX7_clearText yX7_clearText, Cond.code yX7_clearText cX7_clearText 2 (some .int), Cond.methodLink RL 63 yX6_readGarland, Cond.instanceMethod yX6_readGarland]
def wsL_law_r20 : List Cond := [Cond.selects RX6 yX6_readGarland yX6_readGarland, Cond.code yX6_readGarland cX6_readGarland 4 (some .int), Cond.methodLink RX6 162 yX5_fault, Cond.instanceMethod yX5_fault, Cond.selects RX5 yX5_fault yX5_fault, Cond.code yX5_fault cX5_fault 6 (some .int), Cond.methodLink RX5 28 yX3_at, Cond.methodLink RX5 32 yX5_isDigit, Cond.static yX5_isDigit, Cond.code yX5_isDigit cX5_isDigit 1 (some .boolean), Cond.methodLink RX6 165 yX5_spellDolls, Cond.instanceMethod yX5_spellDolls, Cond.selects RX5 yX5_spellDolls yX5_spellDolls, Cond.code yX5_spellDolls cX5_spellDolls 5 (some .int), Cond.methodLink RX6 169 yX4_hasKindsOf, Cond.instanceMethod yX4_hasKindsOf, Cond.selects RX4 yX4_hasKindsOf yX4_hasKindsOf, Cond.code yX4_hasKindsOf cX4_hasKindsOf 4 (some .boolean), Cond.methodLink RX4 83 yX4_hasKind, Cond.methodLink RX6 173 yX4_hasClashIn, Cond.methodLink RX6 177 yX4_hangUp, Cond.instanceMethod yX4_hangUp, Cond.selects RX4 yX4_hangUp yX4_hangUp, Cond.code yX4_hangUp cX4_hangUp 4 none]
def wsL_law_r21 : List Cond := [Cond.methodLink RL 66 yX7_readGarland, Cond.instanceMethod yX7_readGarland, Cond.selects RX7 yX7_readGarland yX7_readGarland, Cond.code yX7_readGarland cX7_readGarland 5 (some .int), Cond.fieldLink RX7 129 "DollGarlandsModel" "read" "I", Cond.methodLink RX7 138 yX7_fault, Cond.instanceMethod yX7_fault, Cond.selects RX7 yX7_fault yX7_fault, Cond.code yX7_fault cX7_fault 2 (some .int), Cond.fieldLink RX7 122 "DollGarlandsModel" "spot" "I", Cond.methodLink RX7 135 yX7_readsDoll, Cond.instanceMethod yX7_readsDoll, Cond.selects RX7 yX7_readsDoll yX7_readsDoll, Cond.code yX7_readsDoll cX7_readsDoll 1 (some .boolean), Cond.constantLong RX7 125 (48), Cond.constantLong RX7 127 (57), Cond.methodLink RX7 132 yX7_takesOne, Cond.instanceMethod yX7_takesOne, Cond.selects RX7 yX7_takesOne yX7_takesOne, Cond.code yX7_takesOne cX7_takesOne 3 (some .boolean), Cond.methodLink RX7 141 yX7_wrong, Cond.instanceMethod yX7_wrong, Cond.selects RX7 yX7_wrong yX7_wrong, Cond.code yX7_wrong cX7_wrong 3 (some .int)]
def wsL_law_r22 : List Cond := [Cond.methodLink RL 67 yX6_undo, Cond.instanceMethod yX6_undo, Cond.selects RX6 yX6_undo yX6_undo, Cond.code yX6_undo cX6_undo 1 (some .int), Cond.methodLink RX6 181 yX1_size, Cond.instanceMethod yX1_size, Cond.selects RX1 yX1_size yX1_size, Cond.code yX1_size cX1_size 1 (some .int), Cond.methodLink RX6 184 yX1_goBack, Cond.instanceMethod yX1_goBack, Cond.selects RX1 yX1_goBack yX1_goBack, Cond.code yX1_goBack cX1_goBack 2 none, Cond.methodLink RX1 37 yX4_loadFrom, Cond.instanceMethod yX4_loadFrom, Cond.selects RX4 yX4_loadFrom yX4_loadFrom, Cond.code yX4_loadFrom cX4_loadFrom 3 none, Cond.methodLink RL 70 yX7_undo, Cond.instanceMethod yX7_undo, Cond.selects RX7 yX7_undo yX7_undo, Cond.code yX7_undo cX7_undo 2 (some .int), Cond.methodLink RL 71 yX6_keep, Cond.instanceMethod yX6_keep, Cond.selects RX6 yX6_keep yX6_keep, Cond.code yX6_keep cX6_keep 1 (some .int)]
def wsL_law_r23 : List Cond := [Cond.methodLink RX6 187 yX4_saveTo, Cond.methodLink RX6 191 yX2_garlands, Cond.instanceMethod yX2_garlands, Cond.selects RX2 yX2_garlands yX2_garlands, Cond.code yX2_garlands cX2_garlands 3 (some .int), Cond.methodLink RX2 54 yX4_hasGarland, Cond.methodLink RL 74 yX7_keep, Cond.instanceMethod yX7_keep, Cond.selects RX7 yX7_keep yX7_keep, Cond.code yX7_keep cX7_keep 2 (some .int), Cond.fieldLink RX7 144 "DollGarlandsModel" "isKept" "I", Cond.methodLink RX7 147 yX7_garlands, Cond.instanceMethod yX7_garlands, Cond.selects RX7 yX7_garlands yX7_garlands, Cond.code yX7_garlands cX7_garlands 3 (some .int), Cond.methodLink RL 75 yX6_restore, Cond.instanceMethod yX6_restore, Cond.selects RX6 yX6_restore yX6_restore, Cond.code yX6_restore cX6_restore 1 (some .int), Cond.methodLink RX6 194 yX4_loadFrom, Cond.methodLink RL 78 yX7_restore, Cond.instanceMethod yX7_restore, Cond.selects RX7 yX7_restore yX7_restore, Cond.code yX7_restore cX7_restore 2 (some .int)]
def wsL_law_r24 : List Cond := [Cond.methodLink RL 79 yX6_kind, Cond.instanceMethod yX6_kind, Cond.selects RX6 yX6_kind yX6_kind, Cond.code yX6_kind cX6_kind 3 (some .int), Cond.methodLink RX6 197 yX2_dollsLike, Cond.instanceMethod yX2_dollsLike, Cond.selects RX2 yX2_dollsLike yX2_dollsLike, Cond.code yX2_dollsLike cX2_dollsLike 6 (some .int), Cond.methodLink RL 82 yX7_kind, Cond.instanceMethod yX7_kind, Cond.selects RX7 yX7_kind yX7_kind, Cond.code yX7_kind cX7_kind 4 (some .int), Cond.methodLink RX7 150 yX7_dollsOf, Cond.instanceMethod yX7_dollsOf, Cond.selects RX7 yX7_dollsOf yX7_dollsOf, Cond.code yX7_dollsOf cX7_dollsOf 6 (some .int), Cond.methodLink RL 83 yX6_garland, Cond.instanceMethod yX6_garland, Cond.selects RX6 yX6_garland yX6_garland, Cond.code yX6_garland cX6_garland 3 (some .int), Cond.methodLink RX6 204 yX4_leftOf, Cond.methodLink RX6 207 yX4_rightOf, Cond.methodLink RX6 210 yX2_kindsIn, Cond.instanceMethod yX2_kindsIn]
def wsL_law_r25 : List Cond := [Cond.selects RX2 yX2_kindsIn yX2_kindsIn, Cond.code yX2_kindsIn cX2_kindsIn 5 (some .int), Cond.methodLink RX6 213 yX2_repeatOf, Cond.instanceMethod yX2_repeatOf, Cond.selects RX2 yX2_repeatOf yX2_repeatOf, Cond.code yX2_repeatOf cX2_repeatOf 4 (some .int), Cond.methodLink RX2 43 yX2_repeatsAfter, Cond.instanceMethod yX2_repeatsAfter, Cond.selects RX2 yX2_repeatsAfter yX2_repeatsAfter, Cond.code yX2_repeatsAfter cX2_repeatsAfter 5 (some .boolean), Cond.methodLink RX6 216 yX2_lowestAlike, Cond.instanceMethod yX2_lowestAlike, Cond.selects RX2 yX2_lowestAlike yX2_lowestAlike, Cond.code yX2_lowestAlike cX2_lowestAlike 3 (some .int), Cond.methodLink RX2 46 yX2_isSame, Cond.instanceMethod yX2_isSame, Cond.selects RX2 yX2_isSame yX2_isSame, Cond.code yX2_isSame cX2_isSame 5 (some .boolean), Cond.methodLink RL 86 yX7_garland, Cond.instanceMethod yX7_garland, Cond.selects RX7 yX7_garland yX7_garland, Cond.code yX7_garland cX7_garland 3 (some .int), Cond.methodLink RX7 154 yX7_kindsIn, Cond.instanceMethod yX7_kindsIn]
def wsL_law_r26 : List Cond := [Cond.selects RX7 yX7_kindsIn yX7_kindsIn, Cond.code yX7_kindsIn cX7_kindsIn 4 (some .int), Cond.methodLink RX7 157 yX7_repeatOf, Cond.instanceMethod yX7_repeatOf, Cond.selects RX7 yX7_repeatOf yX7_repeatOf, Cond.code yX7_repeatOf cX7_repeatOf 5 (some .int), Cond.methodLink RX7 160 yX7_firstLike, Cond.instanceMethod yX7_firstLike, Cond.selects RX7 yX7_firstLike yX7_firstLike, Cond.code yX7_firstLike cX7_firstLike 3 (some .int), Cond.methodLink RL 87 yX6_doll, Cond.instanceMethod yX6_doll, Cond.selects RX6 yX6_doll yX6_doll, Cond.code yX6_doll cX6_doll 5 (some .int), Cond.methodLink RX6 219 yX4_dollAt, Cond.methodLink RX6 223 yX6_kindOf, Cond.methodLink RX6 226 yX6_isMirrored, Cond.methodLink RL 90 yX7_doll, Cond.instanceMethod yX7_doll, Cond.selects RX7 yX7_doll yX7_doll, Cond.code yX7_doll cX7_doll 5 (some .int), Cond.methodLink RL 91 yX6_reason, Cond.instanceMethod yX6_reason, Cond.selects RX6 yX6_reason yX6_reason]
def wsL_law_r27 : List Cond := [Cond.code yX6_reason cX6_reason 3 (some .int), Cond.methodLink RL 94 yX7_reason, Cond.instanceMethod yX7_reason, Cond.selects RX7 yX7_reason yX7_reason, Cond.code yX7_reason cX7_reason 3 (some .int), Cond.methodLink RL 95 yX6_between, Cond.instanceMethod yX6_between, Cond.selects RX6 yX6_between yX6_between, Cond.code yX6_between cX6_between 3 (some .int), Cond.methodLink RX6 229 yX0_fewestBetween, Cond.instanceMethod yX0_fewestBetween, Cond.selects RX0 yX0_fewestBetween yX0_fewestBetween, Cond.code yX0_fewestBetween cX0_fewestBetween 7 (some .int), Cond.methodLink RX0 36 yX4_clash, Cond.methodLink RX0 47 yX0_leadersOf, Cond.instanceMethod yX0_leadersOf, Cond.selects RX0 yX0_leadersOf yX0_leadersOf, Cond.code yX0_leadersOf cX0_leadersOf 5 (some .int), Cond.methodLink RX0 30 yX4_dollsToCut, Cond.instanceMethod yX4_dollsToCut, Cond.selects RX4 yX4_dollsToCut yX4_dollsToCut, Cond.code yX4_dollsToCut cX4_dollsToCut 1 (some .int), Cond.methodLink RX0 43 yX0_followersOf, Cond.instanceMethod yX0_followersOf]
def wsL_law_r28 : List Cond := [Cond.selects RX0 yX0_followersOf yX0_followersOf, Cond.code yX0_followersOf cX0_followersOf 5 (some .int), Cond.methodLink RX0 50 yX0_followersOfAny, Cond.instanceMethod yX0_followersOfAny, Cond.selects RX0 yX0_followersOfAny yX0_followersOfAny, Cond.code yX0_followersOfAny cX0_followersOfAny 5 (some .int), Cond.methodLink RX0 40 yX0_holds, Cond.static yX0_holds, Cond.code yX0_holds cX0_holds 2 (some .boolean), Cond.methodLink RL 98 yX7_between, Cond.instanceMethod yX7_between, Cond.selects RX7 yX7_between yX7_between, Cond.code yX7_between cX7_between 10 (some .int), Cond.methodLink RL 99 yX6_ways, Cond.instanceMethod yX6_ways, Cond.selects RX6 yX6_ways yX6_ways, Cond.code yX6_ways cX6_ways 3 (some .int), Cond.methodLink RX6 232 yX0_garlandsOf, Cond.instanceMethod yX0_garlandsOf, Cond.selects RX0 yX0_garlandsOf yX0_garlandsOf, Cond.code yX0_garlandsOf cX0_garlandsOf 5 (some .int), Cond.methodLink RX0 67 yX0_countEndings, Cond.instanceMethod yX0_countEndings, Cond.selects RX0 yX0_countEndings yX0_countEndings]
def wsL_law_r29 : List Cond := [Cond.code yX0_countEndings cX0_countEndings 5 none, Cond.methodLink RX0 53 yX3_put, Cond.methodLink RX0 57 yX0_endingsAheadOf, Cond.instanceMethod yX0_endingsAheadOf, Cond.selects RX0 yX0_endingsAheadOf yX0_endingsAheadOf, Cond.code yX0_endingsAheadOf cX0_endingsAheadOf 5 (some .int), Cond.methodLink RX0 64 yX3_at, Cond.methodLink RX0 60 yX3_copyFrom, Cond.methodLink RX6 235 yX0_ownMirrorsOf, Cond.instanceMethod yX0_ownMirrorsOf, Cond.selects RX0 yX0_ownMirrorsOf yX0_ownMirrorsOf, Cond.code yX0_ownMirrorsOf cX0_ownMirrorsOf 5 (some .int), Cond.methodLink RL 102 yX7_ways, Cond.instanceMethod yX7_ways, Cond.selects RX7 yX7_ways yX7_ways, Cond.code yX7_ways cX7_ways 3 (some .int), Cond.constantLong RX7 166 (6), Cond.methodLink RX7 168 yX7_allOf, Cond.instanceMethod yX7_allOf, Cond.selects RX7 yX7_allOf yX7_allOf, Cond.code yX7_allOf cX7_allOf 4 (some .int), Cond.methodLink RX7 163 yX7_counts, Cond.instanceMethod yX7_counts, Cond.selects RX7 yX7_counts yX7_counts]
def wsL_law_r30 : List Cond := [Cond.code yX7_counts cX7_counts 6 none, Cond.methodLink RX7 171 yX7_ownImages, Cond.instanceMethod yX7_ownImages, Cond.selects RX7 yX7_ownImages yX7_ownImages, Cond.code yX7_ownImages cX7_ownImages 4 (some .int), Cond.methodLink RL 103 yX6_longest, Cond.instanceMethod yX6_longest, Cond.selects RX6 yX6_longest yX6_longest, Cond.code yX6_longest cX6_longest 4 (some .int), Cond.methodLink RL 106 yX7_longest, Cond.instanceMethod yX7_longest, Cond.selects RX7 yX7_longest yX7_longest, Cond.code yX7_longest cX7_longest 3 (some .int), Cond.methodLink RL 107 yX6_count, Cond.instanceMethod yX6_count, Cond.selects RX6 yX6_count yX6_count, Cond.code yX6_count cX6_count 2 (some .int), Cond.methodLink RX6 238 yX2_dolls, Cond.instanceMethod yX2_dolls, Cond.selects RX2 yX2_dolls yX2_dolls, Cond.code yX2_dolls cX2_dolls 3 (some .int), Cond.methodLink RX6 241 yX2_mirroredDolls, Cond.instanceMethod yX2_mirroredDolls, Cond.selects RX2 yX2_mirroredDolls yX2_mirroredDolls]
def wsL_law_r31 : List Cond := [Cond.code yX2_mirroredDolls cX2_mirroredDolls 3 (some .int), Cond.methodLink RX2 57 yX2_mirroredIn, Cond.methodLink RX6 244 yX2_ownMirrors, Cond.instanceMethod yX2_ownMirrors, Cond.selects RX2 yX2_ownMirrors yX2_ownMirrors, Cond.code yX2_ownMirrors cX2_ownMirrors 3 (some .int), Cond.methodLink RX2 60 yX2_isOwnMirror, Cond.methodLink RX6 247 yX2_handsThatMeet, Cond.instanceMethod yX2_handsThatMeet, Cond.selects RX2 yX2_handsThatMeet yX2_handsThatMeet, Cond.code yX2_handsThatMeet cX2_handsThatMeet 7 (some .int), Cond.methodLink RX2 63 yX4_rightOf, Cond.methodLink RX2 66 yX4_leftOf, Cond.methodLink RX6 250 yX2_differentGarlands, Cond.instanceMethod yX2_differentGarlands, Cond.selects RX2 yX2_differentGarlands yX2_differentGarlands, Cond.code yX2_differentGarlands cX2_differentGarlands 3 (some .int), Cond.methodLink RX2 69 yX2_lowestAlike, Cond.methodLink RX6 253 yX5_size, Cond.instanceMethod yX5_size, Cond.selects RX5 yX5_size yX5_size, Cond.code yX5_size cX5_size 1 (some .int), Cond.methodLink RL 110 yX7_count, Cond.instanceMethod yX7_count]
def wsL_law_r32 : List Cond := [Cond.selects RX7 yX7_count yX7_count, Cond.code yX7_count cX7_count 2 (some .int), Cond.methodLink RX7 177 yX7_over, Cond.instanceMethod yX7_over, Cond.selects RX7 yX7_over yX7_over, Cond.code yX7_over cX7_over 4 (some .int), Cond.methodLink RX7 174 yX7_meeting, Cond.instanceMethod yX7_meeting, Cond.selects RX7 yX7_meeting yX7_meeting, Cond.code yX7_meeting cX7_meeting 4 (some .int)]
def wsL_law : List Cond := (wsL_law_r1 ++ (wsL_law_r2 ++ (wsL_law_r3 ++ (wsL_law_r4 ++ (wsL_law_r5 ++ (wsL_law_r6 ++ (wsL_law_r7 ++ (wsL_law_r8 ++ (wsL_law_r9 ++ (wsL_law_r10 ++ (wsL_law_r11 ++ (wsL_law_r12 ++ (wsL_law_r13 ++ (wsL_law_r14 ++ (wsL_law_r15 ++ (wsL_law_r16 ++ (wsL_law_r17 ++ (wsL_law_r18 ++ (wsL_law_r19 ++ (wsL_law_r20 ++ (wsL_law_r21 ++ (wsL_law_r22 ++ (wsL_law_r23 ++ (wsL_law_r24 ++ (wsL_law_r25 ++ (wsL_law_r26 ++ (wsL_law_r27 ++ (wsL_law_r28 ++ (wsL_law_r29 ++ (wsL_law_r30 ++ (wsL_law_r31 ++ wsL_law_r32))))))))))))))))))))))))))))))) ++ wsX60 ++ wsX70 ++ wsX40 ++ wsX20 ++ wsX00 ++ wsX10 ++ wsX50 ++ wsX30 ++ ([] : List Cond)
end
section
theorem lwT {w : Cond} (i : Nat) (h : tables_1[i]? = some w) : w ∈ lw_tbl := List.mem_append_right _ (List.mem_of_getElem? h)
theorem lwS {w : Cond} (i : Nat) (h : (k2_sels lw_privs)[i]? = some w) : w ∈ lw_tbl := List.mem_append_left _ (List.mem_of_getElem? h)
theorem wli_1 : ∀ w ∈ wsL_law_r1, w ∈ lw_tbl := List.forall_mem_cons.mpr ⟨lwT 11 (by decide +kernel), List.forall_mem_cons.mpr ⟨lwT 12 (by decide +kernel), List.forall_mem_cons.mpr ⟨lwT 1 (by decide +kernel), List.forall_mem_cons.mpr ⟨lwT 559 (by decide +kernel), List.forall_mem_cons.mpr ⟨lwT 560 (by decide +kernel), List.forall_mem_cons.mpr ⟨lwT 8 (by decide +kernel), List.forall_mem_cons.mpr ⟨lwT 13 (by decide +kernel), List.forall_mem_cons.mpr ⟨lwT 14 (by decide +kernel), List.forall_mem_cons.mpr ⟨lwT 15 (by decide +kernel), List.forall_mem_cons.mpr ⟨lwT 16 (by decide +kernel), List.forall_mem_cons.mpr ⟨lwT 17 (by decide +kernel), List.forall_mem_cons.mpr ⟨lwT 18 (by decide +kernel), List.forall_mem_cons.mpr ⟨lwT 19 (by decide +kernel), List.forall_mem_cons.mpr ⟨lwT 20 (by decide +kernel), List.forall_mem_cons.mpr ⟨lwT 2 (by decide +kernel), List.forall_mem_cons.mpr ⟨lwT 110 (by decide +kernel), List.forall_mem_cons.mpr ⟨lwT 44 (by decide +kernel), List.forall_mem_cons.mpr ⟨lwT 45 (by decide +kernel), List.forall_mem_cons.mpr ⟨lwT 4 (by decide +kernel), List.forall_mem_cons.mpr ⟨lwT 111 (by decide +kernel), List.forall_mem_cons.mpr ⟨lwT 54 (by decide +kernel), List.forall_mem_cons.mpr ⟨lwT 55 (by decide +kernel), List.forall_mem_cons.mpr ⟨lwT 5 (by decide +kernel), List.forall_mem_cons.mpr ⟨lwT 112 (by decide +kernel), fun _ h => absurd h List.not_mem_nil⟩⟩⟩⟩⟩⟩⟩⟩⟩⟩⟩⟩⟩⟩⟩⟩⟩⟩⟩⟩⟩⟩⟩⟩
theorem wli_2 : ∀ w ∈ wsL_law_r2, w ∈ lw_tbl := List.forall_mem_cons.mpr ⟨lwT 75 (by decide +kernel), List.forall_mem_cons.mpr ⟨lwT 76 (by decide +kernel), List.forall_mem_cons.mpr ⟨lwT 6 (by decide +kernel), List.forall_mem_cons.mpr ⟨lwT 113 (by decide +kernel), List.forall_mem_cons.mpr ⟨lwT 93 (by decide +kernel), List.forall_mem_cons.mpr ⟨lwT 94 (by decide +kernel), List.forall_mem_cons.mpr ⟨lwT 7 (by decide +kernel), List.forall_mem_cons.mpr ⟨lwT 114 (by decide +kernel), List.forall_mem_cons.mpr ⟨lwT 108 (by decide +kernel), List.forall_mem_cons.mpr ⟨lwT 26 (by decide +kernel), List.forall_mem_cons.mpr ⟨lwT 3 (by decide +kernel), List.forall_mem_cons.mpr ⟨lwT 115 (by decide +kernel), List.forall_mem_cons.mpr ⟨lwT 116 (by decide +kernel), List.forall_mem_cons.mpr ⟨lwT 117 (by decide +kernel), List.forall_mem_cons.mpr ⟨lwT 21 (by decide +kernel), List.forall_mem_cons.mpr ⟨lwT 22 (by decide +kernel), List.forall_mem_cons.mpr ⟨lwT 23 (by decide +kernel), List.forall_mem_cons.mpr ⟨lwT 24 (by decide +kernel), List.forall_mem_cons.mpr ⟨lwT 25 (by decide +kernel), List.forall_mem_cons.mpr ⟨lwT 40 (by decide +kernel), List.forall_mem_cons.mpr ⟨lwT 27 (by decide +kernel), List.forall_mem_cons.mpr ⟨lwT 28 (by decide +kernel), List.forall_mem_cons.mpr ⟨lwT 29 (by decide +kernel), List.forall_mem_cons.mpr ⟨lwT 30 (by decide +kernel), fun _ h => absurd h List.not_mem_nil⟩⟩⟩⟩⟩⟩⟩⟩⟩⟩⟩⟩⟩⟩⟩⟩⟩⟩⟩⟩⟩⟩⟩⟩
theorem wli_3 : ∀ w ∈ wsL_law_r3, w ∈ lw_tbl := List.forall_mem_cons.mpr ⟨lwT 35 (by decide +kernel), List.forall_mem_cons.mpr ⟨lwT 31 (by decide +kernel), List.forall_mem_cons.mpr ⟨lwT 36 (by decide +kernel), List.forall_mem_cons.mpr ⟨lwT 37 (by decide +kernel), List.forall_mem_cons.mpr ⟨lwT 38 (by decide +kernel), List.forall_mem_cons.mpr ⟨lwT 39 (by decide +kernel), List.forall_mem_cons.mpr ⟨lwT 46 (by decide +kernel), List.forall_mem_cons.mpr ⟨lwT 47 (by decide +kernel), List.forall_mem_cons.mpr ⟨lwT 48 (by decide +kernel), List.forall_mem_cons.mpr ⟨lwT 49 (by decide +kernel), List.forall_mem_cons.mpr ⟨lwT 50 (by decide +kernel), List.forall_mem_cons.mpr ⟨lwT 56 (by decide +kernel), List.forall_mem_cons.mpr ⟨lwT 57 (by decide +kernel), List.forall_mem_cons.mpr ⟨lwT 58 (by decide +kernel), List.forall_mem_cons.mpr ⟨lwT 59 (by decide +kernel), List.forall_mem_cons.mpr ⟨lwT 62 (by decide +kernel), List.forall_mem_cons.mpr ⟨lwT 60 (by decide +kernel), List.forall_mem_cons.mpr ⟨lwT 63 (by decide +kernel), List.forall_mem_cons.mpr ⟨lwT 64 (by decide +kernel), List.forall_mem_cons.mpr ⟨lwT 65 (by decide +kernel), List.forall_mem_cons.mpr ⟨lwT 61 (by decide +kernel), List.forall_mem_cons.mpr ⟨lwT 77 (by decide +kernel), List.forall_mem_cons.mpr ⟨lwT 78 (by decide +kernel), List.forall_mem_cons.mpr ⟨lwT 79 (by decide +kernel), fun _ h => absurd h List.not_mem_nil⟩⟩⟩⟩⟩⟩⟩⟩⟩⟩⟩⟩⟩⟩⟩⟩⟩⟩⟩⟩⟩⟩⟩⟩
theorem wli_4 : ∀ w ∈ wsL_law_r4, w ∈ lw_tbl := List.forall_mem_cons.mpr ⟨lwT 80 (by decide +kernel), List.forall_mem_cons.mpr ⟨lwT 81 (by decide +kernel), List.forall_mem_cons.mpr ⟨lwT 83 (by decide +kernel), List.forall_mem_cons.mpr ⟨lwT 84 (by decide +kernel), List.forall_mem_cons.mpr ⟨lwT 85 (by decide +kernel), List.forall_mem_cons.mpr ⟨lwT 82 (by decide +kernel), List.forall_mem_cons.mpr ⟨lwT 95 (by decide +kernel), List.forall_mem_cons.mpr ⟨lwT 96 (by decide +kernel), List.forall_mem_cons.mpr ⟨lwT 97 (by decide +kernel), List.forall_mem_cons.mpr ⟨lwT 98 (by decide +kernel), List.forall_mem_cons.mpr ⟨lwT 99 (by decide +kernel), List.forall_mem_cons.mpr ⟨lwT 101 (by decide +kernel), List.forall_mem_cons.mpr ⟨lwT 102 (by decide +kernel), List.forall_mem_cons.mpr ⟨lwT 100 (by decide +kernel), List.forall_mem_cons.mpr ⟨lwT 109 (by decide +kernel), List.forall_mem_cons.mpr ⟨lwT 561 (by decide +kernel), List.forall_mem_cons.mpr ⟨lwT 562 (by decide +kernel), List.forall_mem_cons.mpr ⟨lwT 563 (by decide +kernel), List.forall_mem_cons.mpr ⟨lwT 564 (by decide +kernel), List.forall_mem_cons.mpr ⟨lwT 565 (by decide +kernel), List.forall_mem_cons.mpr ⟨lwT 566 (by decide +kernel), List.forall_mem_cons.mpr ⟨lwT 567 (by decide +kernel), List.forall_mem_cons.mpr ⟨lwT 569 (by decide +kernel), List.forall_mem_cons.mpr ⟨lwT 571 (by decide +kernel), fun _ h => absurd h List.not_mem_nil⟩⟩⟩⟩⟩⟩⟩⟩⟩⟩⟩⟩⟩⟩⟩⟩⟩⟩⟩⟩⟩⟩⟩⟩
theorem wli_5 : ∀ w ∈ wsL_law_r5, w ∈ lw_tbl := List.forall_mem_cons.mpr ⟨lwT 572 (by decide +kernel), List.forall_mem_cons.mpr ⟨lwT 576 (by decide +kernel), List.forall_mem_cons.mpr ⟨lwT 577 (by decide +kernel), List.forall_mem_cons.mpr ⟨lwT 578 (by decide +kernel), List.forall_mem_cons.mpr ⟨lwT 135 (by decide +kernel), List.forall_mem_cons.mpr ⟨lwT 136 (by decide +kernel), List.forall_mem_cons.mpr ⟨lwT 137 (by decide +kernel), List.forall_mem_cons.mpr ⟨lwT 138 (by decide +kernel), List.forall_mem_cons.mpr ⟨lwT 139 (by decide +kernel), List.forall_mem_cons.mpr ⟨lwT 140 (by decide +kernel), List.forall_mem_cons.mpr ⟨lwT 141 (by decide +kernel), List.forall_mem_cons.mpr ⟨lwT 142 (by decide +kernel), List.forall_mem_cons.mpr ⟨lwT 143 (by decide +kernel), List.forall_mem_cons.mpr ⟨lwT 144 (by decide +kernel), List.forall_mem_cons.mpr ⟨lwT 145 (by decide +kernel), List.forall_mem_cons.mpr ⟨lwT 146 (by decide +kernel), List.forall_mem_cons.mpr ⟨lwT 147 (by decide +kernel), List.forall_mem_cons.mpr ⟨lwT 148 (by decide +kernel), List.forall_mem_cons.mpr ⟨lwT 149 (by decide +kernel), List.forall_mem_cons.mpr ⟨lwT 150 (by decide +kernel), List.forall_mem_cons.mpr ⟨lwT 152 (by decide +kernel), List.forall_mem_cons.mpr ⟨lwT 153 (by decide +kernel), List.forall_mem_cons.mpr ⟨lwT 154 (by decide +kernel), List.forall_mem_cons.mpr ⟨lwT 155 (by decide +kernel), fun _ h => absurd h List.not_mem_nil⟩⟩⟩⟩⟩⟩⟩⟩⟩⟩⟩⟩⟩⟩⟩⟩⟩⟩⟩⟩⟩⟩⟩⟩
theorem wli_6 : ∀ w ∈ wsL_law_r6, w ∈ lw_tbl := List.forall_mem_cons.mpr ⟨lwT 156 (by decide +kernel), List.forall_mem_cons.mpr ⟨lwT 157 (by decide +kernel), List.forall_mem_cons.mpr ⟨lwT 158 (by decide +kernel), List.forall_mem_cons.mpr ⟨lwT 159 (by decide +kernel), List.forall_mem_cons.mpr ⟨lwT 160 (by decide +kernel), List.forall_mem_cons.mpr ⟨lwT 161 (by decide +kernel), List.forall_mem_cons.mpr ⟨lwT 162 (by decide +kernel), List.forall_mem_cons.mpr ⟨lwT 163 (by decide +kernel), List.forall_mem_cons.mpr ⟨lwT 164 (by decide +kernel), List.forall_mem_cons.mpr ⟨lwT 165 (by decide +kernel), List.forall_mem_cons.mpr ⟨lwT 166 (by decide +kernel), List.forall_mem_cons.mpr ⟨lwT 167 (by decide +kernel), List.forall_mem_cons.mpr ⟨lwT 168 (by decide +kernel), List.forall_mem_cons.mpr ⟨lwT 169 (by decide +kernel), List.forall_mem_cons.mpr ⟨lwT 170 (by decide +kernel), List.forall_mem_cons.mpr ⟨lwT 171 (by decide +kernel), List.forall_mem_cons.mpr ⟨lwT 173 (by decide +kernel), List.forall_mem_cons.mpr ⟨lwS 0 (by decide +kernel), List.forall_mem_cons.mpr ⟨lwT 174 (by decide +kernel), List.forall_mem_cons.mpr ⟨lwT 175 (by decide +kernel), List.forall_mem_cons.mpr ⟨lwT 176 (by decide +kernel), List.forall_mem_cons.mpr ⟨lwT 177 (by decide +kernel), List.forall_mem_cons.mpr ⟨lwT 178 (by decide +kernel), List.forall_mem_cons.mpr ⟨lwT 179 (by decide +kernel), fun _ h => absurd h List.not_mem_nil⟩⟩⟩⟩⟩⟩⟩⟩⟩⟩⟩⟩⟩⟩⟩⟩⟩⟩⟩⟩⟩⟩⟩⟩
theorem wli_7 : ∀ w ∈ wsL_law_r7, w ∈ lw_tbl := List.forall_mem_cons.mpr ⟨lwT 180 (by decide +kernel), List.forall_mem_cons.mpr ⟨lwT 181 (by decide +kernel), List.forall_mem_cons.mpr ⟨lwT 182 (by decide +kernel), List.forall_mem_cons.mpr ⟨lwT 183 (by decide +kernel), List.forall_mem_cons.mpr ⟨lwT 184 (by decide +kernel), List.forall_mem_cons.mpr ⟨lwT 185 (by decide +kernel), List.forall_mem_cons.mpr ⟨lwT 186 (by decide +kernel), List.forall_mem_cons.mpr ⟨lwT 187 (by decide +kernel), List.forall_mem_cons.mpr ⟨lwT 188 (by decide +kernel), List.forall_mem_cons.mpr ⟨lwT 189 (by decide +kernel), List.forall_mem_cons.mpr ⟨lwT 190 (by decide +kernel), List.forall_mem_cons.mpr ⟨lwT 192 (by decide +kernel), List.forall_mem_cons.mpr ⟨lwT 193 (by decide +kernel), List.forall_mem_cons.mpr ⟨lwT 195 (by decide +kernel), List.forall_mem_cons.mpr ⟨lwT 196 (by decide +kernel), List.forall_mem_cons.mpr ⟨lwT 197 (by decide +kernel), List.forall_mem_cons.mpr ⟨lwT 198 (by decide +kernel), List.forall_mem_cons.mpr ⟨lwT 199 (by decide +kernel), List.forall_mem_cons.mpr ⟨lwT 200 (by decide +kernel), List.forall_mem_cons.mpr ⟨lwT 201 (by decide +kernel), List.forall_mem_cons.mpr ⟨lwT 202 (by decide +kernel), List.forall_mem_cons.mpr ⟨lwT 203 (by decide +kernel), List.forall_mem_cons.mpr ⟨lwT 204 (by decide +kernel), List.forall_mem_cons.mpr ⟨lwT 205 (by decide +kernel), fun _ h => absurd h List.not_mem_nil⟩⟩⟩⟩⟩⟩⟩⟩⟩⟩⟩⟩⟩⟩⟩⟩⟩⟩⟩⟩⟩⟩⟩⟩
theorem wli_8 : ∀ w ∈ wsL_law_r8, w ∈ lw_tbl := List.forall_mem_cons.mpr ⟨lwT 206 (by decide +kernel), List.forall_mem_cons.mpr ⟨lwT 207 (by decide +kernel), List.forall_mem_cons.mpr ⟨lwT 208 (by decide +kernel), List.forall_mem_cons.mpr ⟨lwT 209 (by decide +kernel), List.forall_mem_cons.mpr ⟨lwT 211 (by decide +kernel), List.forall_mem_cons.mpr ⟨lwS 1 (by decide +kernel), List.forall_mem_cons.mpr ⟨lwT 212 (by decide +kernel), List.forall_mem_cons.mpr ⟨lwT 213 (by decide +kernel), List.forall_mem_cons.mpr ⟨lwT 214 (by decide +kernel), List.forall_mem_cons.mpr ⟨lwT 215 (by decide +kernel), List.forall_mem_cons.mpr ⟨lwT 216 (by decide +kernel), List.forall_mem_cons.mpr ⟨lwT 217 (by decide +kernel), List.forall_mem_cons.mpr ⟨lwT 218 (by decide +kernel), List.forall_mem_cons.mpr ⟨lwT 219 (by decide +kernel), List.forall_mem_cons.mpr ⟨lwT 220 (by decide +kernel), List.forall_mem_cons.mpr ⟨lwT 221 (by decide +kernel), List.forall_mem_cons.mpr ⟨lwT 223 (by decide +kernel), List.forall_mem_cons.mpr ⟨lwT 222 (by decide +kernel), List.forall_mem_cons.mpr ⟨lwT 9 (by decide +kernel), List.forall_mem_cons.mpr ⟨lwT 608 (by decide +kernel), List.forall_mem_cons.mpr ⟨lwT 609 (by decide +kernel), List.forall_mem_cons.mpr ⟨lwT 610 (by decide +kernel), List.forall_mem_cons.mpr ⟨lwT 611 (by decide +kernel), List.forall_mem_cons.mpr ⟨lwT 619 (by decide +kernel), fun _ h => absurd h List.not_mem_nil⟩⟩⟩⟩⟩⟩⟩⟩⟩⟩⟩⟩⟩⟩⟩⟩⟩⟩⟩⟩⟩⟩⟩⟩
theorem wli_9 : ∀ w ∈ wsL_law_r9, w ∈ lw_tbl := List.forall_mem_cons.mpr ⟨lwT 612 (by decide +kernel), List.forall_mem_cons.mpr ⟨lwT 614 (by decide +kernel), List.forall_mem_cons.mpr ⟨lwS 8 (by decide +kernel), List.forall_mem_cons.mpr ⟨lwT 615 (by decide +kernel), List.forall_mem_cons.mpr ⟨lwT 616 (by decide +kernel), List.forall_mem_cons.mpr ⟨lwT 617 (by decide +kernel), List.forall_mem_cons.mpr ⟨lwT 618 (by decide +kernel), List.forall_mem_cons.mpr ⟨lwT 620 (by decide +kernel), List.forall_mem_cons.mpr ⟨lwT 622 (by decide +kernel), List.forall_mem_cons.mpr ⟨lwS 9 (by decide +kernel), List.forall_mem_cons.mpr ⟨lwT 623 (by decide +kernel), List.forall_mem_cons.mpr ⟨lwT 624 (by decide +kernel), List.forall_mem_cons.mpr ⟨lwT 626 (by decide +kernel), List.forall_mem_cons.mpr ⟨lwS 10 (by decide +kernel), List.forall_mem_cons.mpr ⟨lwT 627 (by decide +kernel), List.forall_mem_cons.mpr ⟨lwT 628 (by decide +kernel), List.forall_mem_cons.mpr ⟨lwT 630 (by decide +kernel), List.forall_mem_cons.mpr ⟨lwS 11 (by decide +kernel), List.forall_mem_cons.mpr ⟨lwT 631 (by decide +kernel), List.forall_mem_cons.mpr ⟨lwT 632 (by decide +kernel), List.forall_mem_cons.mpr ⟨lwT 634 (by decide +kernel), List.forall_mem_cons.mpr ⟨lwS 12 (by decide +kernel), List.forall_mem_cons.mpr ⟨lwT 635 (by decide +kernel), List.forall_mem_cons.mpr ⟨lwT 636 (by decide +kernel), fun _ h => absurd h List.not_mem_nil⟩⟩⟩⟩⟩⟩⟩⟩⟩⟩⟩⟩⟩⟩⟩⟩⟩⟩⟩⟩⟩⟩⟩⟩
theorem wli_10 : ∀ w ∈ wsL_law_r10, w ∈ lw_tbl := List.forall_mem_cons.mpr ⟨lwT 638 (by decide +kernel), List.forall_mem_cons.mpr ⟨lwS 13 (by decide +kernel), List.forall_mem_cons.mpr ⟨lwT 639 (by decide +kernel), List.forall_mem_cons.mpr ⟨lwT 640 (by decide +kernel), List.forall_mem_cons.mpr ⟨lwT 642 (by decide +kernel), List.forall_mem_cons.mpr ⟨lwS 14 (by decide +kernel), List.forall_mem_cons.mpr ⟨lwT 643 (by decide +kernel), List.forall_mem_cons.mpr ⟨lwT 644 (by decide +kernel), List.forall_mem_cons.mpr ⟨lwT 646 (by decide +kernel), List.forall_mem_cons.mpr ⟨lwS 15 (by decide +kernel), List.forall_mem_cons.mpr ⟨lwT 647 (by decide +kernel), List.forall_mem_cons.mpr ⟨lwT 648 (by decide +kernel), List.forall_mem_cons.mpr ⟨lwT 650 (by decide +kernel), List.forall_mem_cons.mpr ⟨lwS 16 (by decide +kernel), List.forall_mem_cons.mpr ⟨lwT 651 (by decide +kernel), List.forall_mem_cons.mpr ⟨lwT 568 (by decide +kernel), List.forall_mem_cons.mpr ⟨lwT 224 (by decide +kernel), List.forall_mem_cons.mpr ⟨lwT 225 (by decide +kernel), List.forall_mem_cons.mpr ⟨lwT 226 (by decide +kernel), List.forall_mem_cons.mpr ⟨lwT 227 (by decide +kernel), List.forall_mem_cons.mpr ⟨lwT 228 (by decide +kernel), List.forall_mem_cons.mpr ⟨lwT 229 (by decide +kernel), List.forall_mem_cons.mpr ⟨lwT 230 (by decide +kernel), List.forall_mem_cons.mpr ⟨lwT 231 (by decide +kernel), fun _ h => absurd h List.not_mem_nil⟩⟩⟩⟩⟩⟩⟩⟩⟩⟩⟩⟩⟩⟩⟩⟩⟩⟩⟩⟩⟩⟩⟩⟩
theorem wli_11 : ∀ w ∈ wsL_law_r11, w ∈ lw_tbl := List.forall_mem_cons.mpr ⟨lwT 232 (by decide +kernel), List.forall_mem_cons.mpr ⟨lwT 652 (by decide +kernel), List.forall_mem_cons.mpr ⟨lwT 653 (by decide +kernel), List.forall_mem_cons.mpr ⟨lwT 654 (by decide +kernel), List.forall_mem_cons.mpr ⟨lwT 655 (by decide +kernel), List.forall_mem_cons.mpr ⟨lwT 656 (by decide +kernel), List.forall_mem_cons.mpr ⟨lwT 233 (by decide +kernel), List.forall_mem_cons.mpr ⟨lwT 234 (by decide +kernel), List.forall_mem_cons.mpr ⟨lwT 235 (by decide +kernel), List.forall_mem_cons.mpr ⟨lwT 236 (by decide +kernel), List.forall_mem_cons.mpr ⟨lwT 237 (by decide +kernel), List.forall_mem_cons.mpr ⟨lwT 238 (by decide +kernel), List.forall_mem_cons.mpr ⟨lwT 239 (by decide +kernel), List.forall_mem_cons.mpr ⟨lwT 240 (by decide +kernel), List.forall_mem_cons.mpr ⟨lwT 247 (by decide +kernel), List.forall_mem_cons.mpr ⟨lwT 248 (by decide +kernel), List.forall_mem_cons.mpr ⟨lwT 10 (by decide +kernel), List.forall_mem_cons.mpr ⟨lwT 249 (by decide +kernel), List.forall_mem_cons.mpr ⟨lwT 241 (by decide +kernel), List.forall_mem_cons.mpr ⟨lwT 242 (by decide +kernel), List.forall_mem_cons.mpr ⟨lwT 243 (by decide +kernel), List.forall_mem_cons.mpr ⟨lwT 244 (by decide +kernel), List.forall_mem_cons.mpr ⟨lwT 245 (by decide +kernel), List.forall_mem_cons.mpr ⟨lwT 250 (by decide +kernel), fun _ h => absurd h List.not_mem_nil⟩⟩⟩⟩⟩⟩⟩⟩⟩⟩⟩⟩⟩⟩⟩⟩⟩⟩⟩⟩⟩⟩⟩⟩
theorem wli_12 : ∀ w ∈ wsL_law_r12, w ∈ lw_tbl := List.forall_mem_cons.mpr ⟨lwT 251 (by decide +kernel), List.forall_mem_cons.mpr ⟨lwT 252 (by decide +kernel), List.forall_mem_cons.mpr ⟨lwT 253 (by decide +kernel), List.forall_mem_cons.mpr ⟨lwT 254 (by decide +kernel), List.forall_mem_cons.mpr ⟨lwT 657 (by decide +kernel), List.forall_mem_cons.mpr ⟨lwT 658 (by decide +kernel), List.forall_mem_cons.mpr ⟨lwT 659 (by decide +kernel), List.forall_mem_cons.mpr ⟨lwT 660 (by decide +kernel), List.forall_mem_cons.mpr ⟨lwT 661 (by decide +kernel), List.forall_mem_cons.mpr ⟨lwT 662 (by decide +kernel), List.forall_mem_cons.mpr ⟨lwT 664 (by decide +kernel), List.forall_mem_cons.mpr ⟨lwS 17 (by decide +kernel), List.forall_mem_cons.mpr ⟨lwT 665 (by decide +kernel), List.forall_mem_cons.mpr ⟨lwT 255 (by decide +kernel), List.forall_mem_cons.mpr ⟨lwT 256 (by decide +kernel), List.forall_mem_cons.mpr ⟨lwT 257 (by decide +kernel), List.forall_mem_cons.mpr ⟨lwT 258 (by decide +kernel), List.forall_mem_cons.mpr ⟨lwT 259 (by decide +kernel), List.forall_mem_cons.mpr ⟨lwT 260 (by decide +kernel), List.forall_mem_cons.mpr ⟨lwT 261 (by decide +kernel), List.forall_mem_cons.mpr ⟨lwT 262 (by decide +kernel), List.forall_mem_cons.mpr ⟨lwT 263 (by decide +kernel), List.forall_mem_cons.mpr ⟨lwT 264 (by decide +kernel), List.forall_mem_cons.mpr ⟨lwT 265 (by decide +kernel), fun _ h => absurd h List.not_mem_nil⟩⟩⟩⟩⟩⟩⟩⟩⟩⟩⟩⟩⟩⟩⟩⟩⟩⟩⟩⟩⟩⟩⟩⟩
theorem wli_13 : ∀ w ∈ wsL_law_r13, w ∈ lw_tbl := List.forall_mem_cons.mpr ⟨lwT 266 (by decide +kernel), List.forall_mem_cons.mpr ⟨lwT 267 (by decide +kernel), List.forall_mem_cons.mpr ⟨lwT 268 (by decide +kernel), List.forall_mem_cons.mpr ⟨lwT 269 (by decide +kernel), List.forall_mem_cons.mpr ⟨lwT 270 (by decide +kernel), List.forall_mem_cons.mpr ⟨lwT 271 (by decide +kernel), List.forall_mem_cons.mpr ⟨lwT 272 (by decide +kernel), List.forall_mem_cons.mpr ⟨lwT 273 (by decide +kernel), List.forall_mem_cons.mpr ⟨lwT 274 (by decide +kernel), List.forall_mem_cons.mpr ⟨lwT 275 (by decide +kernel), List.forall_mem_cons.mpr ⟨lwT 276 (by decide +kernel), List.forall_mem_cons.mpr ⟨lwT 666 (by decide +kernel), List.forall_mem_cons.mpr ⟨lwT 667 (by decide +kernel), List.forall_mem_cons.mpr ⟨lwT 668 (by decide +kernel), List.forall_mem_cons.mpr ⟨lwT 669 (by decide +kernel), List.forall_mem_cons.mpr ⟨lwT 670 (by decide +kernel), List.forall_mem_cons.mpr ⟨lwT 672 (by decide +kernel), List.forall_mem_cons.mpr ⟨lwS 18 (by decide +kernel), List.forall_mem_cons.mpr ⟨lwT 673 (by decide +kernel), List.forall_mem_cons.mpr ⟨lwT 674 (by decide +kernel), List.forall_mem_cons.mpr ⟨lwT 676 (by decide +kernel), List.forall_mem_cons.mpr ⟨lwS 19 (by decide +kernel), List.forall_mem_cons.mpr ⟨lwT 677 (by decide +kernel), List.forall_mem_cons.mpr ⟨lwT 277 (by decide +kernel), fun _ h => absurd h List.not_mem_nil⟩⟩⟩⟩⟩⟩⟩⟩⟩⟩⟩⟩⟩⟩⟩⟩⟩⟩⟩⟩⟩⟩⟩⟩
theorem wli_14 : ∀ w ∈ wsL_law_r14, w ∈ lw_tbl := List.forall_mem_cons.mpr ⟨lwT 278 (by decide +kernel), List.forall_mem_cons.mpr ⟨lwT 279 (by decide +kernel), List.forall_mem_cons.mpr ⟨lwT 280 (by decide +kernel), List.forall_mem_cons.mpr ⟨lwT 281 (by decide +kernel), List.forall_mem_cons.mpr ⟨lwT 282 (by decide +kernel), List.forall_mem_cons.mpr ⟨lwT 283 (by decide +kernel), List.forall_mem_cons.mpr ⟨lwT 284 (by decide +kernel), List.forall_mem_cons.mpr ⟨lwT 285 (by decide +kernel), List.forall_mem_cons.mpr ⟨lwT 286 (by decide +kernel), List.forall_mem_cons.mpr ⟨lwT 287 (by decide +kernel), List.forall_mem_cons.mpr ⟨lwT 288 (by decide +kernel), List.forall_mem_cons.mpr ⟨lwT 289 (by decide +kernel), List.forall_mem_cons.mpr ⟨lwT 290 (by decide +kernel), List.forall_mem_cons.mpr ⟨lwT 291 (by decide +kernel), List.forall_mem_cons.mpr ⟨lwT 292 (by decide +kernel), List.forall_mem_cons.mpr ⟨lwT 293 (by decide +kernel), List.forall_mem_cons.mpr ⟨lwT 294 (by decide +kernel), List.forall_mem_cons.mpr ⟨lwT 295 (by decide +kernel), List.forall_mem_cons.mpr ⟨lwT 296 (by decide +kernel), List.forall_mem_cons.mpr ⟨lwT 297 (by decide +kernel), List.forall_mem_cons.mpr ⟨lwT 298 (by decide +kernel), List.forall_mem_cons.mpr ⟨lwT 299 (by decide +kernel), List.forall_mem_cons.mpr ⟨lwT 678 (by decide +kernel), List.forall_mem_cons.mpr ⟨lwT 679 (by decide +kernel), fun _ h => absurd h List.not_mem_nil⟩⟩⟩⟩⟩⟩⟩⟩⟩⟩⟩⟩⟩⟩⟩⟩⟩⟩⟩⟩⟩⟩⟩⟩
theorem wli_15 : ∀ w ∈ wsL_law_r15, w ∈ lw_tbl := List.forall_mem_cons.mpr ⟨lwT 680 (by decide +kernel), List.forall_mem_cons.mpr ⟨lwT 681 (by decide +kernel), List.forall_mem_cons.mpr ⟨lwT 682 (by decide +kernel), List.forall_mem_cons.mpr ⟨lwT 684 (by decide +kernel), List.forall_mem_cons.mpr ⟨lwS 20 (by decide +kernel), List.forall_mem_cons.mpr ⟨lwT 685 (by decide +kernel), List.forall_mem_cons.mpr ⟨lwT 686 (by decide +kernel), List.forall_mem_cons.mpr ⟨lwT 687 (by decide +kernel), List.forall_mem_cons.mpr ⟨lwT 689 (by decide +kernel), List.forall_mem_cons.mpr ⟨lwS 21 (by decide +kernel), List.forall_mem_cons.mpr ⟨lwT 690 (by decide +kernel), List.forall_mem_cons.mpr ⟨lwT 691 (by decide +kernel), List.forall_mem_cons.mpr ⟨lwT 693 (by decide +kernel), List.forall_mem_cons.mpr ⟨lwS 22 (by decide +kernel), List.forall_mem_cons.mpr ⟨lwT 694 (by decide +kernel), List.forall_mem_cons.mpr ⟨lwT 300 (by decide +kernel), List.forall_mem_cons.mpr ⟨lwT 301 (by decide +kernel), List.forall_mem_cons.mpr ⟨lwT 302 (by decide +kernel), List.forall_mem_cons.mpr ⟨lwT 303 (by decide +kernel), List.forall_mem_cons.mpr ⟨lwT 695 (by decide +kernel), List.forall_mem_cons.mpr ⟨lwT 696 (by decide +kernel), List.forall_mem_cons.mpr ⟨lwT 697 (by decide +kernel), List.forall_mem_cons.mpr ⟨lwT 698 (by decide +kernel), List.forall_mem_cons.mpr ⟨lwT 304 (by decide +kernel), fun _ h => absurd h List.not_mem_nil⟩⟩⟩⟩⟩⟩⟩⟩⟩⟩⟩⟩⟩⟩⟩⟩⟩⟩⟩⟩⟩⟩⟩⟩
theorem wli_16 : ∀ w ∈ wsL_law_r16, w ∈ lw_tbl := List.forall_mem_cons.mpr ⟨lwT 305 (by decide +kernel), List.forall_mem_cons.mpr ⟨lwT 306 (by decide +kernel), List.forall_mem_cons.mpr ⟨lwT 307 (by decide +kernel), List.forall_mem_cons.mpr ⟨lwT 308 (by decide +kernel), List.forall_mem_cons.mpr ⟨lwT 309 (by decide +kernel), List.forall_mem_cons.mpr ⟨lwT 310 (by decide +kernel), List.forall_mem_cons.mpr ⟨lwT 311 (by decide +kernel), List.forall_mem_cons.mpr ⟨lwT 312 (by decide +kernel), List.forall_mem_cons.mpr ⟨lwT 313 (by decide +kernel), List.forall_mem_cons.mpr ⟨lwT 314 (by decide +kernel), List.forall_mem_cons.mpr ⟨lwT 315 (by decide +kernel), List.forall_mem_cons.mpr ⟨lwT 317 (by decide +kernel), List.forall_mem_cons.mpr ⟨lwT 318 (by decide +kernel), List.forall_mem_cons.mpr ⟨lwT 319 (by decide +kernel), List.forall_mem_cons.mpr ⟨lwT 320 (by decide +kernel), List.forall_mem_cons.mpr ⟨lwT 321 (by decide +kernel), List.forall_mem_cons.mpr ⟨lwT 322 (by decide +kernel), List.forall_mem_cons.mpr ⟨lwT 324 (by decide +kernel), List.forall_mem_cons.mpr ⟨lwT 325 (by decide +kernel), List.forall_mem_cons.mpr ⟨lwT 326 (by decide +kernel), List.forall_mem_cons.mpr ⟨lwT 327 (by decide +kernel), List.forall_mem_cons.mpr ⟨lwT 328 (by decide +kernel), List.forall_mem_cons.mpr ⟨lwT 699 (by decide +kernel), List.forall_mem_cons.mpr ⟨lwT 700 (by decide +kernel), fun _ h => absurd h List.not_mem_nil⟩⟩⟩⟩⟩⟩⟩⟩⟩⟩⟩⟩⟩⟩⟩⟩⟩⟩⟩⟩⟩⟩⟩⟩
theorem wli_17 : ∀ w ∈ wsL_law_r17, w ∈ lw_tbl := List.forall_mem_cons.mpr ⟨lwT 701 (by decide +kernel), List.forall_mem_cons.mpr ⟨lwT 702 (by decide +kernel), List.forall_mem_cons.mpr ⟨lwT 703 (by decide +kernel), List.forall_mem_cons.mpr ⟨lwT 705 (by decide +kernel), List.forall_mem_cons.mpr ⟨lwS 23 (by decide +kernel), List.forall_mem_cons.mpr ⟨lwT 706 (by decide +kernel), List.forall_mem_cons.mpr ⟨lwT 707 (by decide +kernel), List.forall_mem_cons.mpr ⟨lwT 709 (by decide +kernel), List.forall_mem_cons.mpr ⟨lwS 24 (by decide +kernel), List.forall_mem_cons.mpr ⟨lwT 710 (by decide +kernel), List.forall_mem_cons.mpr ⟨lwT 711 (by decide +kernel), List.forall_mem_cons.mpr ⟨lwT 713 (by decide +kernel), List.forall_mem_cons.mpr ⟨lwS 25 (by decide +kernel), List.forall_mem_cons.mpr ⟨lwT 714 (by decide +kernel), List.forall_mem_cons.mpr ⟨lwT 715 (by decide +kernel), List.forall_mem_cons.mpr ⟨lwT 717 (by decide +kernel), List.forall_mem_cons.mpr ⟨lwS 26 (by decide +kernel), List.forall_mem_cons.mpr ⟨lwT 718 (by decide +kernel), List.forall_mem_cons.mpr ⟨lwT 331 (by decide +kernel), List.forall_mem_cons.mpr ⟨lwT 332 (by decide +kernel), List.forall_mem_cons.mpr ⟨lwT 333 (by decide +kernel), List.forall_mem_cons.mpr ⟨lwT 334 (by decide +kernel), List.forall_mem_cons.mpr ⟨lwT 335 (by decide +kernel), List.forall_mem_cons.mpr ⟨lwT 336 (by decide +kernel), fun _ h => absurd h List.not_mem_nil⟩⟩⟩⟩⟩⟩⟩⟩⟩⟩⟩⟩⟩⟩⟩⟩⟩⟩⟩⟩⟩⟩⟩⟩
theorem wli_18 : ∀ w ∈ wsL_law_r18, w ∈ lw_tbl := List.forall_mem_cons.mpr ⟨lwT 337 (by decide +kernel), List.forall_mem_cons.mpr ⟨lwT 338 (by decide +kernel), List.forall_mem_cons.mpr ⟨lwT 339 (by decide +kernel), List.forall_mem_cons.mpr ⟨lwT 340 (by decide +kernel), List.forall_mem_cons.mpr ⟨lwT 719 (by decide +kernel), List.forall_mem_cons.mpr ⟨lwT 720 (by decide +kernel), List.forall_mem_cons.mpr ⟨lwT 721 (by decide +kernel), List.forall_mem_cons.mpr ⟨lwT 722 (by decide +kernel), List.forall_mem_cons.mpr ⟨lwT 341 (by decide +kernel), List.forall_mem_cons.mpr ⟨lwT 342 (by decide +kernel), List.forall_mem_cons.mpr ⟨lwT 343 (by decide +kernel), List.forall_mem_cons.mpr ⟨lwT 344 (by decide +kernel), List.forall_mem_cons.mpr ⟨lwT 723 (by decide +kernel), List.forall_mem_cons.mpr ⟨lwT 724 (by decide +kernel), List.forall_mem_cons.mpr ⟨lwT 725 (by decide +kernel), List.forall_mem_cons.mpr ⟨lwT 726 (by decide +kernel), List.forall_mem_cons.mpr ⟨lwT 345 (by decide +kernel), List.forall_mem_cons.mpr ⟨lwT 346 (by decide +kernel), List.forall_mem_cons.mpr ⟨lwT 347 (by decide +kernel), List.forall_mem_cons.mpr ⟨lwT 348 (by decide +kernel), List.forall_mem_cons.mpr ⟨lwT 349 (by decide +kernel), List.forall_mem_cons.mpr ⟨lwT 350 (by decide +kernel), List.forall_mem_cons.mpr ⟨lwT 351 (by decide +kernel), List.forall_mem_cons.mpr ⟨lwT 352 (by decide +kernel), fun _ h => absurd h List.not_mem_nil⟩⟩⟩⟩⟩⟩⟩⟩⟩⟩⟩⟩⟩⟩⟩⟩⟩⟩⟩⟩⟩⟩⟩⟩
theorem wli_19 : ∀ w ∈ wsL_law_r19, w ∈ lw_tbl := List.forall_mem_cons.mpr ⟨lwT 353 (by decide +kernel), List.forall_mem_cons.mpr ⟨lwT 354 (by decide +kernel), List.forall_mem_cons.mpr ⟨lwT 355 (by decide +kernel), List.forall_mem_cons.mpr ⟨lwT 356 (by decide +kernel), List.forall_mem_cons.mpr ⟨lwT 357 (by decide +kernel), List.forall_mem_cons.mpr ⟨lwT 727 (by decide +kernel), List.forall_mem_cons.mpr ⟨lwT 728 (by decide +kernel), List.forall_mem_cons.mpr ⟨lwT 729 (by decide +kernel), List.forall_mem_cons.mpr ⟨lwT 730 (by decide +kernel), List.forall_mem_cons.mpr ⟨lwT 573 (by decide +kernel), List.forall_mem_cons.mpr ⟨lwT 358 (by decide +kernel), List.forall_mem_cons.mpr ⟨lwT 359 (by decide +kernel), List.forall_mem_cons.mpr ⟨lwT 360 (by decide +kernel), List.forall_mem_cons.mpr ⟨lwT 361 (by decide +kernel), List.forall_mem_cons.mpr ⟨lwT 362 (by decide +kernel), List.forall_mem_cons.mpr ⟨lwT 363 (by decide +kernel), List.forall_mem_cons.mpr ⟨lwT 364 (by decide +kernel), List.forall_mem_cons.mpr ⟨lwT 365 (by decide +kernel), List.forall_mem_cons.mpr ⟨lwT 731 (by decide +kernel), List.forall_mem_cons.mpr ⟨lwT 732 (by decide +kernel), List.forall_mem_cons.mpr ⟨lwT 733 (by decide +kernel), List.forall_mem_cons.mpr ⟨lwT 734 (by decide +kernel), List.forall_mem_cons.mpr ⟨lwT 366 (by decide +kernel), List.forall_mem_cons.mpr ⟨lwT 367 (by decide +kernel), fun _ h => absurd h List.not_mem_nil⟩⟩⟩⟩⟩⟩⟩⟩⟩⟩⟩⟩⟩⟩⟩⟩⟩⟩⟩⟩⟩⟩⟩⟩
theorem wli_20 : ∀ w ∈ wsL_law_r20, w ∈ lw_tbl := List.forall_mem_cons.mpr ⟨lwT 368 (by decide +kernel), List.forall_mem_cons.mpr ⟨lwT 369 (by decide +kernel), List.forall_mem_cons.mpr ⟨lwT 370 (by decide +kernel), List.forall_mem_cons.mpr ⟨lwT 371 (by decide +kernel), List.forall_mem_cons.mpr ⟨lwT 372 (by decide +kernel), List.forall_mem_cons.mpr ⟨lwT 373 (by decide +kernel), List.forall_mem_cons.mpr ⟨lwT 374 (by decide +kernel), List.forall_mem_cons.mpr ⟨lwT 375 (by decide +kernel), List.forall_mem_cons.mpr ⟨lwT 376 (by decide +kernel), List.forall_mem_cons.mpr ⟨lwT 377 (by decide +kernel), List.forall_mem_cons.mpr ⟨lwT 378 (by decide +kernel), List.forall_mem_cons.mpr ⟨lwT 379 (by decide +kernel), List.forall_mem_cons.mpr ⟨lwT 380 (by decide +kernel), List.forall_mem_cons.mpr ⟨lwT 381 (by decide +kernel), List.forall_mem_cons.mpr ⟨lwT 384 (by decide +kernel), List.forall_mem_cons.mpr ⟨lwT 385 (by decide +kernel), List.forall_mem_cons.mpr ⟨lwT 386 (by decide +kernel), List.forall_mem_cons.mpr ⟨lwT 387 (by decide +kernel), List.forall_mem_cons.mpr ⟨lwT 388 (by decide +kernel), List.forall_mem_cons.mpr ⟨lwT 389 (by decide +kernel), List.forall_mem_cons.mpr ⟨lwT 390 (by decide +kernel), List.forall_mem_cons.mpr ⟨lwT 391 (by decide +kernel), List.forall_mem_cons.mpr ⟨lwT 392 (by decide +kernel), List.forall_mem_cons.mpr ⟨lwT 393 (by decide +kernel), fun _ h => absurd h List.not_mem_nil⟩⟩⟩⟩⟩⟩⟩⟩⟩⟩⟩⟩⟩⟩⟩⟩⟩⟩⟩⟩⟩⟩⟩⟩
theorem wli_21 : ∀ w ∈ wsL_law_r21, w ∈ lw_tbl := List.forall_mem_cons.mpr ⟨lwT 735 (by decide +kernel), List.forall_mem_cons.mpr ⟨lwT 736 (by decide +kernel), List.forall_mem_cons.mpr ⟨lwT 737 (by decide +kernel), List.forall_mem_cons.mpr ⟨lwT 738 (by decide +kernel), List.forall_mem_cons.mpr ⟨lwT 575 (by decide +kernel), List.forall_mem_cons.mpr ⟨lwT 739 (by decide +kernel), List.forall_mem_cons.mpr ⟨lwT 741 (by decide +kernel), List.forall_mem_cons.mpr ⟨lwS 27 (by decide +kernel), List.forall_mem_cons.mpr ⟨lwT 742 (by decide +kernel), List.forall_mem_cons.mpr ⟨lwT 574 (by decide +kernel), List.forall_mem_cons.mpr ⟨lwT 743 (by decide +kernel), List.forall_mem_cons.mpr ⟨lwT 745 (by decide +kernel), List.forall_mem_cons.mpr ⟨lwS 28 (by decide +kernel), List.forall_mem_cons.mpr ⟨lwT 746 (by decide +kernel), List.forall_mem_cons.mpr ⟨lwT 747 (by decide +kernel), List.forall_mem_cons.mpr ⟨lwT 748 (by decide +kernel), List.forall_mem_cons.mpr ⟨lwT 749 (by decide +kernel), List.forall_mem_cons.mpr ⟨lwT 751 (by decide +kernel), List.forall_mem_cons.mpr ⟨lwS 29 (by decide +kernel), List.forall_mem_cons.mpr ⟨lwT 752 (by decide +kernel), List.forall_mem_cons.mpr ⟨lwT 753 (by decide +kernel), List.forall_mem_cons.mpr ⟨lwT 755 (by decide +kernel), List.forall_mem_cons.mpr ⟨lwS 30 (by decide +kernel), List.forall_mem_cons.mpr ⟨lwT 756 (by decide +kernel), fun _ h => absurd h List.not_mem_nil⟩⟩⟩⟩⟩⟩⟩⟩⟩⟩⟩⟩⟩⟩⟩⟩⟩⟩⟩⟩⟩⟩⟩⟩
theorem wli_22 : ∀ w ∈ wsL_law_r22, w ∈ lw_tbl := List.forall_mem_cons.mpr ⟨lwT 394 (by decide +kernel), List.forall_mem_cons.mpr ⟨lwT 395 (by decide +kernel), List.forall_mem_cons.mpr ⟨lwT 396 (by decide +kernel), List.forall_mem_cons.mpr ⟨lwT 397 (by decide +kernel), List.forall_mem_cons.mpr ⟨lwT 398 (by decide +kernel), List.forall_mem_cons.mpr ⟨lwT 399 (by decide +kernel), List.forall_mem_cons.mpr ⟨lwT 400 (by decide +kernel), List.forall_mem_cons.mpr ⟨lwT 401 (by decide +kernel), List.forall_mem_cons.mpr ⟨lwT 402 (by decide +kernel), List.forall_mem_cons.mpr ⟨lwT 403 (by decide +kernel), List.forall_mem_cons.mpr ⟨lwT 404 (by decide +kernel), List.forall_mem_cons.mpr ⟨lwT 405 (by decide +kernel), List.forall_mem_cons.mpr ⟨lwT 406 (by decide +kernel), List.forall_mem_cons.mpr ⟨lwT 407 (by decide +kernel), List.forall_mem_cons.mpr ⟨lwT 408 (by decide +kernel), List.forall_mem_cons.mpr ⟨lwT 409 (by decide +kernel), List.forall_mem_cons.mpr ⟨lwT 757 (by decide +kernel), List.forall_mem_cons.mpr ⟨lwT 758 (by decide +kernel), List.forall_mem_cons.mpr ⟨lwT 759 (by decide +kernel), List.forall_mem_cons.mpr ⟨lwT 760 (by decide +kernel), List.forall_mem_cons.mpr ⟨lwT 410 (by decide +kernel), List.forall_mem_cons.mpr ⟨lwT 411 (by decide +kernel), List.forall_mem_cons.mpr ⟨lwT 412 (by decide +kernel), List.forall_mem_cons.mpr ⟨lwT 413 (by decide +kernel), fun _ h => absurd h List.not_mem_nil⟩⟩⟩⟩⟩⟩⟩⟩⟩⟩⟩⟩⟩⟩⟩⟩⟩⟩⟩⟩⟩⟩⟩⟩
theorem wli_23 : ∀ w ∈ wsL_law_r23, w ∈ lw_tbl := List.forall_mem_cons.mpr ⟨lwT 414 (by decide +kernel), List.forall_mem_cons.mpr ⟨lwT 415 (by decide +kernel), List.forall_mem_cons.mpr ⟨lwT 416 (by decide +kernel), List.forall_mem_cons.mpr ⟨lwT 417 (by decide +kernel), List.forall_mem_cons.mpr ⟨lwT 418 (by decide +kernel), List.forall_mem_cons.mpr ⟨lwT 419 (by decide +kernel), List.forall_mem_cons.mpr ⟨lwT 761 (by decide +kernel), List.forall_mem_cons.mpr ⟨lwT 762 (by decide +kernel), List.forall_mem_cons.mpr ⟨lwT 763 (by decide +kernel), List.forall_mem_cons.mpr ⟨lwT 764 (by decide +kernel), List.forall_mem_cons.mpr ⟨lwT 570 (by decide +kernel), List.forall_mem_cons.mpr ⟨lwT 765 (by decide +kernel), List.forall_mem_cons.mpr ⟨lwT 767 (by decide +kernel), List.forall_mem_cons.mpr ⟨lwS 31 (by decide +kernel), List.forall_mem_cons.mpr ⟨lwT 768 (by decide +kernel), List.forall_mem_cons.mpr ⟨lwT 420 (by decide +kernel), List.forall_mem_cons.mpr ⟨lwT 421 (by decide +kernel), List.forall_mem_cons.mpr ⟨lwT 422 (by decide +kernel), List.forall_mem_cons.mpr ⟨lwT 423 (by decide +kernel), List.forall_mem_cons.mpr ⟨lwT 424 (by decide +kernel), List.forall_mem_cons.mpr ⟨lwT 769 (by decide +kernel), List.forall_mem_cons.mpr ⟨lwT 770 (by decide +kernel), List.forall_mem_cons.mpr ⟨lwT 771 (by decide +kernel), List.forall_mem_cons.mpr ⟨lwT 772 (by decide +kernel), fun _ h => absurd h List.not_mem_nil⟩⟩⟩⟩⟩⟩⟩⟩⟩⟩⟩⟩⟩⟩⟩⟩⟩⟩⟩⟩⟩⟩⟩⟩
theorem wli_24 : ∀ w ∈ wsL_law_r24, w ∈ lw_tbl := List.forall_mem_cons.mpr ⟨lwT 425 (by decide +kernel), List.forall_mem_cons.mpr ⟨lwT 426 (by decide +kernel), List.forall_mem_cons.mpr ⟨lwT 427 (by decide +kernel), List.forall_mem_cons.mpr ⟨lwT 428 (by decide +kernel), List.forall_mem_cons.mpr ⟨lwT 429 (by decide +kernel), List.forall_mem_cons.mpr ⟨lwT 430 (by decide +kernel), List.forall_mem_cons.mpr ⟨lwT 431 (by decide +kernel), List.forall_mem_cons.mpr ⟨lwT 432 (by decide +kernel), List.forall_mem_cons.mpr ⟨lwT 773 (by decide +kernel), List.forall_mem_cons.mpr ⟨lwT 774 (by decide +kernel), List.forall_mem_cons.mpr ⟨lwT 775 (by decide +kernel), List.forall_mem_cons.mpr ⟨lwT 776 (by decide +kernel), List.forall_mem_cons.mpr ⟨lwT 777 (by decide +kernel), List.forall_mem_cons.mpr ⟨lwT 779 (by decide +kernel), List.forall_mem_cons.mpr ⟨lwS 32 (by decide +kernel), List.forall_mem_cons.mpr ⟨lwT 780 (by decide +kernel), List.forall_mem_cons.mpr ⟨lwT 433 (by decide +kernel), List.forall_mem_cons.mpr ⟨lwT 434 (by decide +kernel), List.forall_mem_cons.mpr ⟨lwT 435 (by decide +kernel), List.forall_mem_cons.mpr ⟨lwT 436 (by decide +kernel), List.forall_mem_cons.mpr ⟨lwT 437 (by decide +kernel), List.forall_mem_cons.mpr ⟨lwT 438 (by decide +kernel), List.forall_mem_cons.mpr ⟨lwT 439 (by decide +kernel), List.forall_mem_cons.mpr ⟨lwT 440 (by decide +kernel), fun _ h => absurd h List.not_mem_nil⟩⟩⟩⟩⟩⟩⟩⟩⟩⟩⟩⟩⟩⟩⟩⟩⟩⟩⟩⟩⟩⟩⟩⟩
theorem wli_25 : ∀ w ∈ wsL_law_r25, w ∈ lw_tbl := List.forall_mem_cons.mpr ⟨lwT 441 (by decide +kernel), List.forall_mem_cons.mpr ⟨lwT 442 (by decide +kernel), List.forall_mem_cons.mpr ⟨lwT 443 (by decide +kernel), List.forall_mem_cons.mpr ⟨lwT 444 (by decide +kernel), List.forall_mem_cons.mpr ⟨lwT 445 (by decide +kernel), List.forall_mem_cons.mpr ⟨lwT 446 (by decide +kernel), List.forall_mem_cons.mpr ⟨lwT 447 (by decide +kernel), List.forall_mem_cons.mpr ⟨lwT 449 (by decide +kernel), List.forall_mem_cons.mpr ⟨lwS 2 (by decide +kernel), List.forall_mem_cons.mpr ⟨lwT 450 (by decide +kernel), List.forall_mem_cons.mpr ⟨lwT 451 (by decide +kernel), List.forall_mem_cons.mpr ⟨lwT 452 (by decide +kernel), List.forall_mem_cons.mpr ⟨lwT 453 (by decide +kernel), List.forall_mem_cons.mpr ⟨lwT 454 (by decide +kernel), List.forall_mem_cons.mpr ⟨lwT 455 (by decide +kernel), List.forall_mem_cons.mpr ⟨lwT 456 (by decide +kernel), List.forall_mem_cons.mpr ⟨lwT 457 (by decide +kernel), List.forall_mem_cons.mpr ⟨lwT 458 (by decide +kernel), List.forall_mem_cons.mpr ⟨lwT 781 (by decide +kernel), List.forall_mem_cons.mpr ⟨lwT 782 (by decide +kernel), List.forall_mem_cons.mpr ⟨lwT 783 (by decide +kernel), List.forall_mem_cons.mpr ⟨lwT 784 (by decide +kernel), List.forall_mem_cons.mpr ⟨lwT 785 (by decide +kernel), List.forall_mem_cons.mpr ⟨lwT 787 (by decide +kernel), fun _ h => absurd h List.not_mem_nil⟩⟩⟩⟩⟩⟩⟩⟩⟩⟩⟩⟩⟩⟩⟩⟩⟩⟩⟩⟩⟩⟩⟩⟩
theorem wli_26 : ∀ w ∈ wsL_law_r26, w ∈ lw_tbl := List.forall_mem_cons.mpr ⟨lwS 33 (by decide +kernel), List.forall_mem_cons.mpr ⟨lwT 788 (by decide +kernel), List.forall_mem_cons.mpr ⟨lwT 789 (by decide +kernel), List.forall_mem_cons.mpr ⟨lwT 791 (by decide +kernel), List.forall_mem_cons.mpr ⟨lwS 34 (by decide +kernel), List.forall_mem_cons.mpr ⟨lwT 792 (by decide +kernel), List.forall_mem_cons.mpr ⟨lwT 793 (by decide +kernel), List.forall_mem_cons.mpr ⟨lwT 795 (by decide +kernel), List.forall_mem_cons.mpr ⟨lwS 35 (by decide +kernel), List.forall_mem_cons.mpr ⟨lwT 796 (by decide +kernel), List.forall_mem_cons.mpr ⟨lwT 459 (by decide +kernel), List.forall_mem_cons.mpr ⟨lwT 460 (by decide +kernel), List.forall_mem_cons.mpr ⟨lwT 461 (by decide +kernel), List.forall_mem_cons.mpr ⟨lwT 462 (by decide +kernel), List.forall_mem_cons.mpr ⟨lwT 463 (by decide +kernel), List.forall_mem_cons.mpr ⟨lwT 464 (by decide +kernel), List.forall_mem_cons.mpr ⟨lwT 465 (by decide +kernel), List.forall_mem_cons.mpr ⟨lwT 797 (by decide +kernel), List.forall_mem_cons.mpr ⟨lwT 798 (by decide +kernel), List.forall_mem_cons.mpr ⟨lwT 799 (by decide +kernel), List.forall_mem_cons.mpr ⟨lwT 800 (by decide +kernel), List.forall_mem_cons.mpr ⟨lwT 466 (by decide +kernel), List.forall_mem_cons.mpr ⟨lwT 467 (by decide +kernel), List.forall_mem_cons.mpr ⟨lwT 468 (by decide +kernel), fun _ h => absurd h List.not_mem_nil⟩⟩⟩⟩⟩⟩⟩⟩⟩⟩⟩⟩⟩⟩⟩⟩⟩⟩⟩⟩⟩⟩⟩⟩
theorem wli_27 : ∀ w ∈ wsL_law_r27, w ∈ lw_tbl := List.forall_mem_cons.mpr ⟨lwT 469 (by decide +kernel), List.forall_mem_cons.mpr ⟨lwT 801 (by decide +kernel), List.forall_mem_cons.mpr ⟨lwT 802 (by decide +kernel), List.forall_mem_cons.mpr ⟨lwT 803 (by decide +kernel), List.forall_mem_cons.mpr ⟨lwT 804 (by decide +kernel), List.forall_mem_cons.mpr ⟨lwT 470 (by decide +kernel), List.forall_mem_cons.mpr ⟨lwT 471 (by decide +kernel), List.forall_mem_cons.mpr ⟨lwT 472 (by decide +kernel), List.forall_mem_cons.mpr ⟨lwT 473 (by decide +kernel), List.forall_mem_cons.mpr ⟨lwT 474 (by decide +kernel), List.forall_mem_cons.mpr ⟨lwT 475 (by decide +kernel), List.forall_mem_cons.mpr ⟨lwT 476 (by decide +kernel), List.forall_mem_cons.mpr ⟨lwT 477 (by decide +kernel), List.forall_mem_cons.mpr ⟨lwT 478 (by decide +kernel), List.forall_mem_cons.mpr ⟨lwT 479 (by decide +kernel), List.forall_mem_cons.mpr ⟨lwT 481 (by decide +kernel), List.forall_mem_cons.mpr ⟨lwS 3 (by decide +kernel), List.forall_mem_cons.mpr ⟨lwT 482 (by decide +kernel), List.forall_mem_cons.mpr ⟨lwT 483 (by decide +kernel), List.forall_mem_cons.mpr ⟨lwT 484 (by decide +kernel), List.forall_mem_cons.mpr ⟨lwT 485 (by decide +kernel), List.forall_mem_cons.mpr ⟨lwT 486 (by decide +kernel), List.forall_mem_cons.mpr ⟨lwT 487 (by decide +kernel), List.forall_mem_cons.mpr ⟨lwT 489 (by decide +kernel), fun _ h => absurd h List.not_mem_nil⟩⟩⟩⟩⟩⟩⟩⟩⟩⟩⟩⟩⟩⟩⟩⟩⟩⟩⟩⟩⟩⟩⟩⟩
theorem wli_28 : ∀ w ∈ wsL_law_r28, w ∈ lw_tbl := List.forall_mem_cons.mpr ⟨lwS 4 (by decide +kernel), List.forall_mem_cons.mpr ⟨lwT 490 (by decide +kernel), List.forall_mem_cons.mpr ⟨lwT 491 (by decide +kernel), List.forall_mem_cons.mpr ⟨lwT 493 (by decide +kernel), List.forall_mem_cons.mpr ⟨lwS 5 (by decide +kernel), List.forall_mem_cons.mpr ⟨lwT 494 (by decide +kernel), List.forall_mem_cons.mpr ⟨lwT 495 (by decide +kernel), List.forall_mem_cons.mpr ⟨lwT 496 (by decide +kernel), List.forall_mem_cons.mpr ⟨lwT 497 (by decide +kernel), List.forall_mem_cons.mpr ⟨lwT 805 (by decide +kernel), List.forall_mem_cons.mpr ⟨lwT 806 (by decide +kernel), List.forall_mem_cons.mpr ⟨lwT 807 (by decide +kernel), List.forall_mem_cons.mpr ⟨lwT 808 (by decide +kernel), List.forall_mem_cons.mpr ⟨lwT 498 (by decide +kernel), List.forall_mem_cons.mpr ⟨lwT 499 (by decide +kernel), List.forall_mem_cons.mpr ⟨lwT 500 (by decide +kernel), List.forall_mem_cons.mpr ⟨lwT 501 (by decide +kernel), List.forall_mem_cons.mpr ⟨lwT 502 (by decide +kernel), List.forall_mem_cons.mpr ⟨lwT 503 (by decide +kernel), List.forall_mem_cons.mpr ⟨lwT 504 (by decide +kernel), List.forall_mem_cons.mpr ⟨lwT 505 (by decide +kernel), List.forall_mem_cons.mpr ⟨lwT 506 (by decide +kernel), List.forall_mem_cons.mpr ⟨lwT 508 (by decide +kernel), List.forall_mem_cons.mpr ⟨lwS 6 (by decide +kernel), fun _ h => absurd h List.not_mem_nil⟩⟩⟩⟩⟩⟩⟩⟩⟩⟩⟩⟩⟩⟩⟩⟩⟩⟩⟩⟩⟩⟩⟩⟩
theorem wli_29 : ∀ w ∈ wsL_law_r29, w ∈ lw_tbl := List.forall_mem_cons.mpr ⟨lwT 509 (by decide +kernel), List.forall_mem_cons.mpr ⟨lwT 510 (by decide +kernel), List.forall_mem_cons.mpr ⟨lwT 511 (by decide +kernel), List.forall_mem_cons.mpr ⟨lwT 513 (by decide +kernel), List.forall_mem_cons.mpr ⟨lwS 7 (by decide +kernel), List.forall_mem_cons.mpr ⟨lwT 514 (by decide +kernel), List.forall_mem_cons.mpr ⟨lwT 515 (by decide +kernel), List.forall_mem_cons.mpr ⟨lwT 516 (by decide +kernel), List.forall_mem_cons.mpr ⟨lwT 517 (by decide +kernel), List.forall_mem_cons.mpr ⟨lwT 518 (by decide +kernel), List.forall_mem_cons.mpr ⟨lwT 519 (by decide +kernel), List.forall_mem_cons.mpr ⟨lwT 520 (by decide +kernel), List.forall_mem_cons.mpr ⟨lwT 809 (by decide +kernel), List.forall_mem_cons.mpr ⟨lwT 810 (by decide +kernel), List.forall_mem_cons.mpr ⟨lwT 811 (by decide +kernel), List.forall_mem_cons.mpr ⟨lwT 812 (by decide +kernel), List.forall_mem_cons.mpr ⟨lwT 813 (by decide +kernel), List.forall_mem_cons.mpr ⟨lwT 814 (by decide +kernel), List.forall_mem_cons.mpr ⟨lwT 816 (by decide +kernel), List.forall_mem_cons.mpr ⟨lwS 36 (by decide +kernel), List.forall_mem_cons.mpr ⟨lwT 817 (by decide +kernel), List.forall_mem_cons.mpr ⟨lwT 818 (by decide +kernel), List.forall_mem_cons.mpr ⟨lwT 820 (by decide +kernel), List.forall_mem_cons.mpr ⟨lwS 37 (by decide +kernel), fun _ h => absurd h List.not_mem_nil⟩⟩⟩⟩⟩⟩⟩⟩⟩⟩⟩⟩⟩⟩⟩⟩⟩⟩⟩⟩⟩⟩⟩⟩
theorem wli_30 : ∀ w ∈ wsL_law_r30, w ∈ lw_tbl := List.forall_mem_cons.mpr ⟨lwT 821 (by decide +kernel), List.forall_mem_cons.mpr ⟨lwT 822 (by decide +kernel), List.forall_mem_cons.mpr ⟨lwT 824 (by decide +kernel), List.forall_mem_cons.mpr ⟨lwS 38 (by decide +kernel), List.forall_mem_cons.mpr ⟨lwT 825 (by decide +kernel), List.forall_mem_cons.mpr ⟨lwT 522 (by decide +kernel), List.forall_mem_cons.mpr ⟨lwT 523 (by decide +kernel), List.forall_mem_cons.mpr ⟨lwT 524 (by decide +kernel), List.forall_mem_cons.mpr ⟨lwT 525 (by decide +kernel), List.forall_mem_cons.mpr ⟨lwT 826 (by decide +kernel), List.forall_mem_cons.mpr ⟨lwT 827 (by decide +kernel), List.forall_mem_cons.mpr ⟨lwT 828 (by decide +kernel), List.forall_mem_cons.mpr ⟨lwT 829 (by decide +kernel), List.forall_mem_cons.mpr ⟨lwT 526 (by decide +kernel), List.forall_mem_cons.mpr ⟨lwT 527 (by decide +kernel), List.forall_mem_cons.mpr ⟨lwT 528 (by decide +kernel), List.forall_mem_cons.mpr ⟨lwT 529 (by decide +kernel), List.forall_mem_cons.mpr ⟨lwT 530 (by decide +kernel), List.forall_mem_cons.mpr ⟨lwT 531 (by decide +kernel), List.forall_mem_cons.mpr ⟨lwT 532 (by decide +kernel), List.forall_mem_cons.mpr ⟨lwT 533 (by decide +kernel), List.forall_mem_cons.mpr ⟨lwT 534 (by decide +kernel), List.forall_mem_cons.mpr ⟨lwT 535 (by decide +kernel), List.forall_mem_cons.mpr ⟨lwT 536 (by decide +kernel), fun _ h => absurd h List.not_mem_nil⟩⟩⟩⟩⟩⟩⟩⟩⟩⟩⟩⟩⟩⟩⟩⟩⟩⟩⟩⟩⟩⟩⟩⟩
theorem wli_31 : ∀ w ∈ wsL_law_r31, w ∈ lw_tbl := List.forall_mem_cons.mpr ⟨lwT 537 (by decide +kernel), List.forall_mem_cons.mpr ⟨lwT 538 (by decide +kernel), List.forall_mem_cons.mpr ⟨lwT 539 (by decide +kernel), List.forall_mem_cons.mpr ⟨lwT 540 (by decide +kernel), List.forall_mem_cons.mpr ⟨lwT 541 (by decide +kernel), List.forall_mem_cons.mpr ⟨lwT 542 (by decide +kernel), List.forall_mem_cons.mpr ⟨lwT 543 (by decide +kernel), List.forall_mem_cons.mpr ⟨lwT 544 (by decide +kernel), List.forall_mem_cons.mpr ⟨lwT 545 (by decide +kernel), List.forall_mem_cons.mpr ⟨lwT 546 (by decide +kernel), List.forall_mem_cons.mpr ⟨lwT 547 (by decide +kernel), List.forall_mem_cons.mpr ⟨lwT 548 (by decide +kernel), List.forall_mem_cons.mpr ⟨lwT 549 (by decide +kernel), List.forall_mem_cons.mpr ⟨lwT 550 (by decide +kernel), List.forall_mem_cons.mpr ⟨lwT 551 (by decide +kernel), List.forall_mem_cons.mpr ⟨lwT 552 (by decide +kernel), List.forall_mem_cons.mpr ⟨lwT 553 (by decide +kernel), List.forall_mem_cons.mpr ⟨lwT 554 (by decide +kernel), List.forall_mem_cons.mpr ⟨lwT 555 (by decide +kernel), List.forall_mem_cons.mpr ⟨lwT 556 (by decide +kernel), List.forall_mem_cons.mpr ⟨lwT 557 (by decide +kernel), List.forall_mem_cons.mpr ⟨lwT 558 (by decide +kernel), List.forall_mem_cons.mpr ⟨lwT 830 (by decide +kernel), List.forall_mem_cons.mpr ⟨lwT 831 (by decide +kernel), fun _ h => absurd h List.not_mem_nil⟩⟩⟩⟩⟩⟩⟩⟩⟩⟩⟩⟩⟩⟩⟩⟩⟩⟩⟩⟩⟩⟩⟩⟩
theorem wli_32 : ∀ w ∈ wsL_law_r32, w ∈ lw_tbl := List.forall_mem_cons.mpr ⟨lwT 832 (by decide +kernel), List.forall_mem_cons.mpr ⟨lwT 833 (by decide +kernel), List.forall_mem_cons.mpr ⟨lwT 834 (by decide +kernel), List.forall_mem_cons.mpr ⟨lwT 836 (by decide +kernel), List.forall_mem_cons.mpr ⟨lwS 39 (by decide +kernel), List.forall_mem_cons.mpr ⟨lwT 837 (by decide +kernel), List.forall_mem_cons.mpr ⟨lwT 838 (by decide +kernel), List.forall_mem_cons.mpr ⟨lwT 840 (by decide +kernel), List.forall_mem_cons.mpr ⟨lwS 40 (by decide +kernel), List.forall_mem_cons.mpr ⟨lwT 841 (by decide +kernel), fun _ h => absurd h List.not_mem_nil⟩⟩⟩⟩⟩⟩⟩⟩⟩⟩
theorem wlf_X60 : ∀ w ∈ wsX60, w ∈ lw_tbl := by decide +kernel
theorem wlf_X70 : ∀ w ∈ wsX70, w ∈ lw_tbl := by decide +kernel
theorem wlf_X40 : ∀ w ∈ wsX40, w ∈ lw_tbl := by decide +kernel
theorem wlf_X20 : ∀ w ∈ wsX20, w ∈ lw_tbl := by decide +kernel
theorem wlf_X00 : ∀ w ∈ wsX00, w ∈ lw_tbl := by decide +kernel
theorem wlf_X10 : ∀ w ∈ wsX10, w ∈ lw_tbl := by decide +kernel
theorem wlf_X50 : ∀ w ∈ wsX50, w ∈ lw_tbl := by decide +kernel
theorem wlf_X30 : ∀ w ∈ wsX30, w ∈ lw_tbl := by decide +kernel
theorem wsL_law_in : ∀ w ∈ wsL_law, w ∈ lw_tbl := List.forall_mem_append.mpr ⟨List.forall_mem_append.mpr ⟨List.forall_mem_append.mpr ⟨List.forall_mem_append.mpr ⟨List.forall_mem_append.mpr ⟨List.forall_mem_append.mpr ⟨List.forall_mem_append.mpr ⟨List.forall_mem_append.mpr ⟨List.forall_mem_append.mpr ⟨List.forall_mem_append.mpr ⟨wli_1, List.forall_mem_append.mpr ⟨wli_2, List.forall_mem_append.mpr ⟨wli_3, List.forall_mem_append.mpr ⟨wli_4, List.forall_mem_append.mpr ⟨wli_5, List.forall_mem_append.mpr ⟨wli_6, List.forall_mem_append.mpr ⟨wli_7, List.forall_mem_append.mpr ⟨wli_8, List.forall_mem_append.mpr ⟨wli_9, List.forall_mem_append.mpr ⟨wli_10, List.forall_mem_append.mpr ⟨wli_11, List.forall_mem_append.mpr ⟨wli_12, List.forall_mem_append.mpr ⟨wli_13, List.forall_mem_append.mpr ⟨wli_14, List.forall_mem_append.mpr ⟨wli_15, List.forall_mem_append.mpr ⟨wli_16, List.forall_mem_append.mpr ⟨wli_17, List.forall_mem_append.mpr ⟨wli_18, List.forall_mem_append.mpr ⟨wli_19, List.forall_mem_append.mpr ⟨wli_20, List.forall_mem_append.mpr ⟨wli_21, List.forall_mem_append.mpr ⟨wli_22, List.forall_mem_append.mpr ⟨wli_23, List.forall_mem_append.mpr ⟨wli_24, List.forall_mem_append.mpr ⟨wli_25, List.forall_mem_append.mpr ⟨wli_26, List.forall_mem_append.mpr ⟨wli_27, List.forall_mem_append.mpr ⟨wli_28, List.forall_mem_append.mpr ⟨wli_29, List.forall_mem_append.mpr ⟨wli_30, List.forall_mem_append.mpr ⟨wli_31, wli_32⟩⟩⟩⟩⟩⟩⟩⟩⟩⟩⟩⟩⟩⟩⟩⟩⟩⟩⟩⟩⟩⟩⟩⟩⟩⟩⟩⟩⟩⟩⟩, wlf_X60⟩, wlf_X70⟩, wlf_X40⟩, wlf_X20⟩, wlf_X00⟩, wlf_X10⟩, wlf_X50⟩, wlf_X30⟩, fun _ h => absurd h List.not_mem_nil⟩
theorem inlX0 : ∀ w ∈ wsX00, w ∈ wsL_law := fun _ h => List.mem_append_left _ (List.mem_append_left _ (List.mem_append_left _ (List.mem_append_left _ (List.mem_append_right _ h))))
theorem inX0 : ∀ w ∈ wsX00, w ∈ lw_tbl := fun w h => wsL_law_in w (inlX0 w h)
theorem inlX1 : ∀ w ∈ wsX10, w ∈ wsL_law := fun _ h => List.mem_append_left _ (List.mem_append_left _ (List.mem_append_left _ (List.mem_append_right _ h)))
theorem inX1 : ∀ w ∈ wsX10, w ∈ lw_tbl := fun w h => wsL_law_in w (inlX1 w h)
theorem inlX2 : ∀ w ∈ wsX20, w ∈ wsL_law := fun _ h => List.mem_append_left _ (List.mem_append_left _ (List.mem_append_left _ (List.mem_append_left _ (List.mem_append_left _ (List.mem_append_right _ h)))))
theorem inX2 : ∀ w ∈ wsX20, w ∈ lw_tbl := fun w h => wsL_law_in w (inlX2 w h)
theorem inlX3 : ∀ w ∈ wsX30, w ∈ wsL_law := fun _ h => List.mem_append_left _ (List.mem_append_right _ h)
theorem inX3 : ∀ w ∈ wsX30, w ∈ lw_tbl := fun w h => wsL_law_in w (inlX3 w h)
theorem inlX4 : ∀ w ∈ wsX40, w ∈ wsL_law := fun _ h => List.mem_append_left _ (List.mem_append_left _ (List.mem_append_left _ (List.mem_append_left _ (List.mem_append_left _ (List.mem_append_left _ (List.mem_append_right _ h))))))
theorem inX4 : ∀ w ∈ wsX40, w ∈ lw_tbl := fun w h => wsL_law_in w (inlX4 w h)
theorem inlX5 : ∀ w ∈ wsX50, w ∈ wsL_law := fun _ h => List.mem_append_left _ (List.mem_append_left _ (List.mem_append_right _ h))
theorem inX5 : ∀ w ∈ wsX50, w ∈ lw_tbl := fun w h => wsL_law_in w (inlX5 w h)
theorem inlX6 : ∀ w ∈ wsX60, w ∈ wsL_law := fun _ h => List.mem_append_left _ (List.mem_append_left _ (List.mem_append_left _ (List.mem_append_left _ (List.mem_append_left _ (List.mem_append_left _ (List.mem_append_left _ (List.mem_append_left _ (List.mem_append_right _ h))))))))
theorem inX6 : ∀ w ∈ wsX60, w ∈ lw_tbl := fun w h => wsL_law_in w (inlX6 w h)
theorem inlX7 : ∀ w ∈ wsX70, w ∈ wsL_law := fun _ h => List.mem_append_left _ (List.mem_append_left _ (List.mem_append_left _ (List.mem_append_left _ (List.mem_append_left _ (List.mem_append_left _ (List.mem_append_left _ (List.mem_append_right _ h)))))))
theorem inX7 : ∀ w ∈ wsX70, w ∈ lw_tbl := fun w h => wsL_law_in w (inlX7 w h)
theorem inJ9 : ∀ w ∈ wsJ90, w ∈ lw_tbl := by decide +kernel
theorem inJ10 : ∀ w ∈ wsJ100, w ∈ lw_tbl := by decide +kernel
abbrev vwCl : List vw_C := [(RX0, TX0, 4), (RX1, TX1, 3), (RX2, TX2, 1), (RX3, TX3, 1), (RX4, TX4, 1), (RX5, TX5, 2), (RX6, TX6, 8), (RX7, TX7, 14)]
end
section
set_option maxRecDepth 20000 in
theorem ggX0_init_X3_init : GoodIn wsX0_init wsX3_init := goodIn_r _ [13, 14, 2, 3, 15, 16, 21] (by decide +kernel) (by decide +kernel)
set_option maxRecDepth 20000 in
theorem gX0_init_X3_init : GoodIn wsX0_init (wsX3_init) := ggX0_init_X3_init
theorem dX0_init_0 : decode cX0_init 0 = .ok (.aload_n 0, 1) := by decide +kernel
theorem dX0_init_1 : decode cX0_init 1 = .ok (.invokespecial 3, 3) := by decide +kernel
theorem dX0_init_4 : decode cX0_init 4 = .ok (.aload_n 0, 1) := by decide +kernel
theorem dX0_init_5 : decode cX0_init 5 = .ok (.aload_n 1, 1) := by decide +kernel
theorem dX0_init_6 : decode cX0_init 6 = .ok (.putfield 9, 3) := by decide +kernel
theorem dX0_init_9 : decode cX0_init 9 = .ok (.aload_n 0, 1) := by decide +kernel
theorem dX0_init_10 : decode cX0_init 10 = .ok (.new 15, 3) := by decide +kernel
theorem dX0_init_13 : decode cX0_init 13 = .ok (.dup, 1) := by decide +kernel
theorem dX0_init_14 : decode cX0_init 14 = .ok (.bipush 20, 2) := by decide +kernel
theorem dX0_init_16 : decode cX0_init 16 = .ok (.invokespecial 17, 3) := by decide +kernel
theorem dX0_init_19 : decode cX0_init 19 = .ok (.putfield 20, 3) := by decide +kernel
theorem dX0_init_22 : decode cX0_init 22 = .ok (.aload_n 0, 1) := by decide +kernel
theorem dX0_init_23 : decode cX0_init 23 = .ok (.new 15, 3) := by decide +kernel
theorem dX0_init_26 : decode cX0_init 26 = .ok (.dup, 1) := by decide +kernel
theorem dX0_init_27 : decode cX0_init 27 = .ok (.bipush 20, 2) := by decide +kernel
theorem dX0_init_29 : decode cX0_init 29 = .ok (.invokespecial 17, 3) := by decide +kernel
theorem dX0_init_32 : decode cX0_init 32 = .ok (.putfield 24, 3) := by decide +kernel
theorem dX0_init_35 : decode cX0_init 35 = .ok (.aload_n 0, 1) := by decide +kernel
theorem dX0_init_36 : decode cX0_init 36 = .ok (.new 15, 3) := by decide +kernel
theorem dX0_init_39 : decode cX0_init 39 = .ok (.dup, 1) := by decide +kernel
theorem dX0_init_40 : decode cX0_init 40 = .ok (.bipush 20, 2) := by decide +kernel
theorem dX0_init_42 : decode cX0_init 42 = .ok (.invokespecial 17, 3) := by decide +kernel
theorem dX0_init_45 : decode cX0_init 45 = .ok (.putfield 27, 3) := by decide +kernel
theorem dX0_init_48 : decode cX0_init 48 = .ok (.return_, 1) := by decide +kernel
theorem dX0_holds_0 : decode cX0_holds 0 = .ok (.iload_n 0, 1) := by decide +kernel
theorem dX0_holds_1 : decode cX0_holds 1 = .ok (.iload_n 1, 1) := by decide +kernel
theorem dX0_holds_2 : decode cX0_holds 2 = .ok (.ishr, 1) := by decide +kernel
theorem dX0_holds_3 : decode cX0_holds 3 = .ok (.iconst 1, 1) := by decide +kernel
theorem dX0_holds_4 : decode cX0_holds 4 = .ok (.iand, 1) := by decide +kernel
theorem dX0_holds_5 : decode cX0_holds 5 = .ok (.iconst 1, 1) := by decide +kernel
theorem dX0_holds_6 : decode cX0_holds 6 = .ok (.if_icmp .ne 7, 3) := by decide +kernel
theorem dX0_holds_9 : decode cX0_holds 9 = .ok (.iconst 1, 1) := by decide +kernel
theorem dX0_holds_10 : decode cX0_holds 10 = .ok (.goto 4, 3) := by decide +kernel
theorem dX0_holds_13 : decode cX0_holds 13 = .ok (.iconst 0, 1) := by decide +kernel
theorem dX0_holds_14 : decode cX0_holds 14 = .ok (.ireturn, 1) := by decide +kernel
set_option maxRecDepth 20000 in
theorem ggX0_followersOf_X4_dollsToCut : GoodIn wsX0_followersOf wsX4_dollsToCut := goodIn_r _ [6, 7, 8, 9, 5, 10, 11, 12, 13, 14, 15, 16, 17, 43, 44] (by decide +kernel) (by decide +kernel)
set_option maxRecDepth 20000 in
theorem gX0_followersOf_X4_dollsToCut : GoodIn wsX0_followersOf (wsV RX0 30 RX4 yX4_dollsToCut wsX4_dollsToCut) := goodIn_app (goodIn_of _ (by decide +kernel)) ggX0_followersOf_X4_dollsToCut
set_option maxRecDepth 20000 in
theorem ggX0_followersOf_X4_clash : GoodIn wsX0_followersOf wsX4_clash := goodIn_r _ [21, 22, 23, 24, 5, 25, 11, 26, 27, 28, 29, 30, 12, 13, 14, 15, 16, 17, 31, 32, 33, 34, 35, 36, 37, 38, 43, 44] (by decide +kernel) (by decide +kernel)
set_option maxRecDepth 20000 in
theorem gX0_followersOf_X4_clash : GoodIn wsX0_followersOf (wsV RX0 36 RX4 yX4_clash wsX4_clash) := goodIn_app (goodIn_of _ (by decide +kernel)) ggX0_followersOf_X4_clash
theorem dX0_followersOf_0 : decode cX0_followersOf 0 = .ok (.aload_n 0, 1) := by decide +kernel
theorem dX0_followersOf_1 : decode cX0_followersOf 1 = .ok (.getfield 9, 3) := by decide +kernel
theorem dX0_followersOf_4 : decode cX0_followersOf 4 = .ok (.invokevirtual 30, 3) := by decide +kernel
theorem dX0_followersOf_7 : decode cX0_followersOf 7 = .ok (.istore_n 2, 1) := by decide +kernel
theorem dX0_followersOf_8 : decode cX0_followersOf 8 = .ok (.iconst 0, 1) := by decide +kernel
theorem dX0_followersOf_9 : decode cX0_followersOf 9 = .ok (.istore_n 3, 1) := by decide +kernel
theorem dX0_followersOf_10 : decode cX0_followersOf 10 = .ok (.iconst 0, 1) := by decide +kernel
theorem dX0_followersOf_11 : decode cX0_followersOf 11 = .ok (.istore 4, 2) := by decide +kernel
theorem dX0_followersOf_13 : decode cX0_followersOf 13 = .ok (.iload 4, 2) := by decide +kernel
theorem dX0_followersOf_15 : decode cX0_followersOf 15 = .ok (.iload_n 2, 1) := by decide +kernel
theorem dX0_followersOf_16 : decode cX0_followersOf 16 = .ok (.if_icmp .ge 29, 3) := by decide +kernel
theorem dX0_followersOf_19 : decode cX0_followersOf 19 = .ok (.aload_n 0, 1) := by decide +kernel
theorem dX0_followersOf_20 : decode cX0_followersOf 20 = .ok (.getfield 9, 3) := by decide +kernel
theorem dX0_followersOf_23 : decode cX0_followersOf 23 = .ok (.iload_n 1, 1) := by decide +kernel
theorem dX0_followersOf_24 : decode cX0_followersOf 24 = .ok (.iload 4, 2) := by decide +kernel
theorem dX0_followersOf_26 : decode cX0_followersOf 26 = .ok (.invokevirtual 36, 3) := by decide +kernel
theorem dX0_followersOf_29 : decode cX0_followersOf 29 = .ok (.ifCond .ne 10, 3) := by decide +kernel
theorem dX0_followersOf_32 : decode cX0_followersOf 32 = .ok (.iload_n 3, 1) := by decide +kernel
theorem dX0_followersOf_33 : decode cX0_followersOf 33 = .ok (.iconst 1, 1) := by decide +kernel
theorem dX0_followersOf_34 : decode cX0_followersOf 34 = .ok (.iload 4, 2) := by decide +kernel
theorem dX0_followersOf_36 : decode cX0_followersOf 36 = .ok (.ishl, 1) := by decide +kernel
theorem dX0_followersOf_37 : decode cX0_followersOf 37 = .ok (.ior, 1) := by decide +kernel
theorem dX0_followersOf_38 : decode cX0_followersOf 38 = .ok (.istore_n 3, 1) := by decide +kernel
theorem dX0_followersOf_39 : decode cX0_followersOf 39 = .ok (.iinc 4 1, 3) := by decide +kernel
theorem dX0_followersOf_42 : decode cX0_followersOf 42 = .ok (.goto (-29), 3) := by decide +kernel
theorem dX0_followersOf_45 : decode cX0_followersOf 45 = .ok (.iload_n 3, 1) := by decide +kernel
theorem dX0_followersOf_46 : decode cX0_followersOf 46 = .ok (.ireturn, 1) := by decide +kernel
set_option maxRecDepth 20000 in
theorem ggX0_leadersOf_X4_dollsToCut : GoodIn wsX0_leadersOf wsX4_dollsToCut := goodIn_r _ [6, 7, 8, 9, 5, 10, 11, 12, 13, 14, 15, 16, 17, 43, 44] (by decide +kernel) (by decide +kernel)
set_option maxRecDepth 20000 in
theorem gX0_leadersOf_X4_dollsToCut : GoodIn wsX0_leadersOf (wsV RX0 30 RX4 yX4_dollsToCut wsX4_dollsToCut) := goodIn_app (goodIn_of _ (by decide +kernel)) ggX0_leadersOf_X4_dollsToCut
set_option maxRecDepth 20000 in
theorem ggX0_leadersOf_X4_clash : GoodIn wsX0_leadersOf wsX4_clash := goodIn_r _ [21, 22, 23, 24, 5, 25, 11, 26, 27, 28, 29, 30, 12, 13, 14, 15, 16, 17, 31, 32, 33, 34, 35, 36, 37, 38, 43, 44] (by decide +kernel) (by decide +kernel)
set_option maxRecDepth 20000 in
theorem gX0_leadersOf_X4_clash : GoodIn wsX0_leadersOf (wsV RX0 36 RX4 yX4_clash wsX4_clash) := goodIn_app (goodIn_of _ (by decide +kernel)) ggX0_leadersOf_X4_clash
theorem dX0_leadersOf_0 : decode cX0_leadersOf 0 = .ok (.aload_n 0, 1) := by decide +kernel
theorem dX0_leadersOf_1 : decode cX0_leadersOf 1 = .ok (.getfield 9, 3) := by decide +kernel
theorem dX0_leadersOf_4 : decode cX0_leadersOf 4 = .ok (.invokevirtual 30, 3) := by decide +kernel
theorem dX0_leadersOf_7 : decode cX0_leadersOf 7 = .ok (.istore_n 2, 1) := by decide +kernel
theorem dX0_leadersOf_8 : decode cX0_leadersOf 8 = .ok (.iconst 0, 1) := by decide +kernel
theorem dX0_leadersOf_9 : decode cX0_leadersOf 9 = .ok (.istore_n 3, 1) := by decide +kernel
theorem dX0_leadersOf_10 : decode cX0_leadersOf 10 = .ok (.iconst 0, 1) := by decide +kernel
theorem dX0_leadersOf_11 : decode cX0_leadersOf 11 = .ok (.istore 4, 2) := by decide +kernel
theorem dX0_leadersOf_13 : decode cX0_leadersOf 13 = .ok (.iload 4, 2) := by decide +kernel
theorem dX0_leadersOf_15 : decode cX0_leadersOf 15 = .ok (.iload_n 2, 1) := by decide +kernel
theorem dX0_leadersOf_16 : decode cX0_leadersOf 16 = .ok (.if_icmp .ge 29, 3) := by decide +kernel
theorem dX0_leadersOf_19 : decode cX0_leadersOf 19 = .ok (.aload_n 0, 1) := by decide +kernel
theorem dX0_leadersOf_20 : decode cX0_leadersOf 20 = .ok (.getfield 9, 3) := by decide +kernel
theorem dX0_leadersOf_23 : decode cX0_leadersOf 23 = .ok (.iload 4, 2) := by decide +kernel
theorem dX0_leadersOf_25 : decode cX0_leadersOf 25 = .ok (.iload_n 1, 1) := by decide +kernel
theorem dX0_leadersOf_26 : decode cX0_leadersOf 26 = .ok (.invokevirtual 36, 3) := by decide +kernel
theorem dX0_leadersOf_29 : decode cX0_leadersOf 29 = .ok (.ifCond .ne 10, 3) := by decide +kernel
theorem dX0_leadersOf_32 : decode cX0_leadersOf 32 = .ok (.iload_n 3, 1) := by decide +kernel
theorem dX0_leadersOf_33 : decode cX0_leadersOf 33 = .ok (.iconst 1, 1) := by decide +kernel
theorem dX0_leadersOf_34 : decode cX0_leadersOf 34 = .ok (.iload 4, 2) := by decide +kernel
theorem dX0_leadersOf_36 : decode cX0_leadersOf 36 = .ok (.ishl, 1) := by decide +kernel
theorem dX0_leadersOf_37 : decode cX0_leadersOf 37 = .ok (.ior, 1) := by decide +kernel
theorem dX0_leadersOf_38 : decode cX0_leadersOf 38 = .ok (.istore_n 3, 1) := by decide +kernel
theorem dX0_leadersOf_39 : decode cX0_leadersOf 39 = .ok (.iinc 4 1, 3) := by decide +kernel
theorem dX0_leadersOf_42 : decode cX0_leadersOf 42 = .ok (.goto (-29), 3) := by decide +kernel
theorem dX0_leadersOf_45 : decode cX0_leadersOf 45 = .ok (.iload_n 3, 1) := by decide +kernel
theorem dX0_leadersOf_46 : decode cX0_leadersOf 46 = .ok (.ireturn, 1) := by decide +kernel
set_option maxRecDepth 20000 in
theorem ggX0_followersOfAny_X4_dollsToCut : GoodIn wsX0_followersOfAny wsX4_dollsToCut := goodIn_r _ [6, 7, 8, 9, 5, 10, 11, 12, 13, 14, 15, 16, 17, 51, 52] (by decide +kernel) (by decide +kernel)
set_option maxRecDepth 20000 in
theorem gX0_followersOfAny_X4_dollsToCut : GoodIn wsX0_followersOfAny (wsV RX0 30 RX4 yX4_dollsToCut wsX4_dollsToCut) := goodIn_app (goodIn_of _ (by decide +kernel)) ggX0_followersOfAny_X4_dollsToCut
set_option maxRecDepth 20000 in
theorem ggX0_followersOfAny_X0_holds : GoodIn wsX0_followersOfAny wsX0_holds := goodIn_r _ [21] (by decide +kernel) (by decide +kernel)
set_option maxRecDepth 20000 in
theorem gX0_followersOfAny_X0_holds : GoodIn wsX0_followersOfAny (va_wsS RX0 40 yX0_holds wsX0_holds) := goodIn_app (goodIn_of _ (by decide +kernel)) ggX0_followersOfAny_X0_holds
set_option maxRecDepth 20000 in
theorem ggX0_followersOfAny_X0_followersOf : GoodIn wsX0_followersOfAny wsX0_followersOf := goodIn_r _ [25, 1, 2, 3, 4, 5, 6, 7, 8, 9, 10, 11, 12, 13, 14, 15, 16, 17, 26, 27, 28, 29, 30, 31, 32, 33, 34, 35, 36, 37, 38, 39, 40, 41, 42, 43, 44, 45, 46, 47, 48, 49, 50, 51, 52] (by decide +kernel) (by decide +kernel)
set_option maxRecDepth 20000 in
theorem gX0_followersOfAny_X0_followersOf : GoodIn wsX0_followersOfAny (wsV RX0 43 RX0 yX0_followersOf wsX0_followersOf) := goodIn_app (goodIn_of _ (by decide +kernel)) ggX0_followersOfAny_X0_followersOf
theorem dX0_followersOfAny_0 : decode cX0_followersOfAny 0 = .ok (.aload_n 0, 1) := by decide +kernel
theorem dX0_followersOfAny_1 : decode cX0_followersOfAny 1 = .ok (.getfield 9, 3) := by decide +kernel
theorem dX0_followersOfAny_4 : decode cX0_followersOfAny 4 = .ok (.invokevirtual 30, 3) := by decide +kernel
theorem dX0_followersOfAny_7 : decode cX0_followersOfAny 7 = .ok (.istore_n 2, 1) := by decide +kernel
theorem dX0_followersOfAny_8 : decode cX0_followersOfAny 8 = .ok (.iconst 0, 1) := by decide +kernel
theorem dX0_followersOfAny_9 : decode cX0_followersOfAny 9 = .ok (.istore_n 3, 1) := by decide +kernel
theorem dX0_followersOfAny_10 : decode cX0_followersOfAny 10 = .ok (.iconst 0, 1) := by decide +kernel
theorem dX0_followersOfAny_11 : decode cX0_followersOfAny 11 = .ok (.istore 4, 2) := by decide +kernel
theorem dX0_followersOfAny_13 : decode cX0_followersOfAny 13 = .ok (.iload 4, 2) := by decide +kernel
theorem dX0_followersOfAny_15 : decode cX0_followersOfAny 15 = .ok (.iload_n 2, 1) := by decide +kernel
theorem dX0_followersOfAny_16 : decode cX0_followersOfAny 16 = .ok (.if_icmp .ge 27, 3) := by decide +kernel
theorem dX0_followersOfAny_19 : decode cX0_followersOfAny 19 = .ok (.iload_n 1, 1) := by decide +kernel
theorem dX0_followersOfAny_20 : decode cX0_followersOfAny 20 = .ok (.iload 4, 2) := by decide +kernel
theorem dX0_followersOfAny_22 : decode cX0_followersOfAny 22 = .ok (.invokestatic 40, 3) := by decide +kernel
theorem dX0_followersOfAny_25 : decode cX0_followersOfAny 25 = .ok (.ifCond .eq 12, 3) := by decide +kernel
theorem dX0_followersOfAny_28 : decode cX0_followersOfAny 28 = .ok (.iload_n 3, 1) := by decide +kernel
theorem dX0_followersOfAny_29 : decode cX0_followersOfAny 29 = .ok (.aload_n 0, 1) := by decide +kernel
theorem dX0_followersOfAny_30 : decode cX0_followersOfAny 30 = .ok (.iload 4, 2) := by decide +kernel
theorem dX0_followersOfAny_32 : decode cX0_followersOfAny 32 = .ok (.invokevirtual 43, 3) := by decide +kernel
theorem dX0_followersOfAny_35 : decode cX0_followersOfAny 35 = .ok (.ior, 1) := by decide +kernel
theorem dX0_followersOfAny_36 : decode cX0_followersOfAny 36 = .ok (.istore_n 3, 1) := by decide +kernel
theorem dX0_followersOfAny_37 : decode cX0_followersOfAny 37 = .ok (.iinc 4 1, 3) := by decide +kernel
theorem dX0_followersOfAny_40 : decode cX0_followersOfAny 40 = .ok (.goto (-27), 3) := by decide +kernel
theorem dX0_followersOfAny_43 : decode cX0_followersOfAny 43 = .ok (.iload_n 3, 1) := by decide +kernel
theorem dX0_followersOfAny_44 : decode cX0_followersOfAny 44 = .ok (.ireturn, 1) := by decide +kernel
set_option maxRecDepth 20000 in
theorem ggX0_fewestBetween_X4_clash : GoodIn wsX0_fewestBetween wsX4_clash := goodIn_r _ [6, 7, 8, 9, 5, 10, 11, 12, 13, 14, 15, 16, 17, 18, 19, 20, 21, 22, 23, 24, 25, 26, 27, 28, 29, 30, 59, 60] (by decide +kernel) (by decide +kernel)
set_option maxRecDepth 20000 in
theorem gX0_fewestBetween_X4_clash : GoodIn wsX0_fewestBetween (wsV RX0 36 RX4 yX4_clash wsX4_clash) := goodIn_app (goodIn_of _ (by decide +kernel)) ggX0_fewestBetween_X4_clash
set_option maxRecDepth 20000 in
theorem ggX0_fewestBetween_X0_leadersOf : GoodIn wsX0_fewestBetween wsX0_leadersOf := goodIn_r _ [35, 1, 36, 37, 38, 5, 39, 40, 41, 42, 43, 11, 17, 18, 19, 20, 21, 22, 2, 3, 4, 6, 7, 8, 9, 10, 12, 13, 14, 15, 16, 23, 24, 25, 26, 27, 28, 29, 30, 55, 56, 57, 58, 59, 60] (by decide +kernel) (by decide +kernel)
set_option maxRecDepth 20000 in
theorem gX0_fewestBetween_X0_leadersOf : GoodIn wsX0_fewestBetween (wsV RX0 47 RX0 yX0_leadersOf wsX0_leadersOf) := goodIn_app (goodIn_of _ (by decide +kernel)) ggX0_fewestBetween_X0_leadersOf
set_option maxRecDepth 20000 in
theorem ggX0_fewestBetween_X0_followersOf : GoodIn wsX0_fewestBetween wsX0_followersOf := goodIn_r _ [47, 1, 36, 37, 38, 5, 39, 40, 41, 42, 43, 11, 17, 18, 19, 20, 21, 22, 2, 3, 4, 6, 7, 8, 9, 10, 12, 13, 14, 15, 16, 23, 24, 25, 26, 27, 28, 29, 30, 55, 56, 57, 58, 59, 60] (by decide +kernel) (by decide +kernel)
set_option maxRecDepth 20000 in
theorem gX0_fewestBetween_X0_followersOf : GoodIn wsX0_fewestBetween (wsV RX0 43 RX0 yX0_followersOf wsX0_followersOf) := goodIn_app (goodIn_of _ (by decide +kernel)) ggX0_fewestBetween_X0_followersOf
set_option maxRecDepth 20000 in
theorem ggX0_fewestBetween_X0_followersOfAny : GoodIn wsX0_fewestBetween wsX0_followersOfAny := goodIn_r _ [51, 1, 36, 37, 38, 5, 39, 40, 41, 42, 43, 11, 17, 18, 19, 20, 21, 22, 52, 53, 34, 54, 44, 45, 46, 47, 2, 3, 4, 6, 7, 8, 9, 10, 12, 13, 14, 15, 16, 23, 24, 25, 26, 27, 28, 29, 30, 55, 56, 57, 58, 59, 60] (by decide +kernel) (by decide +kernel)
set_option maxRecDepth 20000 in
theorem gX0_fewestBetween_X0_followersOfAny : GoodIn wsX0_fewestBetween (wsV RX0 50 RX0 yX0_followersOfAny wsX0_followersOfAny) := goodIn_app (goodIn_of _ (by decide +kernel)) ggX0_fewestBetween_X0_followersOfAny
theorem dX0_fewestBetween_0 : decode cX0_fewestBetween 0 = .ok (.aload_n 0, 1) := by decide +kernel
theorem dX0_fewestBetween_1 : decode cX0_fewestBetween 1 = .ok (.getfield 9, 3) := by decide +kernel
theorem dX0_fewestBetween_4 : decode cX0_fewestBetween 4 = .ok (.iload_n 1, 1) := by decide +kernel
theorem dX0_fewestBetween_5 : decode cX0_fewestBetween 5 = .ok (.iload_n 2, 1) := by decide +kernel
theorem dX0_fewestBetween_6 : decode cX0_fewestBetween 6 = .ok (.invokevirtual 36, 3) := by decide +kernel
theorem dX0_fewestBetween_9 : decode cX0_fewestBetween 9 = .ok (.ifCond .ne 5, 3) := by decide +kernel
theorem dX0_fewestBetween_12 : decode cX0_fewestBetween 12 = .ok (.iconst 0, 1) := by decide +kernel
theorem dX0_fewestBetween_13 : decode cX0_fewestBetween 13 = .ok (.ireturn, 1) := by decide +kernel
theorem dX0_fewestBetween_14 : decode cX0_fewestBetween 14 = .ok (.aload_n 0, 1) := by decide +kernel
theorem dX0_fewestBetween_15 : decode cX0_fewestBetween 15 = .ok (.iload_n 2, 1) := by decide +kernel
theorem dX0_fewestBetween_16 : decode cX0_fewestBetween 16 = .ok (.invokevirtual 47, 3) := by decide +kernel
theorem dX0_fewestBetween_19 : decode cX0_fewestBetween 19 = .ok (.istore_n 3, 1) := by decide +kernel
theorem dX0_fewestBetween_20 : decode cX0_fewestBetween 20 = .ok (.aload_n 0, 1) := by decide +kernel
theorem dX0_fewestBetween_21 : decode cX0_fewestBetween 21 = .ok (.iload_n 1, 1) := by decide +kernel
theorem dX0_fewestBetween_22 : decode cX0_fewestBetween 22 = .ok (.invokevirtual 43, 3) := by decide +kernel
theorem dX0_fewestBetween_25 : decode cX0_fewestBetween 25 = .ok (.istore 4, 2) := by decide +kernel
theorem dX0_fewestBetween_27 : decode cX0_fewestBetween 27 = .ok (.iload 4, 2) := by decide +kernel
theorem dX0_fewestBetween_29 : decode cX0_fewestBetween 29 = .ok (.istore 5, 2) := by decide +kernel
theorem dX0_fewestBetween_31 : decode cX0_fewestBetween 31 = .ok (.iconst 1, 1) := by decide +kernel
theorem dX0_fewestBetween_32 : decode cX0_fewestBetween 32 = .ok (.istore 6, 2) := by decide +kernel
theorem dX0_fewestBetween_34 : decode cX0_fewestBetween 34 = .ok (.iload 6, 2) := by decide +kernel
theorem dX0_fewestBetween_36 : decode cX0_fewestBetween 36 = .ok (.bipush 20, 2) := by decide +kernel
theorem dX0_fewestBetween_38 : decode cX0_fewestBetween 38 = .ok (.if_icmp .gt 44, 3) := by decide +kernel
theorem dX0_fewestBetween_41 : decode cX0_fewestBetween 41 = .ok (.iload 4, 2) := by decide +kernel
theorem dX0_fewestBetween_43 : decode cX0_fewestBetween 43 = .ok (.ifCond .eq 39, 3) := by decide +kernel
theorem dX0_fewestBetween_46 : decode cX0_fewestBetween 46 = .ok (.iload 4, 2) := by decide +kernel
theorem dX0_fewestBetween_48 : decode cX0_fewestBetween 48 = .ok (.iload_n 3, 1) := by decide +kernel
theorem dX0_fewestBetween_49 : decode cX0_fewestBetween 49 = .ok (.iand, 1) := by decide +kernel
theorem dX0_fewestBetween_50 : decode cX0_fewestBetween 50 = .ok (.ifCond .eq 6, 3) := by decide +kernel
theorem dX0_fewestBetween_53 : decode cX0_fewestBetween 53 = .ok (.iload 6, 2) := by decide +kernel
theorem dX0_fewestBetween_55 : decode cX0_fewestBetween 55 = .ok (.ireturn, 1) := by decide +kernel
theorem dX0_fewestBetween_56 : decode cX0_fewestBetween 56 = .ok (.aload_n 0, 1) := by decide +kernel
theorem dX0_fewestBetween_57 : decode cX0_fewestBetween 57 = .ok (.iload 4, 2) := by decide +kernel
theorem dX0_fewestBetween_59 : decode cX0_fewestBetween 59 = .ok (.invokevirtual 50, 3) := by decide +kernel
theorem dX0_fewestBetween_62 : decode cX0_fewestBetween 62 = .ok (.iload 5, 2) := by decide +kernel
theorem dX0_fewestBetween_64 : decode cX0_fewestBetween 64 = .ok (.iconst (-1), 1) := by decide +kernel
theorem dX0_fewestBetween_65 : decode cX0_fewestBetween 65 = .ok (.ixor, 1) := by decide +kernel
theorem dX0_fewestBetween_66 : decode cX0_fewestBetween 66 = .ok (.iand, 1) := by decide +kernel
theorem dX0_fewestBetween_67 : decode cX0_fewestBetween 67 = .ok (.istore 4, 2) := by decide +kernel
theorem dX0_fewestBetween_69 : decode cX0_fewestBetween 69 = .ok (.iload 5, 2) := by decide +kernel
theorem dX0_fewestBetween_71 : decode cX0_fewestBetween 71 = .ok (.iload 4, 2) := by decide +kernel
theorem dX0_fewestBetween_73 : decode cX0_fewestBetween 73 = .ok (.ior, 1) := by decide +kernel
theorem dX0_fewestBetween_74 : decode cX0_fewestBetween 74 = .ok (.istore 5, 2) := by decide +kernel
theorem dX0_fewestBetween_76 : decode cX0_fewestBetween 76 = .ok (.iinc 6 1, 3) := by decide +kernel
theorem dX0_fewestBetween_79 : decode cX0_fewestBetween 79 = .ok (.goto (-45), 3) := by decide +kernel
theorem dX0_fewestBetween_82 : decode cX0_fewestBetween 82 = .ok (.bipush (-5), 2) := by decide +kernel
theorem dX0_fewestBetween_84 : decode cX0_fewestBetween 84 = .ok (.ireturn, 1) := by decide +kernel
set_option maxRecDepth 20000 in
theorem ggX0_countEndings_X4_dollsToCut : GoodIn wsX0_countEndings wsX4_dollsToCut := goodIn_r _ [9, 10, 11, 12, 8, 13, 14, 15, 16, 17, 18, 19, 20, 71, 72] (by decide +kernel) (by decide +kernel)
set_option maxRecDepth 20000 in
theorem gX0_countEndings_X4_dollsToCut : GoodIn wsX0_countEndings (wsV RX0 30 RX4 yX4_dollsToCut wsX4_dollsToCut) := goodIn_app (goodIn_of _ (by decide +kernel)) ggX0_countEndings_X4_dollsToCut
set_option maxRecDepth 20000 in
theorem ggX0_countEndings_X0_followersOf : GoodIn wsX0_countEndings wsX0_followersOf := goodIn_r _ [25, 1, 5, 6, 7, 8, 9, 10, 11, 12, 13, 14, 15, 16, 17, 18, 19, 20, 26, 27, 28, 29, 30, 31, 32, 33, 34, 35, 36, 37, 38, 39, 40, 41, 42, 43, 44, 45, 46, 67, 68, 69, 70, 71, 72] (by decide +kernel) (by decide +kernel)
set_option maxRecDepth 20000 in
theorem gX0_countEndings_X0_followersOf : GoodIn wsX0_countEndings (wsV RX0 43 RX0 yX0_followersOf wsX0_followersOf) := goodIn_app (goodIn_of _ (by decide +kernel)) ggX0_countEndings_X0_followersOf
set_option maxRecDepth 20000 in
theorem ggX0_countEndings_X3_put : GoodIn wsX0_countEndings wsX3_put := goodIn_r _ [50, 20, 72] (by decide +kernel) (by decide +kernel)
set_option maxRecDepth 20000 in
theorem gX0_countEndings_X3_put : GoodIn wsX0_countEndings (wsV RX0 53 RX3 yX3_put wsX3_put) := goodIn_app (goodIn_of _ (by decide +kernel)) ggX0_countEndings_X3_put
set_option maxRecDepth 20000 in
theorem ggX0_countEndings_X0_endingsAheadOf : GoodIn wsX0_countEndings wsX0_endingsAheadOf := goodIn_r _ [54, 1, 2, 3, 5, 6, 7, 8, 9, 10, 11, 12, 13, 14, 15, 16, 17, 18, 19, 20, 55, 56, 57, 24, 58, 67, 68, 69, 70, 71, 72] (by decide +kernel) (by decide +kernel)
set_option maxRecDepth 20000 in
theorem gX0_countEndings_X0_endingsAheadOf : GoodIn wsX0_countEndings (wsV RX0 57 RX0 yX0_endingsAheadOf wsX0_endingsAheadOf) := goodIn_app (goodIn_of _ (by decide +kernel)) ggX0_countEndings_X0_endingsAheadOf
set_option maxRecDepth 20000 in
theorem ggX0_countEndings_X3_copyFrom : GoodIn wsX0_countEndings wsX3_copyFrom := goodIn_r _ [62, 20, 63, 64, 65, 66, 72] (by decide +kernel) (by decide +kernel)
set_option maxRecDepth 20000 in
theorem gX0_countEndings_X3_copyFrom : GoodIn wsX0_countEndings (wsV RX0 60 RX3 yX3_copyFrom wsX3_copyFrom) := goodIn_app (goodIn_of _ (by decide +kernel)) ggX0_countEndings_X3_copyFrom
theorem dX0_countEndings_0 : decode cX0_countEndings 0 = .ok (.aload_n 0, 1) := by decide +kernel
theorem dX0_countEndings_1 : decode cX0_countEndings 1 = .ok (.getfield 9, 3) := by decide +kernel
theorem dX0_countEndings_4 : decode cX0_countEndings 4 = .ok (.invokevirtual 30, 3) := by decide +kernel
theorem dX0_countEndings_7 : decode cX0_countEndings 7 = .ok (.istore_n 2, 1) := by decide +kernel
theorem dX0_countEndings_8 : decode cX0_countEndings 8 = .ok (.iconst 0, 1) := by decide +kernel
theorem dX0_countEndings_9 : decode cX0_countEndings 9 = .ok (.istore_n 3, 1) := by decide +kernel
theorem dX0_countEndings_10 : decode cX0_countEndings 10 = .ok (.iload_n 3, 1) := by decide +kernel
theorem dX0_countEndings_11 : decode cX0_countEndings 11 = .ok (.iload_n 2, 1) := by decide +kernel
theorem dX0_countEndings_12 : decode cX0_countEndings 12 = .ok (.if_icmp .ge 31, 3) := by decide +kernel
theorem dX0_countEndings_15 : decode cX0_countEndings 15 = .ok (.aload_n 0, 1) := by decide +kernel
theorem dX0_countEndings_16 : decode cX0_countEndings 16 = .ok (.getfield 20, 3) := by decide +kernel
theorem dX0_countEndings_19 : decode cX0_countEndings 19 = .ok (.iload_n 3, 1) := by decide +kernel
theorem dX0_countEndings_20 : decode cX0_countEndings 20 = .ok (.aload_n 0, 1) := by decide +kernel
theorem dX0_countEndings_21 : decode cX0_countEndings 21 = .ok (.iload_n 3, 1) := by decide +kernel
theorem dX0_countEndings_22 : decode cX0_countEndings 22 = .ok (.invokevirtual 43, 3) := by decide +kernel
theorem dX0_countEndings_25 : decode cX0_countEndings 25 = .ok (.invokevirtual 53, 3) := by decide +kernel
theorem dX0_countEndings_28 : decode cX0_countEndings 28 = .ok (.aload_n 0, 1) := by decide +kernel
theorem dX0_countEndings_29 : decode cX0_countEndings 29 = .ok (.getfield 24, 3) := by decide +kernel
theorem dX0_countEndings_32 : decode cX0_countEndings 32 = .ok (.iload_n 3, 1) := by decide +kernel
theorem dX0_countEndings_33 : decode cX0_countEndings 33 = .ok (.iconst 1, 1) := by decide +kernel
theorem dX0_countEndings_34 : decode cX0_countEndings 34 = .ok (.invokevirtual 53, 3) := by decide +kernel
theorem dX0_countEndings_37 : decode cX0_countEndings 37 = .ok (.iinc 3 1, 3) := by decide +kernel
theorem dX0_countEndings_40 : decode cX0_countEndings 40 = .ok (.goto (-30), 3) := by decide +kernel
theorem dX0_countEndings_43 : decode cX0_countEndings 43 = .ok (.iconst 1, 1) := by decide +kernel
theorem dX0_countEndings_44 : decode cX0_countEndings 44 = .ok (.istore_n 3, 1) := by decide +kernel
theorem dX0_countEndings_45 : decode cX0_countEndings 45 = .ok (.iload_n 3, 1) := by decide +kernel
theorem dX0_countEndings_46 : decode cX0_countEndings 46 = .ok (.iload_n 1, 1) := by decide +kernel
theorem dX0_countEndings_47 : decode cX0_countEndings 47 = .ok (.if_icmp .ge 53, 3) := by decide +kernel
theorem dX0_countEndings_50 : decode cX0_countEndings 50 = .ok (.iconst 0, 1) := by decide +kernel
theorem dX0_countEndings_51 : decode cX0_countEndings 51 = .ok (.istore 4, 2) := by decide +kernel
theorem dX0_countEndings_53 : decode cX0_countEndings 53 = .ok (.iload 4, 2) := by decide +kernel
theorem dX0_countEndings_55 : decode cX0_countEndings 55 = .ok (.iload_n 2, 1) := by decide +kernel
theorem dX0_countEndings_56 : decode cX0_countEndings 56 = .ok (.if_icmp .ge 24, 3) := by decide +kernel
theorem dX0_countEndings_59 : decode cX0_countEndings 59 = .ok (.aload_n 0, 1) := by decide +kernel
theorem dX0_countEndings_60 : decode cX0_countEndings 60 = .ok (.getfield 27, 3) := by decide +kernel
theorem dX0_countEndings_63 : decode cX0_countEndings 63 = .ok (.iload 4, 2) := by decide +kernel
theorem dX0_countEndings_65 : decode cX0_countEndings 65 = .ok (.aload_n 0, 1) := by decide +kernel
theorem dX0_countEndings_66 : decode cX0_countEndings 66 = .ok (.iload 4, 2) := by decide +kernel
theorem dX0_countEndings_68 : decode cX0_countEndings 68 = .ok (.invokevirtual 57, 3) := by decide +kernel
theorem dX0_countEndings_71 : decode cX0_countEndings 71 = .ok (.invokevirtual 53, 3) := by decide +kernel
theorem dX0_countEndings_74 : decode cX0_countEndings 74 = .ok (.iinc 4 1, 3) := by decide +kernel
theorem dX0_countEndings_77 : decode cX0_countEndings 77 = .ok (.goto (-24), 3) := by decide +kernel
theorem dX0_countEndings_80 : decode cX0_countEndings 80 = .ok (.aload_n 0, 1) := by decide +kernel
theorem dX0_countEndings_81 : decode cX0_countEndings 81 = .ok (.getfield 24, 3) := by decide +kernel
theorem dX0_countEndings_84 : decode cX0_countEndings 84 = .ok (.aload_n 0, 1) := by decide +kernel
theorem dX0_countEndings_85 : decode cX0_countEndings 85 = .ok (.getfield 27, 3) := by decide +kernel
theorem dX0_countEndings_88 : decode cX0_countEndings 88 = .ok (.iconst 0, 1) := by decide +kernel
theorem dX0_countEndings_89 : decode cX0_countEndings 89 = .ok (.iconst 0, 1) := by decide +kernel
theorem dX0_countEndings_90 : decode cX0_countEndings 90 = .ok (.iload_n 2, 1) := by decide +kernel
theorem dX0_countEndings_91 : decode cX0_countEndings 91 = .ok (.invokevirtual 60, 3) := by decide +kernel
theorem dX0_countEndings_94 : decode cX0_countEndings 94 = .ok (.iinc 3 1, 3) := by decide +kernel
theorem dX0_countEndings_97 : decode cX0_countEndings 97 = .ok (.goto (-52), 3) := by decide +kernel
theorem dX0_countEndings_100 : decode cX0_countEndings 100 = .ok (.return_, 1) := by decide +kernel
set_option maxRecDepth 20000 in
theorem ggX0_endingsAheadOf_X4_dollsToCut : GoodIn wsX0_endingsAheadOf wsX4_dollsToCut := goodIn_r _ [8, 9, 10, 11, 7, 12, 13, 14, 15, 16, 17, 18, 19, 29, 30] (by decide +kernel) (by decide +kernel)
set_option maxRecDepth 20000 in
theorem gX0_endingsAheadOf_X4_dollsToCut : GoodIn wsX0_endingsAheadOf (wsV RX0 30 RX4 yX4_dollsToCut wsX4_dollsToCut) := goodIn_app (goodIn_of _ (by decide +kernel)) ggX0_endingsAheadOf_X4_dollsToCut
set_option maxRecDepth 20000 in
theorem ggX0_endingsAheadOf_X3_at : GoodIn wsX0_endingsAheadOf wsX3_at := goodIn_r _ [18, 19, 30] (by decide +kernel) (by decide +kernel)
set_option maxRecDepth 20000 in
theorem gX0_endingsAheadOf_X3_at : GoodIn wsX0_endingsAheadOf (wsV RX0 64 RX3 yX3_at wsX3_at) := goodIn_app (goodIn_of _ (by decide +kernel)) ggX0_endingsAheadOf_X3_at
set_option maxRecDepth 20000 in
theorem ggX0_endingsAheadOf_X0_holds : GoodIn wsX0_endingsAheadOf wsX0_holds := goodIn_r _ [24] (by decide +kernel) (by decide +kernel)
set_option maxRecDepth 20000 in
theorem gX0_endingsAheadOf_X0_holds : GoodIn wsX0_endingsAheadOf (va_wsS RX0 40 yX0_holds wsX0_holds) := goodIn_app (goodIn_of _ (by decide +kernel)) ggX0_endingsAheadOf_X0_holds
theorem dX0_endingsAheadOf_0 : decode cX0_endingsAheadOf 0 = .ok (.aload_n 0, 1) := by decide +kernel
theorem dX0_endingsAheadOf_1 : decode cX0_endingsAheadOf 1 = .ok (.getfield 9, 3) := by decide +kernel
theorem dX0_endingsAheadOf_4 : decode cX0_endingsAheadOf 4 = .ok (.invokevirtual 30, 3) := by decide +kernel
theorem dX0_endingsAheadOf_7 : decode cX0_endingsAheadOf 7 = .ok (.istore_n 2, 1) := by decide +kernel
theorem dX0_endingsAheadOf_8 : decode cX0_endingsAheadOf 8 = .ok (.iconst 0, 1) := by decide +kernel
theorem dX0_endingsAheadOf_9 : decode cX0_endingsAheadOf 9 = .ok (.istore_n 3, 1) := by decide +kernel
theorem dX0_endingsAheadOf_10 : decode cX0_endingsAheadOf 10 = .ok (.iconst 0, 1) := by decide +kernel
theorem dX0_endingsAheadOf_11 : decode cX0_endingsAheadOf 11 = .ok (.istore 4, 2) := by decide +kernel
theorem dX0_endingsAheadOf_13 : decode cX0_endingsAheadOf 13 = .ok (.iload 4, 2) := by decide +kernel
theorem dX0_endingsAheadOf_15 : decode cX0_endingsAheadOf 15 = .ok (.iload_n 2, 1) := by decide +kernel
theorem dX0_endingsAheadOf_16 : decode cX0_endingsAheadOf 16 = .ok (.if_icmp .ge 37, 3) := by decide +kernel
theorem dX0_endingsAheadOf_19 : decode cX0_endingsAheadOf 19 = .ok (.aload_n 0, 1) := by decide +kernel
theorem dX0_endingsAheadOf_20 : decode cX0_endingsAheadOf 20 = .ok (.getfield 20, 3) := by decide +kernel
theorem dX0_endingsAheadOf_23 : decode cX0_endingsAheadOf 23 = .ok (.iload 4, 2) := by decide +kernel
theorem dX0_endingsAheadOf_25 : decode cX0_endingsAheadOf 25 = .ok (.invokevirtual 64, 3) := by decide +kernel
theorem dX0_endingsAheadOf_28 : decode cX0_endingsAheadOf 28 = .ok (.iload_n 1, 1) := by decide +kernel
theorem dX0_endingsAheadOf_29 : decode cX0_endingsAheadOf 29 = .ok (.invokestatic 40, 3) := by decide +kernel
theorem dX0_endingsAheadOf_32 : decode cX0_endingsAheadOf 32 = .ok (.ifCond .eq 15, 3) := by decide +kernel
theorem dX0_endingsAheadOf_35 : decode cX0_endingsAheadOf 35 = .ok (.iload_n 3, 1) := by decide +kernel
theorem dX0_endingsAheadOf_36 : decode cX0_endingsAheadOf 36 = .ok (.aload_n 0, 1) := by decide +kernel
theorem dX0_endingsAheadOf_37 : decode cX0_endingsAheadOf 37 = .ok (.getfield 24, 3) := by decide +kernel
theorem dX0_endingsAheadOf_40 : decode cX0_endingsAheadOf 40 = .ok (.iload 4, 2) := by decide +kernel
theorem dX0_endingsAheadOf_42 : decode cX0_endingsAheadOf 42 = .ok (.invokevirtual 64, 3) := by decide +kernel
theorem dX0_endingsAheadOf_45 : decode cX0_endingsAheadOf 45 = .ok (.iadd, 1) := by decide +kernel
theorem dX0_endingsAheadOf_46 : decode cX0_endingsAheadOf 46 = .ok (.istore_n 3, 1) := by decide +kernel
theorem dX0_endingsAheadOf_47 : decode cX0_endingsAheadOf 47 = .ok (.iinc 4 1, 3) := by decide +kernel
theorem dX0_endingsAheadOf_50 : decode cX0_endingsAheadOf 50 = .ok (.goto (-37), 3) := by decide +kernel
theorem dX0_endingsAheadOf_53 : decode cX0_endingsAheadOf 53 = .ok (.iload_n 3, 1) := by decide +kernel
theorem dX0_endingsAheadOf_54 : decode cX0_endingsAheadOf 54 = .ok (.ireturn, 1) := by decide +kernel
set_option maxRecDepth 20000 in
theorem ggX0_garlandsOf_X0_countEndings : GoodIn wsX0_garlandsOf wsX0_countEndings := goodIn_r _ [7, 1, 8, 2, 9, 10, 11, 12, 13, 14, 15, 16, 17, 18, 19, 20, 21, 22, 23, 24, 25, 26, 27, 28, 6, 29, 30, 31, 32, 33, 34, 35, 36, 37, 38, 39, 40, 41, 42, 43, 44, 45, 46, 47, 48, 49, 50, 51, 52, 53, 54, 55, 56, 57, 58, 59, 60, 61, 62, 63, 64, 65, 66, 67, 68, 69, 70, 71, 72, 73, 74, 75, 76] (by decide +kernel) (by decide +kernel)
set_option maxRecDepth 20000 in
theorem gX0_garlandsOf_X0_countEndings : GoodIn wsX0_garlandsOf (wsV RX0 67 RX0 yX0_countEndings wsX0_countEndings) := goodIn_app (goodIn_of _ (by decide +kernel)) ggX0_garlandsOf_X0_countEndings
set_option maxRecDepth 20000 in
theorem ggX0_garlandsOf_X4_dollsToCut : GoodIn wsX0_garlandsOf wsX4_dollsToCut := goodIn_r _ [14, 15, 16, 17, 13, 18, 19, 20, 21, 22, 23, 24, 25, 75, 76] (by decide +kernel) (by decide +kernel)
set_option maxRecDepth 20000 in
theorem gX0_garlandsOf_X4_dollsToCut : GoodIn wsX0_garlandsOf (wsV RX0 30 RX4 yX4_dollsToCut wsX4_dollsToCut) := goodIn_app (goodIn_of _ (by decide +kernel)) ggX0_garlandsOf_X4_dollsToCut
set_option maxRecDepth 20000 in
theorem ggX0_garlandsOf_X3_at : GoodIn wsX0_garlandsOf wsX3_at := goodIn_r _ [24, 25, 76] (by decide +kernel) (by decide +kernel)
set_option maxRecDepth 20000 in
theorem gX0_garlandsOf_X3_at : GoodIn wsX0_garlandsOf (wsV RX0 64 RX3 yX3_at wsX3_at) := goodIn_app (goodIn_of _ (by decide +kernel)) ggX0_garlandsOf_X3_at
theorem dX0_garlandsOf_0 : decode cX0_garlandsOf 0 = .ok (.aload_n 0, 1) := by decide +kernel
theorem dX0_garlandsOf_1 : decode cX0_garlandsOf 1 = .ok (.iload_n 1, 1) := by decide +kernel
theorem dX0_garlandsOf_2 : decode cX0_garlandsOf 2 = .ok (.invokevirtual 67, 3) := by decide +kernel
theorem dX0_garlandsOf_5 : decode cX0_garlandsOf 5 = .ok (.aload_n 0, 1) := by decide +kernel
theorem dX0_garlandsOf_6 : decode cX0_garlandsOf 6 = .ok (.getfield 9, 3) := by decide +kernel
theorem dX0_garlandsOf_9 : decode cX0_garlandsOf 9 = .ok (.invokevirtual 30, 3) := by decide +kernel
theorem dX0_garlandsOf_12 : decode cX0_garlandsOf 12 = .ok (.istore_n 2, 1) := by decide +kernel
theorem dX0_garlandsOf_13 : decode cX0_garlandsOf 13 = .ok (.iconst 0, 1) := by decide +kernel
theorem dX0_garlandsOf_14 : decode cX0_garlandsOf 14 = .ok (.istore_n 3, 1) := by decide +kernel
theorem dX0_garlandsOf_15 : decode cX0_garlandsOf 15 = .ok (.iconst 0, 1) := by decide +kernel
theorem dX0_garlandsOf_16 : decode cX0_garlandsOf 16 = .ok (.istore 4, 2) := by decide +kernel
theorem dX0_garlandsOf_18 : decode cX0_garlandsOf 18 = .ok (.iload 4, 2) := by decide +kernel
theorem dX0_garlandsOf_20 : decode cX0_garlandsOf 20 = .ok (.iload_n 2, 1) := by decide +kernel
theorem dX0_garlandsOf_21 : decode cX0_garlandsOf 21 = .ok (.if_icmp .ge 21, 3) := by decide +kernel
theorem dX0_garlandsOf_24 : decode cX0_garlandsOf 24 = .ok (.iload_n 3, 1) := by decide +kernel
theorem dX0_garlandsOf_25 : decode cX0_garlandsOf 25 = .ok (.aload_n 0, 1) := by decide +kernel
theorem dX0_garlandsOf_26 : decode cX0_garlandsOf 26 = .ok (.getfield 24, 3) := by decide +kernel
theorem dX0_garlandsOf_29 : decode cX0_garlandsOf 29 = .ok (.iload 4, 2) := by decide +kernel
theorem dX0_garlandsOf_31 : decode cX0_garlandsOf 31 = .ok (.invokevirtual 64, 3) := by decide +kernel
theorem dX0_garlandsOf_34 : decode cX0_garlandsOf 34 = .ok (.iadd, 1) := by decide +kernel
theorem dX0_garlandsOf_35 : decode cX0_garlandsOf 35 = .ok (.istore_n 3, 1) := by decide +kernel
theorem dX0_garlandsOf_36 : decode cX0_garlandsOf 36 = .ok (.iinc 4 1, 3) := by decide +kernel
theorem dX0_garlandsOf_39 : decode cX0_garlandsOf 39 = .ok (.goto (-21), 3) := by decide +kernel
theorem dX0_garlandsOf_42 : decode cX0_garlandsOf 42 = .ok (.iload_n 3, 1) := by decide +kernel
theorem dX0_garlandsOf_43 : decode cX0_garlandsOf 43 = .ok (.ireturn, 1) := by decide +kernel
set_option maxRecDepth 20000 in
theorem ggX0_ownMirrorsOf_X0_countEndings : GoodIn wsX0_ownMirrorsOf wsX0_countEndings := goodIn_r _ [8, 1, 2, 3, 9, 10, 11, 12, 13, 14, 15, 16, 17, 18, 19, 20, 21, 22, 23, 24, 25, 26, 27, 28, 7, 29, 30, 31, 32, 33, 34, 35, 36, 37, 38, 39, 40, 41, 42, 43, 44, 45, 46, 47, 48, 49, 50, 51, 52, 53, 54, 55, 56, 57, 58, 59, 60, 61, 62, 63, 64, 65, 66, 67, 68, 69, 70, 73, 74, 75, 76, 77, 78] (by decide +kernel) (by decide +kernel)
set_option maxRecDepth 20000 in
theorem gX0_ownMirrorsOf_X0_countEndings : GoodIn wsX0_ownMirrorsOf (wsV RX0 67 RX0 yX0_countEndings wsX0_countEndings) := goodIn_app (goodIn_of _ (by decide +kernel)) ggX0_ownMirrorsOf_X0_countEndings
set_option maxRecDepth 20000 in
theorem ggX0_ownMirrorsOf_X4_dollsToCut : GoodIn wsX0_ownMirrorsOf wsX4_dollsToCut := goodIn_r _ [14, 15, 16, 17, 13, 18, 19, 20, 21, 22, 23, 24, 25, 77, 78] (by decide +kernel) (by decide +kernel)
set_option maxRecDepth 20000 in
theorem gX0_ownMirrorsOf_X4_dollsToCut : GoodIn wsX0_ownMirrorsOf (wsV RX0 30 RX4 yX4_dollsToCut wsX4_dollsToCut) := goodIn_app (goodIn_of _ (by decide +kernel)) ggX0_ownMirrorsOf_X4_dollsToCut
set_option maxRecDepth 20000 in
theorem ggX0_ownMirrorsOf_X3_at : GoodIn wsX0_ownMirrorsOf wsX3_at := goodIn_r _ [24, 25, 78] (by decide +kernel) (by decide +kernel)
set_option maxRecDepth 20000 in
theorem gX0_ownMirrorsOf_X3_at : GoodIn wsX0_ownMirrorsOf (wsV RX0 64 RX3 yX3_at wsX3_at) := goodIn_app (goodIn_of _ (by decide +kernel)) ggX0_ownMirrorsOf_X3_at
set_option maxRecDepth 20000 in
theorem ggX0_ownMirrorsOf_X6_mirrorOf : GoodIn wsX0_ownMirrorsOf wsX6_mirrorOf := goodIn_r _ [72] (by decide +kernel) (by decide +kernel)
set_option maxRecDepth 20000 in
theorem gX0_ownMirrorsOf_X6_mirrorOf_n70 : GoodIn wsX0_ownMirrorsOf (wsX6_mirrorOf) := ggX0_ownMirrorsOf_X6_mirrorOf
set_option maxRecDepth 20000 in
theorem ggX0_ownMirrorsOf_X0_holds : GoodIn wsX0_ownMirrorsOf wsX0_holds := goodIn_r _ [62] (by decide +kernel) (by decide +kernel)
set_option maxRecDepth 20000 in
theorem gX0_ownMirrorsOf_X0_holds : GoodIn wsX0_ownMirrorsOf (va_wsS RX0 40 yX0_holds wsX0_holds) := goodIn_app (goodIn_of _ (by decide +kernel)) ggX0_ownMirrorsOf_X0_holds
theorem dX0_ownMirrorsOf_0 : decode cX0_ownMirrorsOf 0 = .ok (.iload_n 1, 1) := by decide +kernel
theorem dX0_ownMirrorsOf_1 : decode cX0_ownMirrorsOf 1 = .ok (.iconst 2, 1) := by decide +kernel
theorem dX0_ownMirrorsOf_2 : decode cX0_ownMirrorsOf 2 = .ok (.irem, 1) := by decide +kernel
theorem dX0_ownMirrorsOf_3 : decode cX0_ownMirrorsOf 3 = .ok (.iconst 1, 1) := by decide +kernel
theorem dX0_ownMirrorsOf_4 : decode cX0_ownMirrorsOf 4 = .ok (.if_icmp .ne 5, 3) := by decide +kernel
theorem dX0_ownMirrorsOf_7 : decode cX0_ownMirrorsOf 7 = .ok (.iconst 0, 1) := by decide +kernel
theorem dX0_ownMirrorsOf_8 : decode cX0_ownMirrorsOf 8 = .ok (.ireturn, 1) := by decide +kernel
theorem dX0_ownMirrorsOf_9 : decode cX0_ownMirrorsOf 9 = .ok (.aload_n 0, 1) := by decide +kernel
theorem dX0_ownMirrorsOf_10 : decode cX0_ownMirrorsOf 10 = .ok (.iload_n 1, 1) := by decide +kernel
theorem dX0_ownMirrorsOf_11 : decode cX0_ownMirrorsOf 11 = .ok (.iconst 2, 1) := by decide +kernel
theorem dX0_ownMirrorsOf_12 : decode cX0_ownMirrorsOf 12 = .ok (.idiv, 1) := by decide +kernel
theorem dX0_ownMirrorsOf_13 : decode cX0_ownMirrorsOf 13 = .ok (.invokevirtual 67, 3) := by decide +kernel
theorem dX0_ownMirrorsOf_16 : decode cX0_ownMirrorsOf 16 = .ok (.aload_n 0, 1) := by decide +kernel
theorem dX0_ownMirrorsOf_17 : decode cX0_ownMirrorsOf 17 = .ok (.getfield 9, 3) := by decide +kernel
theorem dX0_ownMirrorsOf_20 : decode cX0_ownMirrorsOf 20 = .ok (.invokevirtual 30, 3) := by decide +kernel
theorem dX0_ownMirrorsOf_23 : decode cX0_ownMirrorsOf 23 = .ok (.istore_n 2, 1) := by decide +kernel
theorem dX0_ownMirrorsOf_24 : decode cX0_ownMirrorsOf 24 = .ok (.iconst 0, 1) := by decide +kernel
theorem dX0_ownMirrorsOf_25 : decode cX0_ownMirrorsOf 25 = .ok (.istore_n 3, 1) := by decide +kernel
theorem dX0_ownMirrorsOf_26 : decode cX0_ownMirrorsOf 26 = .ok (.iconst 0, 1) := by decide +kernel
theorem dX0_ownMirrorsOf_27 : decode cX0_ownMirrorsOf 27 = .ok (.istore 4, 2) := by decide +kernel
theorem dX0_ownMirrorsOf_29 : decode cX0_ownMirrorsOf 29 = .ok (.iload 4, 2) := by decide +kernel
theorem dX0_ownMirrorsOf_31 : decode cX0_ownMirrorsOf 31 = .ok (.iload_n 2, 1) := by decide +kernel
theorem dX0_ownMirrorsOf_32 : decode cX0_ownMirrorsOf 32 = .ok (.if_icmp .ge 41, 3) := by decide +kernel
theorem dX0_ownMirrorsOf_35 : decode cX0_ownMirrorsOf 35 = .ok (.aload_n 0, 1) := by decide +kernel
theorem dX0_ownMirrorsOf_36 : decode cX0_ownMirrorsOf 36 = .ok (.getfield 20, 3) := by decide +kernel
theorem dX0_ownMirrorsOf_39 : decode cX0_ownMirrorsOf 39 = .ok (.iload 4, 2) := by decide +kernel
theorem dX0_ownMirrorsOf_41 : decode cX0_ownMirrorsOf 41 = .ok (.invokevirtual 64, 3) := by decide +kernel
theorem dX0_ownMirrorsOf_44 : decode cX0_ownMirrorsOf 44 = .ok (.iload 4, 2) := by decide +kernel
theorem dX0_ownMirrorsOf_46 : decode cX0_ownMirrorsOf 46 = .ok (.invokestatic 70, 3) := by decide +kernel
theorem dX0_ownMirrorsOf_49 : decode cX0_ownMirrorsOf 49 = .ok (.invokestatic 40, 3) := by decide +kernel
theorem dX0_ownMirrorsOf_52 : decode cX0_ownMirrorsOf 52 = .ok (.ifCond .eq 15, 3) := by decide +kernel
theorem dX0_ownMirrorsOf_55 : decode cX0_ownMirrorsOf 55 = .ok (.iload_n 3, 1) := by decide +kernel
theorem dX0_ownMirrorsOf_56 : decode cX0_ownMirrorsOf 56 = .ok (.aload_n 0, 1) := by decide +kernel
theorem dX0_ownMirrorsOf_57 : decode cX0_ownMirrorsOf 57 = .ok (.getfield 24, 3) := by decide +kernel
theorem dX0_ownMirrorsOf_60 : decode cX0_ownMirrorsOf 60 = .ok (.iload 4, 2) := by decide +kernel
theorem dX0_ownMirrorsOf_62 : decode cX0_ownMirrorsOf 62 = .ok (.invokevirtual 64, 3) := by decide +kernel
theorem dX0_ownMirrorsOf_65 : decode cX0_ownMirrorsOf 65 = .ok (.iadd, 1) := by decide +kernel
theorem dX0_ownMirrorsOf_66 : decode cX0_ownMirrorsOf 66 = .ok (.istore_n 3, 1) := by decide +kernel
theorem dX0_ownMirrorsOf_67 : decode cX0_ownMirrorsOf 67 = .ok (.iinc 4 1, 3) := by decide +kernel
theorem dX0_ownMirrorsOf_70 : decode cX0_ownMirrorsOf 70 = .ok (.goto (-41), 3) := by decide +kernel
theorem dX0_ownMirrorsOf_73 : decode cX0_ownMirrorsOf 73 = .ok (.iload_n 3, 1) := by decide +kernel
theorem dX0_ownMirrorsOf_74 : decode cX0_ownMirrorsOf 74 = .ok (.ireturn, 1) := by decide +kernel
set_option maxRecDepth 20000 in
theorem ggX1_init_X3_init : GoodIn wsX1_init wsX3_init := goodIn_r _ [12, 13, 2, 3, 14, 15, 16] (by decide +kernel) (by decide +kernel)
set_option maxRecDepth 20000 in
theorem gX1_init_X3_init : GoodIn wsX1_init (wsX3_init) := ggX1_init_X3_init
theorem dX1_init_0 : decode cX1_init 0 = .ok (.aload_n 0, 1) := by decide +kernel
theorem dX1_init_1 : decode cX1_init 1 = .ok (.invokespecial 3, 3) := by decide +kernel
theorem dX1_init_4 : decode cX1_init 4 = .ok (.aload_n 0, 1) := by decide +kernel
theorem dX1_init_5 : decode cX1_init 5 = .ok (.new 9, 3) := by decide +kernel
theorem dX1_init_8 : decode cX1_init 8 = .ok (.dup, 1) := by decide +kernel
theorem dX1_init_9 : decode cX1_init 9 = .ok (.sipush 1144, 3) := by decide +kernel
theorem dX1_init_12 : decode cX1_init 12 = .ok (.invokespecial 13, 3) := by decide +kernel
theorem dX1_init_15 : decode cX1_init 15 = .ok (.putfield 16, 3) := by decide +kernel
theorem dX1_init_18 : decode cX1_init 18 = .ok (.aload_n 0, 1) := by decide +kernel
theorem dX1_init_19 : decode cX1_init 19 = .ok (.iconst 0, 1) := by decide +kernel
theorem dX1_init_20 : decode cX1_init 20 = .ok (.putfield 22, 3) := by decide +kernel
theorem dX1_init_23 : decode cX1_init 23 = .ok (.aload_n 0, 1) := by decide +kernel
theorem dX1_init_24 : decode cX1_init 24 = .ok (.iconst 0, 1) := by decide +kernel
theorem dX1_init_25 : decode cX1_init 25 = .ok (.putfield 26, 3) := by decide +kernel
theorem dX1_init_28 : decode cX1_init 28 = .ok (.return_, 1) := by decide +kernel
theorem dX1_size_0 : decode cX1_size 0 = .ok (.aload_n 0, 1) := by decide +kernel
theorem dX1_size_1 : decode cX1_size 1 = .ok (.getfield 26, 3) := by decide +kernel
theorem dX1_size_4 : decode cX1_size 4 = .ok (.ireturn, 1) := by decide +kernel
theorem dX1_cellOf_0 : decode cX1_cellOf 0 = .ok (.aload_n 0, 1) := by decide +kernel
theorem dX1_cellOf_1 : decode cX1_cellOf 1 = .ok (.getfield 22, 3) := by decide +kernel
theorem dX1_cellOf_4 : decode cX1_cellOf 4 = .ok (.iload_n 1, 1) := by decide +kernel
theorem dX1_cellOf_5 : decode cX1_cellOf 5 = .ok (.iadd, 1) := by decide +kernel
theorem dX1_cellOf_6 : decode cX1_cellOf 6 = .ok (.iconst 4, 1) := by decide +kernel
theorem dX1_cellOf_7 : decode cX1_cellOf 7 = .ok (.irem, 1) := by decide +kernel
theorem dX1_cellOf_8 : decode cX1_cellOf 8 = .ok (.sipush 286, 3) := by decide +kernel
theorem dX1_cellOf_11 : decode cX1_cellOf 11 = .ok (.imul, 1) := by decide +kernel
theorem dX1_cellOf_12 : decode cX1_cellOf 12 = .ok (.ireturn, 1) := by decide +kernel
set_option maxRecDepth 20000 in
theorem ggX1_remember_X1_cellOf : GoodIn wsX1_remember wsX1_cellOf := goodIn_r _ [8, 2, 25, 26, 27] (by decide +kernel) (by decide +kernel)
set_option maxRecDepth 20000 in
theorem gX1_remember_X1_cellOf : GoodIn wsX1_remember (wsV RX1 29 RX1 yX1_cellOf wsX1_cellOf) := goodIn_app (goodIn_of _ (by decide +kernel)) ggX1_remember_X1_cellOf
set_option maxRecDepth 20000 in
theorem ggX1_remember_X4_saveTo : GoodIn wsX1_remember wsX4_saveTo := goodIn_r _ [13, 14, 15, 16, 17, 18, 19, 20, 21, 22, 23, 24, 28, 29] (by decide +kernel) (by decide +kernel)
set_option maxRecDepth 20000 in
theorem gX1_remember_X4_saveTo : GoodIn wsX1_remember (wsV RX1 33 RX4 yX4_saveTo wsX4_saveTo) := goodIn_app (goodIn_of _ (by decide +kernel)) ggX1_remember_X4_saveTo
theorem dX1_remember_0 : decode cX1_remember 0 = .ok (.aload_n 0, 1) := by decide +kernel
theorem dX1_remember_1 : decode cX1_remember 1 = .ok (.getfield 26, 3) := by decide +kernel
theorem dX1_remember_4 : decode cX1_remember 4 = .ok (.iconst 4, 1) := by decide +kernel
theorem dX1_remember_5 : decode cX1_remember 5 = .ok (.if_icmp .ne 25, 3) := by decide +kernel
theorem dX1_remember_8 : decode cX1_remember 8 = .ok (.aload_n 0, 1) := by decide +kernel
theorem dX1_remember_9 : decode cX1_remember 9 = .ok (.aload_n 0, 1) := by decide +kernel
theorem dX1_remember_10 : decode cX1_remember 10 = .ok (.getfield 22, 3) := by decide +kernel
theorem dX1_remember_13 : decode cX1_remember 13 = .ok (.iconst 1, 1) := by decide +kernel
theorem dX1_remember_14 : decode cX1_remember 14 = .ok (.iadd, 1) := by decide +kernel
theorem dX1_remember_15 : decode cX1_remember 15 = .ok (.iconst 4, 1) := by decide +kernel
theorem dX1_remember_16 : decode cX1_remember 16 = .ok (.irem, 1) := by decide +kernel
theorem dX1_remember_17 : decode cX1_remember 17 = .ok (.putfield 22, 3) := by decide +kernel
theorem dX1_remember_20 : decode cX1_remember 20 = .ok (.aload_n 0, 1) := by decide +kernel
theorem dX1_remember_21 : decode cX1_remember 21 = .ok (.dup, 1) := by decide +kernel
theorem dX1_remember_22 : decode cX1_remember 22 = .ok (.getfield 26, 3) := by decide +kernel
theorem dX1_remember_25 : decode cX1_remember 25 = .ok (.iconst 1, 1) := by decide +kernel
theorem dX1_remember_26 : decode cX1_remember 26 = .ok (.isub, 1) := by decide +kernel
theorem dX1_remember_27 : decode cX1_remember 27 = .ok (.putfield 26, 3) := by decide +kernel
theorem dX1_remember_30 : decode cX1_remember 30 = .ok (.aload_n 1, 1) := by decide +kernel
theorem dX1_remember_31 : decode cX1_remember 31 = .ok (.aload_n 0, 1) := by decide +kernel
theorem dX1_remember_32 : decode cX1_remember 32 = .ok (.getfield 16, 3) := by decide +kernel
theorem dX1_remember_35 : decode cX1_remember 35 = .ok (.aload_n 0, 1) := by decide +kernel
theorem dX1_remember_36 : decode cX1_remember 36 = .ok (.aload_n 0, 1) := by decide +kernel
theorem dX1_remember_37 : decode cX1_remember 37 = .ok (.getfield 26, 3) := by decide +kernel
theorem dX1_remember_40 : decode cX1_remember 40 = .ok (.invokevirtual 29, 3) := by decide +kernel
theorem dX1_remember_43 : decode cX1_remember 43 = .ok (.invokevirtual 33, 3) := by decide +kernel
theorem dX1_remember_46 : decode cX1_remember 46 = .ok (.aload_n 0, 1) := by decide +kernel
theorem dX1_remember_47 : decode cX1_remember 47 = .ok (.dup, 1) := by decide +kernel
theorem dX1_remember_48 : decode cX1_remember 48 = .ok (.getfield 26, 3) := by decide +kernel
theorem dX1_remember_51 : decode cX1_remember 51 = .ok (.iconst 1, 1) := by decide +kernel
theorem dX1_remember_52 : decode cX1_remember 52 = .ok (.iadd, 1) := by decide +kernel
theorem dX1_remember_53 : decode cX1_remember 53 = .ok (.putfield 26, 3) := by decide +kernel
theorem dX1_remember_56 : decode cX1_remember 56 = .ok (.return_, 1) := by decide +kernel
set_option maxRecDepth 20000 in
theorem ggX1_goBack_X1_cellOf : GoodIn wsX1_goBack wsX1_cellOf := goodIn_r _ [7, 8, 25, 26, 27] (by decide +kernel) (by decide +kernel)
set_option maxRecDepth 20000 in
theorem gX1_goBack_X1_cellOf : GoodIn wsX1_goBack (wsV RX1 29 RX1 yX1_cellOf wsX1_cellOf) := goodIn_app (goodIn_of _ (by decide +kernel)) ggX1_goBack_X1_cellOf
set_option maxRecDepth 20000 in
theorem ggX1_goBack_X4_loadFrom : GoodIn wsX1_goBack wsX4_loadFrom := goodIn_r _ [13, 14, 15, 16, 17, 18, 19, 20, 21, 22, 23, 24, 28, 29] (by decide +kernel) (by decide +kernel)
set_option maxRecDepth 20000 in
theorem gX1_goBack_X4_loadFrom : GoodIn wsX1_goBack (wsV RX1 37 RX4 yX4_loadFrom wsX4_loadFrom) := goodIn_app (goodIn_of _ (by decide +kernel)) ggX1_goBack_X4_loadFrom
theorem dX1_goBack_0 : decode cX1_goBack 0 = .ok (.aload_n 0, 1) := by decide +kernel
theorem dX1_goBack_1 : decode cX1_goBack 1 = .ok (.getfield 26, 3) := by decide +kernel
theorem dX1_goBack_4 : decode cX1_goBack 4 = .ok (.ifCond .le 29, 3) := by decide +kernel
theorem dX1_goBack_7 : decode cX1_goBack 7 = .ok (.aload_n 0, 1) := by decide +kernel
theorem dX1_goBack_8 : decode cX1_goBack 8 = .ok (.dup, 1) := by decide +kernel
theorem dX1_goBack_9 : decode cX1_goBack 9 = .ok (.getfield 26, 3) := by decide +kernel
theorem dX1_goBack_12 : decode cX1_goBack 12 = .ok (.iconst 1, 1) := by decide +kernel
theorem dX1_goBack_13 : decode cX1_goBack 13 = .ok (.isub, 1) := by decide +kernel
theorem dX1_goBack_14 : decode cX1_goBack 14 = .ok (.putfield 26, 3) := by decide +kernel
theorem dX1_goBack_17 : decode cX1_goBack 17 = .ok (.aload_n 1, 1) := by decide +kernel
theorem dX1_goBack_18 : decode cX1_goBack 18 = .ok (.aload_n 0, 1) := by decide +kernel
theorem dX1_goBack_19 : decode cX1_goBack 19 = .ok (.getfield 16, 3) := by decide +kernel
theorem dX1_goBack_22 : decode cX1_goBack 22 = .ok (.aload_n 0, 1) := by decide +kernel
theorem dX1_goBack_23 : decode cX1_goBack 23 = .ok (.aload_n 0, 1) := by decide +kernel
theorem dX1_goBack_24 : decode cX1_goBack 24 = .ok (.getfield 26, 3) := by decide +kernel
theorem dX1_goBack_27 : decode cX1_goBack 27 = .ok (.invokevirtual 29, 3) := by decide +kernel
theorem dX1_goBack_30 : decode cX1_goBack 30 = .ok (.invokevirtual 37, 3) := by decide +kernel
theorem dX1_goBack_33 : decode cX1_goBack 33 = .ok (.return_, 1) := by decide +kernel
theorem dX2_init_0 : decode cX2_init 0 = .ok (.aload_n 0, 1) := by decide +kernel
theorem dX2_init_1 : decode cX2_init 1 = .ok (.invokespecial 3, 3) := by decide +kernel
theorem dX2_init_4 : decode cX2_init 4 = .ok (.aload_n 0, 1) := by decide +kernel
theorem dX2_init_5 : decode cX2_init 5 = .ok (.aload_n 1, 1) := by decide +kernel
theorem dX2_init_6 : decode cX2_init 6 = .ok (.putfield 9, 3) := by decide +kernel
theorem dX2_init_9 : decode cX2_init 9 = .ok (.return_, 1) := by decide +kernel
set_option maxRecDepth 20000 in
theorem ggX2_mirroredIn_X4_lengthOf : GoodIn wsX2_mirroredIn wsX4_lengthOf := goodIn_r _ [6, 7, 8, 9, 10, 11, 12, 13, 28, 29] (by decide +kernel) (by decide +kernel)
set_option maxRecDepth 20000 in
theorem gX2_mirroredIn_X4_lengthOf : GoodIn wsX2_mirroredIn (wsV RX2 15 RX4 yX4_lengthOf wsX4_lengthOf) := goodIn_app (goodIn_of _ (by decide +kernel)) ggX2_mirroredIn_X4_lengthOf
set_option maxRecDepth 20000 in
theorem ggX2_mirroredIn_X4_dollAt : GoodIn wsX2_mirroredIn wsX4_dollAt := goodIn_r _ [17, 7, 18, 19, 20, 5, 21, 8, 9, 10, 11, 12, 13, 28, 29] (by decide +kernel) (by decide +kernel)
set_option maxRecDepth 20000 in
theorem gX2_mirroredIn_X4_dollAt : GoodIn wsX2_mirroredIn (wsV RX2 21 RX4 yX4_dollAt wsX4_dollAt) := goodIn_app (goodIn_of _ (by decide +kernel)) ggX2_mirroredIn_X4_dollAt
set_option maxRecDepth 20000 in
theorem ggX2_mirroredIn_X6_isMirrored : GoodIn wsX2_mirroredIn wsX6_isMirrored := goodIn_r _ [24] (by decide +kernel) (by decide +kernel)
set_option maxRecDepth 20000 in
theorem gX2_mirroredIn_X6_isMirrored_n25 : GoodIn wsX2_mirroredIn (wsX6_isMirrored) := ggX2_mirroredIn_X6_isMirrored
set_option maxRecDepth 20000 in
theorem ggX2_mirroredIn_X6_oneIf : GoodIn wsX2_mirroredIn wsX6_oneIf := goodIn_r _ [26] (by decide +kernel) (by decide +kernel)
set_option maxRecDepth 20000 in
theorem gX2_mirroredIn_X6_oneIf_n29 : GoodIn wsX2_mirroredIn (wsX6_oneIf) := ggX2_mirroredIn_X6_oneIf
theorem dX2_mirroredIn_0 : decode cX2_mirroredIn 0 = .ok (.aload_n 0, 1) := by decide +kernel
theorem dX2_mirroredIn_1 : decode cX2_mirroredIn 1 = .ok (.getfield 9, 3) := by decide +kernel
theorem dX2_mirroredIn_4 : decode cX2_mirroredIn 4 = .ok (.iload_n 1, 1) := by decide +kernel
theorem dX2_mirroredIn_5 : decode cX2_mirroredIn 5 = .ok (.invokevirtual 15, 3) := by decide +kernel
theorem dX2_mirroredIn_8 : decode cX2_mirroredIn 8 = .ok (.istore_n 2, 1) := by decide +kernel
theorem dX2_mirroredIn_9 : decode cX2_mirroredIn 9 = .ok (.iconst 0, 1) := by decide +kernel
theorem dX2_mirroredIn_10 : decode cX2_mirroredIn 10 = .ok (.istore_n 3, 1) := by decide +kernel
theorem dX2_mirroredIn_11 : decode cX2_mirroredIn 11 = .ok (.iconst 0, 1) := by decide +kernel
theorem dX2_mirroredIn_12 : decode cX2_mirroredIn 12 = .ok (.istore 4, 2) := by decide +kernel
theorem dX2_mirroredIn_14 : decode cX2_mirroredIn 14 = .ok (.iload 4, 2) := by decide +kernel
theorem dX2_mirroredIn_16 : decode cX2_mirroredIn 16 = .ok (.iload_n 2, 1) := by decide +kernel
theorem dX2_mirroredIn_17 : decode cX2_mirroredIn 17 = .ok (.if_icmp .ge 28, 3) := by decide +kernel
theorem dX2_mirroredIn_20 : decode cX2_mirroredIn 20 = .ok (.iload_n 3, 1) := by decide +kernel
theorem dX2_mirroredIn_21 : decode cX2_mirroredIn 21 = .ok (.aload_n 0, 1) := by decide +kernel
theorem dX2_mirroredIn_22 : decode cX2_mirroredIn 22 = .ok (.getfield 9, 3) := by decide +kernel
theorem dX2_mirroredIn_25 : decode cX2_mirroredIn 25 = .ok (.iload_n 1, 1) := by decide +kernel
theorem dX2_mirroredIn_26 : decode cX2_mirroredIn 26 = .ok (.iload 4, 2) := by decide +kernel
theorem dX2_mirroredIn_28 : decode cX2_mirroredIn 28 = .ok (.invokevirtual 21, 3) := by decide +kernel
theorem dX2_mirroredIn_31 : decode cX2_mirroredIn 31 = .ok (.invokestatic 25, 3) := by decide +kernel
theorem dX2_mirroredIn_34 : decode cX2_mirroredIn 34 = .ok (.invokestatic 29, 3) := by decide +kernel
theorem dX2_mirroredIn_37 : decode cX2_mirroredIn 37 = .ok (.iadd, 1) := by decide +kernel
theorem dX2_mirroredIn_38 : decode cX2_mirroredIn 38 = .ok (.istore_n 3, 1) := by decide +kernel
theorem dX2_mirroredIn_39 : decode cX2_mirroredIn 39 = .ok (.iinc 4 1, 3) := by decide +kernel
theorem dX2_mirroredIn_42 : decode cX2_mirroredIn 42 = .ok (.goto (-28), 3) := by decide +kernel
theorem dX2_mirroredIn_45 : decode cX2_mirroredIn 45 = .ok (.iload_n 3, 1) := by decide +kernel
theorem dX2_mirroredIn_46 : decode cX2_mirroredIn 46 = .ok (.ireturn, 1) := by decide +kernel
set_option maxRecDepth 20000 in
theorem ggX2_kindsIn_X4_lengthOf : GoodIn wsX2_kindsIn wsX4_lengthOf := goodIn_r _ [6, 7, 8, 9, 10, 11, 12, 13, 26, 27] (by decide +kernel) (by decide +kernel)
set_option maxRecDepth 20000 in
theorem gX2_kindsIn_X4_lengthOf : GoodIn wsX2_kindsIn (wsV RX2 15 RX4 yX4_lengthOf wsX4_lengthOf) := goodIn_app (goodIn_of _ (by decide +kernel)) ggX2_kindsIn_X4_lengthOf
set_option maxRecDepth 20000 in
theorem ggX2_kindsIn_X4_dollAt : GoodIn wsX2_kindsIn wsX4_dollAt := goodIn_r _ [17, 7, 18, 19, 20, 5, 21, 8, 9, 10, 11, 12, 13, 26, 27] (by decide +kernel) (by decide +kernel)
set_option maxRecDepth 20000 in
theorem gX2_kindsIn_X4_dollAt : GoodIn wsX2_kindsIn (wsV RX2 21 RX4 yX4_dollAt wsX4_dollAt) := goodIn_app (goodIn_of _ (by decide +kernel)) ggX2_kindsIn_X4_dollAt
set_option maxRecDepth 20000 in
theorem ggX2_kindsIn_X6_kindOf : GoodIn wsX2_kindsIn wsX6_kindOf := goodIn_r _ [24] (by decide +kernel) (by decide +kernel)
set_option maxRecDepth 20000 in
theorem gX2_kindsIn_X6_kindOf_n33 : GoodIn wsX2_kindsIn (wsX6_kindOf) := ggX2_kindsIn_X6_kindOf
theorem dX2_kindsIn_0 : decode cX2_kindsIn 0 = .ok (.aload_n 0, 1) := by decide +kernel
theorem dX2_kindsIn_1 : decode cX2_kindsIn 1 = .ok (.getfield 9, 3) := by decide +kernel
theorem dX2_kindsIn_4 : decode cX2_kindsIn 4 = .ok (.iload_n 1, 1) := by decide +kernel
theorem dX2_kindsIn_5 : decode cX2_kindsIn 5 = .ok (.invokevirtual 15, 3) := by decide +kernel
theorem dX2_kindsIn_8 : decode cX2_kindsIn 8 = .ok (.istore_n 2, 1) := by decide +kernel
theorem dX2_kindsIn_9 : decode cX2_kindsIn 9 = .ok (.iconst 0, 1) := by decide +kernel
theorem dX2_kindsIn_10 : decode cX2_kindsIn 10 = .ok (.istore_n 3, 1) := by decide +kernel
theorem dX2_kindsIn_11 : decode cX2_kindsIn 11 = .ok (.iconst 0, 1) := by decide +kernel
theorem dX2_kindsIn_12 : decode cX2_kindsIn 12 = .ok (.istore 4, 2) := by decide +kernel
theorem dX2_kindsIn_14 : decode cX2_kindsIn 14 = .ok (.iload 4, 2) := by decide +kernel
theorem dX2_kindsIn_16 : decode cX2_kindsIn 16 = .ok (.iload_n 2, 1) := by decide +kernel
theorem dX2_kindsIn_17 : decode cX2_kindsIn 17 = .ok (.if_icmp .ge 27, 3) := by decide +kernel
theorem dX2_kindsIn_20 : decode cX2_kindsIn 20 = .ok (.iload_n 3, 1) := by decide +kernel
theorem dX2_kindsIn_21 : decode cX2_kindsIn 21 = .ok (.iconst 1, 1) := by decide +kernel
theorem dX2_kindsIn_22 : decode cX2_kindsIn 22 = .ok (.aload_n 0, 1) := by decide +kernel
theorem dX2_kindsIn_23 : decode cX2_kindsIn 23 = .ok (.getfield 9, 3) := by decide +kernel
theorem dX2_kindsIn_26 : decode cX2_kindsIn 26 = .ok (.iload_n 1, 1) := by decide +kernel
theorem dX2_kindsIn_27 : decode cX2_kindsIn 27 = .ok (.iload 4, 2) := by decide +kernel
theorem dX2_kindsIn_29 : decode cX2_kindsIn 29 = .ok (.invokevirtual 21, 3) := by decide +kernel
theorem dX2_kindsIn_32 : decode cX2_kindsIn 32 = .ok (.invokestatic 33, 3) := by decide +kernel
theorem dX2_kindsIn_35 : decode cX2_kindsIn 35 = .ok (.ishl, 1) := by decide +kernel
theorem dX2_kindsIn_36 : decode cX2_kindsIn 36 = .ok (.ior, 1) := by decide +kernel
theorem dX2_kindsIn_37 : decode cX2_kindsIn 37 = .ok (.istore_n 3, 1) := by decide +kernel
theorem dX2_kindsIn_38 : decode cX2_kindsIn 38 = .ok (.iinc 4 1, 3) := by decide +kernel
theorem dX2_kindsIn_41 : decode cX2_kindsIn 41 = .ok (.goto (-27), 3) := by decide +kernel
theorem dX2_kindsIn_44 : decode cX2_kindsIn 44 = .ok (.iload_n 3, 1) := by decide +kernel
theorem dX2_kindsIn_45 : decode cX2_kindsIn 45 = .ok (.ireturn, 1) := by decide +kernel
set_option maxRecDepth 20000 in
theorem ggX2_isSame_X4_lengthOf : GoodIn wsX2_isSame wsX4_lengthOf := goodIn_r _ [6, 7, 8, 9, 10, 11, 12, 13, 23, 24] (by decide +kernel) (by decide +kernel)
set_option maxRecDepth 20000 in
theorem gX2_isSame_X4_lengthOf : GoodIn wsX2_isSame (wsV RX2 15 RX4 yX4_lengthOf wsX4_lengthOf) := goodIn_app (goodIn_of _ (by decide +kernel)) ggX2_isSame_X4_lengthOf
set_option maxRecDepth 20000 in
theorem ggX2_isSame_X4_dollAt : GoodIn wsX2_isSame wsX4_dollAt := goodIn_r _ [17, 7, 18, 19, 20, 5, 21, 8, 9, 10, 11, 12, 13, 23, 24] (by decide +kernel) (by decide +kernel)
set_option maxRecDepth 20000 in
theorem gX2_isSame_X4_dollAt : GoodIn wsX2_isSame (wsV RX2 21 RX4 yX4_dollAt wsX4_dollAt) := goodIn_app (goodIn_of _ (by decide +kernel)) ggX2_isSame_X4_dollAt
theorem dX2_isSame_0 : decode cX2_isSame 0 = .ok (.aload_n 0, 1) := by decide +kernel
theorem dX2_isSame_1 : decode cX2_isSame 1 = .ok (.getfield 9, 3) := by decide +kernel
theorem dX2_isSame_4 : decode cX2_isSame 4 = .ok (.iload_n 1, 1) := by decide +kernel
theorem dX2_isSame_5 : decode cX2_isSame 5 = .ok (.invokevirtual 15, 3) := by decide +kernel
theorem dX2_isSame_8 : decode cX2_isSame 8 = .ok (.istore_n 3, 1) := by decide +kernel
theorem dX2_isSame_9 : decode cX2_isSame 9 = .ok (.iload_n 3, 1) := by decide +kernel
theorem dX2_isSame_10 : decode cX2_isSame 10 = .ok (.aload_n 0, 1) := by decide +kernel
theorem dX2_isSame_11 : decode cX2_isSame 11 = .ok (.getfield 9, 3) := by decide +kernel
theorem dX2_isSame_14 : decode cX2_isSame 14 = .ok (.iload_n 2, 1) := by decide +kernel
theorem dX2_isSame_15 : decode cX2_isSame 15 = .ok (.invokevirtual 15, 3) := by decide +kernel
theorem dX2_isSame_18 : decode cX2_isSame 18 = .ok (.if_icmp .eq 5, 3) := by decide +kernel
theorem dX2_isSame_21 : decode cX2_isSame 21 = .ok (.iconst 0, 1) := by decide +kernel
theorem dX2_isSame_22 : decode cX2_isSame 22 = .ok (.ireturn, 1) := by decide +kernel
theorem dX2_isSame_23 : decode cX2_isSame 23 = .ok (.iconst 0, 1) := by decide +kernel
theorem dX2_isSame_24 : decode cX2_isSame 24 = .ok (.istore 4, 2) := by decide +kernel
theorem dX2_isSame_26 : decode cX2_isSame 26 = .ok (.iload 4, 2) := by decide +kernel
theorem dX2_isSame_28 : decode cX2_isSame 28 = .ok (.iload_n 3, 1) := by decide +kernel
theorem dX2_isSame_29 : decode cX2_isSame 29 = .ok (.if_icmp .ge 34, 3) := by decide +kernel
theorem dX2_isSame_32 : decode cX2_isSame 32 = .ok (.aload_n 0, 1) := by decide +kernel
theorem dX2_isSame_33 : decode cX2_isSame 33 = .ok (.getfield 9, 3) := by decide +kernel
theorem dX2_isSame_36 : decode cX2_isSame 36 = .ok (.iload_n 1, 1) := by decide +kernel
theorem dX2_isSame_37 : decode cX2_isSame 37 = .ok (.iload 4, 2) := by decide +kernel
theorem dX2_isSame_39 : decode cX2_isSame 39 = .ok (.invokevirtual 21, 3) := by decide +kernel
theorem dX2_isSame_42 : decode cX2_isSame 42 = .ok (.aload_n 0, 1) := by decide +kernel
theorem dX2_isSame_43 : decode cX2_isSame 43 = .ok (.getfield 9, 3) := by decide +kernel
theorem dX2_isSame_46 : decode cX2_isSame 46 = .ok (.iload_n 2, 1) := by decide +kernel
theorem dX2_isSame_47 : decode cX2_isSame 47 = .ok (.iload 4, 2) := by decide +kernel
theorem dX2_isSame_49 : decode cX2_isSame 49 = .ok (.invokevirtual 21, 3) := by decide +kernel
theorem dX2_isSame_52 : decode cX2_isSame 52 = .ok (.if_icmp .eq 5, 3) := by decide +kernel
theorem dX2_isSame_55 : decode cX2_isSame 55 = .ok (.iconst 0, 1) := by decide +kernel
theorem dX2_isSame_56 : decode cX2_isSame 56 = .ok (.ireturn, 1) := by decide +kernel
theorem dX2_isSame_57 : decode cX2_isSame 57 = .ok (.iinc 4 1, 3) := by decide +kernel
theorem dX2_isSame_60 : decode cX2_isSame 60 = .ok (.goto (-34), 3) := by decide +kernel
theorem dX2_isSame_63 : decode cX2_isSame 63 = .ok (.iconst 1, 1) := by decide +kernel
theorem dX2_isSame_64 : decode cX2_isSame 64 = .ok (.ireturn, 1) := by decide +kernel
set_option maxRecDepth 20000 in
theorem ggX2_isMirror_X4_lengthOf : GoodIn wsX2_isMirror wsX4_lengthOf := goodIn_r _ [6, 7, 8, 9, 10, 11, 12, 13, 26, 27] (by decide +kernel) (by decide +kernel)
set_option maxRecDepth 20000 in
theorem gX2_isMirror_X4_lengthOf : GoodIn wsX2_isMirror (wsV RX2 15 RX4 yX4_lengthOf wsX4_lengthOf) := goodIn_app (goodIn_of _ (by decide +kernel)) ggX2_isMirror_X4_lengthOf
set_option maxRecDepth 20000 in
theorem ggX2_isMirror_X4_dollAt : GoodIn wsX2_isMirror wsX4_dollAt := goodIn_r _ [17, 7, 18, 19, 20, 5, 21, 8, 9, 10, 11, 12, 13, 26, 27] (by decide +kernel) (by decide +kernel)
set_option maxRecDepth 20000 in
theorem gX2_isMirror_X4_dollAt : GoodIn wsX2_isMirror (wsV RX2 21 RX4 yX4_dollAt wsX4_dollAt) := goodIn_app (goodIn_of _ (by decide +kernel)) ggX2_isMirror_X4_dollAt
set_option maxRecDepth 20000 in
theorem ggX2_isMirror_X6_mirrorOf : GoodIn wsX2_isMirror wsX6_mirrorOf := goodIn_r _ [24] (by decide +kernel) (by decide +kernel)
set_option maxRecDepth 20000 in
theorem gX2_isMirror_X6_mirrorOf_n36 : GoodIn wsX2_isMirror (wsX6_mirrorOf) := ggX2_isMirror_X6_mirrorOf
theorem dX2_isMirror_0 : decode cX2_isMirror 0 = .ok (.aload_n 0, 1) := by decide +kernel
theorem dX2_isMirror_1 : decode cX2_isMirror 1 = .ok (.getfield 9, 3) := by decide +kernel
theorem dX2_isMirror_4 : decode cX2_isMirror 4 = .ok (.iload_n 1, 1) := by decide +kernel
theorem dX2_isMirror_5 : decode cX2_isMirror 5 = .ok (.invokevirtual 15, 3) := by decide +kernel
theorem dX2_isMirror_8 : decode cX2_isMirror 8 = .ok (.istore_n 3, 1) := by decide +kernel
theorem dX2_isMirror_9 : decode cX2_isMirror 9 = .ok (.iload_n 3, 1) := by decide +kernel
theorem dX2_isMirror_10 : decode cX2_isMirror 10 = .ok (.aload_n 0, 1) := by decide +kernel
theorem dX2_isMirror_11 : decode cX2_isMirror 11 = .ok (.getfield 9, 3) := by decide +kernel
theorem dX2_isMirror_14 : decode cX2_isMirror 14 = .ok (.iload_n 2, 1) := by decide +kernel
theorem dX2_isMirror_15 : decode cX2_isMirror 15 = .ok (.invokevirtual 15, 3) := by decide +kernel
theorem dX2_isMirror_18 : decode cX2_isMirror 18 = .ok (.if_icmp .eq 5, 3) := by decide +kernel
theorem dX2_isMirror_21 : decode cX2_isMirror 21 = .ok (.iconst 0, 1) := by decide +kernel
theorem dX2_isMirror_22 : decode cX2_isMirror 22 = .ok (.ireturn, 1) := by decide +kernel
theorem dX2_isMirror_23 : decode cX2_isMirror 23 = .ok (.iconst 0, 1) := by decide +kernel
theorem dX2_isMirror_24 : decode cX2_isMirror 24 = .ok (.istore 4, 2) := by decide +kernel
theorem dX2_isMirror_26 : decode cX2_isMirror 26 = .ok (.iload 4, 2) := by decide +kernel
theorem dX2_isMirror_28 : decode cX2_isMirror 28 = .ok (.iload_n 3, 1) := by decide +kernel
theorem dX2_isMirror_29 : decode cX2_isMirror 29 = .ok (.if_icmp .ge 45, 3) := by decide +kernel
theorem dX2_isMirror_32 : decode cX2_isMirror 32 = .ok (.aload_n 0, 1) := by decide +kernel
theorem dX2_isMirror_33 : decode cX2_isMirror 33 = .ok (.getfield 9, 3) := by decide +kernel
theorem dX2_isMirror_36 : decode cX2_isMirror 36 = .ok (.iload_n 2, 1) := by decide +kernel
theorem dX2_isMirror_37 : decode cX2_isMirror 37 = .ok (.iload_n 3, 1) := by decide +kernel
theorem dX2_isMirror_38 : decode cX2_isMirror 38 = .ok (.iconst 1, 1) := by decide +kernel
theorem dX2_isMirror_39 : decode cX2_isMirror 39 = .ok (.isub, 1) := by decide +kernel
theorem dX2_isMirror_40 : decode cX2_isMirror 40 = .ok (.iload 4, 2) := by decide +kernel
theorem dX2_isMirror_42 : decode cX2_isMirror 42 = .ok (.isub, 1) := by decide +kernel
theorem dX2_isMirror_43 : decode cX2_isMirror 43 = .ok (.invokevirtual 21, 3) := by decide +kernel
theorem dX2_isMirror_46 : decode cX2_isMirror 46 = .ok (.istore 5, 2) := by decide +kernel
theorem dX2_isMirror_48 : decode cX2_isMirror 48 = .ok (.aload_n 0, 1) := by decide +kernel
theorem dX2_isMirror_49 : decode cX2_isMirror 49 = .ok (.getfield 9, 3) := by decide +kernel
theorem dX2_isMirror_52 : decode cX2_isMirror 52 = .ok (.iload_n 1, 1) := by decide +kernel
theorem dX2_isMirror_53 : decode cX2_isMirror 53 = .ok (.iload 4, 2) := by decide +kernel
theorem dX2_isMirror_55 : decode cX2_isMirror 55 = .ok (.invokevirtual 21, 3) := by decide +kernel
theorem dX2_isMirror_58 : decode cX2_isMirror 58 = .ok (.iload 5, 2) := by decide +kernel
theorem dX2_isMirror_60 : decode cX2_isMirror 60 = .ok (.invokestatic 36, 3) := by decide +kernel
theorem dX2_isMirror_63 : decode cX2_isMirror 63 = .ok (.if_icmp .eq 5, 3) := by decide +kernel
theorem dX2_isMirror_66 : decode cX2_isMirror 66 = .ok (.iconst 0, 1) := by decide +kernel
theorem dX2_isMirror_67 : decode cX2_isMirror 67 = .ok (.ireturn, 1) := by decide +kernel
theorem dX2_isMirror_68 : decode cX2_isMirror 68 = .ok (.iinc 4 1, 3) := by decide +kernel
theorem dX2_isMirror_71 : decode cX2_isMirror 71 = .ok (.goto (-45), 3) := by decide +kernel
theorem dX2_isMirror_74 : decode cX2_isMirror 74 = .ok (.iconst 1, 1) := by decide +kernel
theorem dX2_isMirror_75 : decode cX2_isMirror 75 = .ok (.ireturn, 1) := by decide +kernel
set_option maxRecDepth 20000 in
theorem ggX2_isOwnMirror_X2_isMirror : GoodIn wsX2_isOwnMirror wsX2_isMirror := goodIn_r _ [5, 6, 7, 8, 9, 10, 11, 12, 13, 14, 15, 16, 17, 18, 19, 20, 21, 22, 23, 24, 25, 26, 27, 28, 29, 30, 31, 32] (by decide +kernel) (by decide +kernel)
set_option maxRecDepth 20000 in
theorem gX2_isOwnMirror_X2_isMirror : GoodIn wsX2_isOwnMirror (wsV RX2 39 RX2 yX2_isMirror wsX2_isMirror) := goodIn_app (goodIn_of _ (by decide +kernel)) ggX2_isOwnMirror_X2_isMirror
theorem dX2_isOwnMirror_0 : decode cX2_isOwnMirror 0 = .ok (.aload_n 0, 1) := by decide +kernel
theorem dX2_isOwnMirror_1 : decode cX2_isOwnMirror 1 = .ok (.iload_n 1, 1) := by decide +kernel
theorem dX2_isOwnMirror_2 : decode cX2_isOwnMirror 2 = .ok (.iload_n 1, 1) := by decide +kernel
theorem dX2_isOwnMirror_3 : decode cX2_isOwnMirror 3 = .ok (.invokevirtual 39, 3) := by decide +kernel
theorem dX2_isOwnMirror_6 : decode cX2_isOwnMirror 6 = .ok (.ireturn, 1) := by decide +kernel
set_option maxRecDepth 20000 in
theorem ggX2_repeatsAfter_X4_lengthOf : GoodIn wsX2_repeatsAfter wsX4_lengthOf := goodIn_r _ [6, 7, 8, 9, 10, 11, 12, 13, 23, 24] (by decide +kernel) (by decide +kernel)
set_option maxRecDepth 20000 in
theorem gX2_repeatsAfter_X4_lengthOf : GoodIn wsX2_repeatsAfter (wsV RX2 15 RX4 yX4_lengthOf wsX4_lengthOf) := goodIn_app (goodIn_of _ (by decide +kernel)) ggX2_repeatsAfter_X4_lengthOf
set_option maxRecDepth 20000 in
theorem ggX2_repeatsAfter_X4_dollAt : GoodIn wsX2_repeatsAfter wsX4_dollAt := goodIn_r _ [17, 7, 18, 19, 20, 5, 21, 8, 9, 10, 11, 12, 13, 23, 24] (by decide +kernel) (by decide +kernel)
set_option maxRecDepth 20000 in
theorem gX2_repeatsAfter_X4_dollAt : GoodIn wsX2_repeatsAfter (wsV RX2 21 RX4 yX4_dollAt wsX4_dollAt) := goodIn_app (goodIn_of _ (by decide +kernel)) ggX2_repeatsAfter_X4_dollAt
theorem dX2_repeatsAfter_0 : decode cX2_repeatsAfter 0 = .ok (.aload_n 0, 1) := by decide +kernel
theorem dX2_repeatsAfter_1 : decode cX2_repeatsAfter 1 = .ok (.getfield 9, 3) := by decide +kernel
theorem dX2_repeatsAfter_4 : decode cX2_repeatsAfter 4 = .ok (.iload_n 1, 1) := by decide +kernel
theorem dX2_repeatsAfter_5 : decode cX2_repeatsAfter 5 = .ok (.invokevirtual 15, 3) := by decide +kernel
theorem dX2_repeatsAfter_8 : decode cX2_repeatsAfter 8 = .ok (.istore_n 3, 1) := by decide +kernel
theorem dX2_repeatsAfter_9 : decode cX2_repeatsAfter 9 = .ok (.iload_n 2, 1) := by decide +kernel
theorem dX2_repeatsAfter_10 : decode cX2_repeatsAfter 10 = .ok (.istore 4, 2) := by decide +kernel
theorem dX2_repeatsAfter_12 : decode cX2_repeatsAfter 12 = .ok (.iload 4, 2) := by decide +kernel
theorem dX2_repeatsAfter_14 : decode cX2_repeatsAfter 14 = .ok (.iload_n 3, 1) := by decide +kernel
theorem dX2_repeatsAfter_15 : decode cX2_repeatsAfter 15 = .ok (.if_icmp .ge 36, 3) := by decide +kernel
theorem dX2_repeatsAfter_18 : decode cX2_repeatsAfter 18 = .ok (.aload_n 0, 1) := by decide +kernel
theorem dX2_repeatsAfter_19 : decode cX2_repeatsAfter 19 = .ok (.getfield 9, 3) := by decide +kernel
theorem dX2_repeatsAfter_22 : decode cX2_repeatsAfter 22 = .ok (.iload_n 1, 1) := by decide +kernel
theorem dX2_repeatsAfter_23 : decode cX2_repeatsAfter 23 = .ok (.iload 4, 2) := by decide +kernel
theorem dX2_repeatsAfter_25 : decode cX2_repeatsAfter 25 = .ok (.invokevirtual 21, 3) := by decide +kernel
theorem dX2_repeatsAfter_28 : decode cX2_repeatsAfter 28 = .ok (.aload_n 0, 1) := by decide +kernel
theorem dX2_repeatsAfter_29 : decode cX2_repeatsAfter 29 = .ok (.getfield 9, 3) := by decide +kernel
theorem dX2_repeatsAfter_32 : decode cX2_repeatsAfter 32 = .ok (.iload_n 1, 1) := by decide +kernel
theorem dX2_repeatsAfter_33 : decode cX2_repeatsAfter 33 = .ok (.iload 4, 2) := by decide +kernel
theorem dX2_repeatsAfter_35 : decode cX2_repeatsAfter 35 = .ok (.iload_n 2, 1) := by decide +kernel
theorem dX2_repeatsAfter_36 : decode cX2_repeatsAfter 36 = .ok (.isub, 1) := by decide +kernel
theorem dX2_repeatsAfter_37 : decode cX2_repeatsAfter 37 = .ok (.invokevirtual 21, 3) := by decide +kernel
theorem dX2_repeatsAfter_40 : decode cX2_repeatsAfter 40 = .ok (.if_icmp .eq 5, 3) := by decide +kernel
theorem dX2_repeatsAfter_43 : decode cX2_repeatsAfter 43 = .ok (.iconst 0, 1) := by decide +kernel
theorem dX2_repeatsAfter_44 : decode cX2_repeatsAfter 44 = .ok (.ireturn, 1) := by decide +kernel
theorem dX2_repeatsAfter_45 : decode cX2_repeatsAfter 45 = .ok (.iinc 4 1, 3) := by decide +kernel
theorem dX2_repeatsAfter_48 : decode cX2_repeatsAfter 48 = .ok (.goto (-36), 3) := by decide +kernel
theorem dX2_repeatsAfter_51 : decode cX2_repeatsAfter 51 = .ok (.iconst 1, 1) := by decide +kernel
theorem dX2_repeatsAfter_52 : decode cX2_repeatsAfter 52 = .ok (.ireturn, 1) := by decide +kernel
set_option maxRecDepth 20000 in
theorem ggX2_repeatOf_X4_lengthOf : GoodIn wsX2_repeatOf wsX4_lengthOf := goodIn_r _ [6, 7, 8, 9, 10, 11, 12, 13, 28, 29] (by decide +kernel) (by decide +kernel)
set_option maxRecDepth 20000 in
theorem gX2_repeatOf_X4_lengthOf : GoodIn wsX2_repeatOf (wsV RX2 15 RX4 yX4_lengthOf wsX4_lengthOf) := goodIn_app (goodIn_of _ (by decide +kernel)) ggX2_repeatOf_X4_lengthOf
set_option maxRecDepth 20000 in
theorem ggX2_repeatOf_X2_repeatsAfter : GoodIn wsX2_repeatOf wsX2_repeatsAfter := goodIn_r _ [18, 1, 2, 3, 4, 5, 6, 7, 8, 9, 10, 11, 12, 13, 19, 20, 21, 22, 23, 24, 25, 26, 27, 28, 29] (by decide +kernel) (by decide +kernel)
set_option maxRecDepth 20000 in
theorem gX2_repeatOf_X2_repeatsAfter : GoodIn wsX2_repeatOf (wsV RX2 43 RX2 yX2_repeatsAfter wsX2_repeatsAfter) := goodIn_app (goodIn_of _ (by decide +kernel)) ggX2_repeatOf_X2_repeatsAfter
theorem dX2_repeatOf_0 : decode cX2_repeatOf 0 = .ok (.aload_n 0, 1) := by decide +kernel
theorem dX2_repeatOf_1 : decode cX2_repeatOf 1 = .ok (.getfield 9, 3) := by decide +kernel
theorem dX2_repeatOf_4 : decode cX2_repeatOf 4 = .ok (.iload_n 1, 1) := by decide +kernel
theorem dX2_repeatOf_5 : decode cX2_repeatOf 5 = .ok (.invokevirtual 15, 3) := by decide +kernel
theorem dX2_repeatOf_8 : decode cX2_repeatOf 8 = .ok (.istore_n 2, 1) := by decide +kernel
theorem dX2_repeatOf_9 : decode cX2_repeatOf 9 = .ok (.iconst 1, 1) := by decide +kernel
theorem dX2_repeatOf_10 : decode cX2_repeatOf 10 = .ok (.istore_n 3, 1) := by decide +kernel
theorem dX2_repeatOf_11 : decode cX2_repeatOf 11 = .ok (.iload_n 3, 1) := by decide +kernel
theorem dX2_repeatOf_12 : decode cX2_repeatOf 12 = .ok (.iload_n 2, 1) := by decide +kernel
theorem dX2_repeatOf_13 : decode cX2_repeatOf 13 = .ok (.if_icmp .ge 20, 3) := by decide +kernel
theorem dX2_repeatOf_16 : decode cX2_repeatOf 16 = .ok (.aload_n 0, 1) := by decide +kernel
theorem dX2_repeatOf_17 : decode cX2_repeatOf 17 = .ok (.iload_n 1, 1) := by decide +kernel
theorem dX2_repeatOf_18 : decode cX2_repeatOf 18 = .ok (.iload_n 3, 1) := by decide +kernel
theorem dX2_repeatOf_19 : decode cX2_repeatOf 19 = .ok (.invokevirtual 43, 3) := by decide +kernel
theorem dX2_repeatOf_22 : decode cX2_repeatOf 22 = .ok (.ifCond .eq 5, 3) := by decide +kernel
theorem dX2_repeatOf_25 : decode cX2_repeatOf 25 = .ok (.iload_n 3, 1) := by decide +kernel
theorem dX2_repeatOf_26 : decode cX2_repeatOf 26 = .ok (.ireturn, 1) := by decide +kernel
theorem dX2_repeatOf_27 : decode cX2_repeatOf 27 = .ok (.iinc 3 1, 3) := by decide +kernel
theorem dX2_repeatOf_30 : decode cX2_repeatOf 30 = .ok (.goto (-19), 3) := by decide +kernel
theorem dX2_repeatOf_33 : decode cX2_repeatOf 33 = .ok (.iload_n 2, 1) := by decide +kernel
theorem dX2_repeatOf_34 : decode cX2_repeatOf 34 = .ok (.ireturn, 1) := by decide +kernel
set_option maxRecDepth 20000 in
theorem ggX2_lowestAlike_X2_isSame : GoodIn wsX2_lowestAlike wsX2_isSame := goodIn_r _ [5, 6, 7, 8, 9, 10, 11, 12, 13, 14, 15, 16, 17, 18, 19, 20, 21, 22, 23, 24, 25, 26, 34, 35, 36] (by decide +kernel) (by decide +kernel)
set_option maxRecDepth 20000 in
theorem gX2_lowestAlike_X2_isSame : GoodIn wsX2_lowestAlike (wsV RX2 46 RX2 yX2_isSame wsX2_isSame) := goodIn_app (goodIn_of _ (by decide +kernel)) ggX2_lowestAlike_X2_isSame
set_option maxRecDepth 20000 in
theorem ggX2_lowestAlike_X2_isMirror : GoodIn wsX2_lowestAlike wsX2_isMirror := goodIn_r _ [30, 6, 7, 8, 9, 10, 11, 12, 13, 14, 15, 16, 17, 18, 19, 20, 21, 22, 23, 24, 25, 26, 31, 32, 33, 34, 35, 36] (by decide +kernel) (by decide +kernel)
set_option maxRecDepth 20000 in
theorem gX2_lowestAlike_X2_isMirror : GoodIn wsX2_lowestAlike (wsV RX2 39 RX2 yX2_isMirror wsX2_isMirror) := goodIn_app (goodIn_of _ (by decide +kernel)) ggX2_lowestAlike_X2_isMirror
theorem dX2_lowestAlike_0 : decode cX2_lowestAlike 0 = .ok (.iconst 0, 1) := by decide +kernel
theorem dX2_lowestAlike_1 : decode cX2_lowestAlike 1 = .ok (.istore_n 2, 1) := by decide +kernel
theorem dX2_lowestAlike_2 : decode cX2_lowestAlike 2 = .ok (.iload_n 2, 1) := by decide +kernel
theorem dX2_lowestAlike_3 : decode cX2_lowestAlike 3 = .ok (.iload_n 1, 1) := by decide +kernel
theorem dX2_lowestAlike_4 : decode cX2_lowestAlike 4 = .ok (.if_icmp .ge 29, 3) := by decide +kernel
theorem dX2_lowestAlike_7 : decode cX2_lowestAlike 7 = .ok (.aload_n 0, 1) := by decide +kernel
theorem dX2_lowestAlike_8 : decode cX2_lowestAlike 8 = .ok (.iload_n 1, 1) := by decide +kernel
theorem dX2_lowestAlike_9 : decode cX2_lowestAlike 9 = .ok (.iload_n 2, 1) := by decide +kernel
theorem dX2_lowestAlike_10 : decode cX2_lowestAlike 10 = .ok (.invokevirtual 46, 3) := by decide +kernel
theorem dX2_lowestAlike_13 : decode cX2_lowestAlike 13 = .ok (.ifCond .ne 12, 3) := by decide +kernel
theorem dX2_lowestAlike_16 : decode cX2_lowestAlike 16 = .ok (.aload_n 0, 1) := by decide +kernel
theorem dX2_lowestAlike_17 : decode cX2_lowestAlike 17 = .ok (.iload_n 1, 1) := by decide +kernel
theorem dX2_lowestAlike_18 : decode cX2_lowestAlike 18 = .ok (.iload_n 2, 1) := by decide +kernel
theorem dX2_lowestAlike_19 : decode cX2_lowestAlike 19 = .ok (.invokevirtual 39, 3) := by decide +kernel
theorem dX2_lowestAlike_22 : decode cX2_lowestAlike 22 = .ok (.ifCond .eq 5, 3) := by decide +kernel
theorem dX2_lowestAlike_25 : decode cX2_lowestAlike 25 = .ok (.iload_n 2, 1) := by decide +kernel
theorem dX2_lowestAlike_26 : decode cX2_lowestAlike 26 = .ok (.ireturn, 1) := by decide +kernel
theorem dX2_lowestAlike_27 : decode cX2_lowestAlike 27 = .ok (.iinc 2 1, 3) := by decide +kernel
theorem dX2_lowestAlike_30 : decode cX2_lowestAlike 30 = .ok (.goto (-28), 3) := by decide +kernel
theorem dX2_lowestAlike_33 : decode cX2_lowestAlike 33 = .ok (.iload_n 1, 1) := by decide +kernel
theorem dX2_lowestAlike_34 : decode cX2_lowestAlike 34 = .ok (.ireturn, 1) := by decide +kernel
set_option maxRecDepth 20000 in
theorem ggX2_highestKind_X4_lengthOf : GoodIn wsX2_highestKind wsX4_lengthOf := goodIn_r _ [10, 11, 12, 13, 14, 15, 16, 17, 30, 31] (by decide +kernel) (by decide +kernel)
set_option maxRecDepth 20000 in
theorem gX2_highestKind_X4_lengthOf : GoodIn wsX2_highestKind (wsV RX2 15 RX4 yX4_lengthOf wsX4_lengthOf) := goodIn_app (goodIn_of _ (by decide +kernel)) ggX2_highestKind_X4_lengthOf
set_option maxRecDepth 20000 in
theorem ggX2_highestKind_X4_dollAt : GoodIn wsX2_highestKind wsX4_dollAt := goodIn_r _ [21, 11, 22, 23, 24, 9, 25, 12, 13, 14, 15, 16, 17, 30, 31] (by decide +kernel) (by decide +kernel)
set_option maxRecDepth 20000 in
theorem gX2_highestKind_X4_dollAt : GoodIn wsX2_highestKind (wsV RX2 21 RX4 yX4_dollAt wsX4_dollAt) := goodIn_app (goodIn_of _ (by decide +kernel)) ggX2_highestKind_X4_dollAt
set_option maxRecDepth 20000 in
theorem ggX2_highestKind_X6_kindOf : GoodIn wsX2_highestKind wsX6_kindOf := goodIn_r _ [28] (by decide +kernel) (by decide +kernel)
set_option maxRecDepth 20000 in
theorem gX2_highestKind_X6_kindOf_n33 : GoodIn wsX2_highestKind (wsX6_kindOf) := ggX2_highestKind_X6_kindOf
theorem dX2_highestKind_0 : decode cX2_highestKind 0 = .ok (.iconst 0, 1) := by decide +kernel
theorem dX2_highestKind_1 : decode cX2_highestKind 1 = .ok (.istore_n 1, 1) := by decide +kernel
theorem dX2_highestKind_2 : decode cX2_highestKind 2 = .ok (.iconst 0, 1) := by decide +kernel
theorem dX2_highestKind_3 : decode cX2_highestKind 3 = .ok (.istore_n 2, 1) := by decide +kernel
theorem dX2_highestKind_4 : decode cX2_highestKind 4 = .ok (.iload_n 2, 1) := by decide +kernel
theorem dX2_highestKind_5 : decode cX2_highestKind 5 = .ok (.bipush 8, 2) := by decide +kernel
theorem dX2_highestKind_7 : decode cX2_highestKind 7 = .ok (.if_icmp .ge 51, 3) := by decide +kernel
theorem dX2_highestKind_10 : decode cX2_highestKind 10 = .ok (.aload_n 0, 1) := by decide +kernel
theorem dX2_highestKind_11 : decode cX2_highestKind 11 = .ok (.getfield 9, 3) := by decide +kernel
theorem dX2_highestKind_14 : decode cX2_highestKind 14 = .ok (.iload_n 2, 1) := by decide +kernel
theorem dX2_highestKind_15 : decode cX2_highestKind 15 = .ok (.invokevirtual 15, 3) := by decide +kernel
theorem dX2_highestKind_18 : decode cX2_highestKind 18 = .ok (.istore_n 3, 1) := by decide +kernel
theorem dX2_highestKind_19 : decode cX2_highestKind 19 = .ok (.iconst 0, 1) := by decide +kernel
theorem dX2_highestKind_20 : decode cX2_highestKind 20 = .ok (.istore 4, 2) := by decide +kernel
theorem dX2_highestKind_22 : decode cX2_highestKind 22 = .ok (.iload 4, 2) := by decide +kernel
theorem dX2_highestKind_24 : decode cX2_highestKind 24 = .ok (.iload_n 3, 1) := by decide +kernel
theorem dX2_highestKind_25 : decode cX2_highestKind 25 = .ok (.if_icmp .ge 27, 3) := by decide +kernel
theorem dX2_highestKind_28 : decode cX2_highestKind 28 = .ok (.iload_n 1, 1) := by decide +kernel
theorem dX2_highestKind_29 : decode cX2_highestKind 29 = .ok (.aload_n 0, 1) := by decide +kernel
theorem dX2_highestKind_30 : decode cX2_highestKind 30 = .ok (.getfield 9, 3) := by decide +kernel
theorem dX2_highestKind_33 : decode cX2_highestKind 33 = .ok (.iload_n 2, 1) := by decide +kernel
theorem dX2_highestKind_34 : decode cX2_highestKind 34 = .ok (.iload 4, 2) := by decide +kernel
theorem dX2_highestKind_36 : decode cX2_highestKind 36 = .ok (.invokevirtual 21, 3) := by decide +kernel
theorem dX2_highestKind_39 : decode cX2_highestKind 39 = .ok (.invokestatic 33, 3) := by decide +kernel
theorem dX2_highestKind_42 : decode cX2_highestKind 42 = .ok (.invokestatic 49, 3) := by decide +kernel
theorem dX2_highestKind_45 : decode cX2_highestKind 45 = .ok (.istore_n 1, 1) := by decide +kernel
theorem dX2_highestKind_46 : decode cX2_highestKind 46 = .ok (.iinc 4 1, 3) := by decide +kernel
theorem dX2_highestKind_49 : decode cX2_highestKind 49 = .ok (.goto (-27), 3) := by decide +kernel
theorem dX2_highestKind_52 : decode cX2_highestKind 52 = .ok (.iinc 2 1, 3) := by decide +kernel
theorem dX2_highestKind_55 : decode cX2_highestKind 55 = .ok (.goto (-51), 3) := by decide +kernel
theorem dX2_highestKind_58 : decode cX2_highestKind 58 = .ok (.iload_n 1, 1) := by decide +kernel
theorem dX2_highestKind_59 : decode cX2_highestKind 59 = .ok (.ireturn, 1) := by decide +kernel
set_option maxRecDepth 20000 in
theorem ggX2_dollsLike_X4_lengthOf : GoodIn wsX2_dollsLike wsX4_lengthOf := goodIn_r _ [6, 7, 8, 9, 10, 11, 12, 13, 26, 27] (by decide +kernel) (by decide +kernel)
set_option maxRecDepth 20000 in
theorem gX2_dollsLike_X4_lengthOf : GoodIn wsX2_dollsLike (wsV RX2 15 RX4 yX4_lengthOf wsX4_lengthOf) := goodIn_app (goodIn_of _ (by decide +kernel)) ggX2_dollsLike_X4_lengthOf
set_option maxRecDepth 20000 in
theorem ggX2_dollsLike_X4_dollAt : GoodIn wsX2_dollsLike wsX4_dollAt := goodIn_r _ [17, 7, 18, 19, 20, 5, 21, 8, 9, 10, 11, 12, 13, 26, 27] (by decide +kernel) (by decide +kernel)
set_option maxRecDepth 20000 in
theorem gX2_dollsLike_X4_dollAt : GoodIn wsX2_dollsLike (wsV RX2 21 RX4 yX4_dollAt wsX4_dollAt) := goodIn_app (goodIn_of _ (by decide +kernel)) ggX2_dollsLike_X4_dollAt
set_option maxRecDepth 20000 in
theorem ggX2_dollsLike_X6_oneIf : GoodIn wsX2_dollsLike wsX6_oneIf := goodIn_r _ [24] (by decide +kernel) (by decide +kernel)
set_option maxRecDepth 20000 in
theorem gX2_dollsLike_X6_oneIf_n29 : GoodIn wsX2_dollsLike (wsX6_oneIf) := ggX2_dollsLike_X6_oneIf
theorem dX2_dollsLike_0 : decode cX2_dollsLike 0 = .ok (.iconst 0, 1) := by decide +kernel
theorem dX2_dollsLike_1 : decode cX2_dollsLike 1 = .ok (.istore_n 2, 1) := by decide +kernel
theorem dX2_dollsLike_2 : decode cX2_dollsLike 2 = .ok (.iconst 0, 1) := by decide +kernel
theorem dX2_dollsLike_3 : decode cX2_dollsLike 3 = .ok (.istore_n 3, 1) := by decide +kernel
theorem dX2_dollsLike_4 : decode cX2_dollsLike 4 = .ok (.iload_n 3, 1) := by decide +kernel
theorem dX2_dollsLike_5 : decode cX2_dollsLike 5 = .ok (.bipush 8, 2) := by decide +kernel
theorem dX2_dollsLike_7 : decode cX2_dollsLike 7 = .ok (.if_icmp .ge 60, 3) := by decide +kernel
theorem dX2_dollsLike_10 : decode cX2_dollsLike 10 = .ok (.aload_n 0, 1) := by decide +kernel
theorem dX2_dollsLike_11 : decode cX2_dollsLike 11 = .ok (.getfield 9, 3) := by decide +kernel
theorem dX2_dollsLike_14 : decode cX2_dollsLike 14 = .ok (.iload_n 3, 1) := by decide +kernel
theorem dX2_dollsLike_15 : decode cX2_dollsLike 15 = .ok (.invokevirtual 15, 3) := by decide +kernel
theorem dX2_dollsLike_18 : decode cX2_dollsLike 18 = .ok (.istore 4, 2) := by decide +kernel
theorem dX2_dollsLike_20 : decode cX2_dollsLike 20 = .ok (.iconst 0, 1) := by decide +kernel
theorem dX2_dollsLike_21 : decode cX2_dollsLike 21 = .ok (.istore 5, 2) := by decide +kernel
theorem dX2_dollsLike_23 : decode cX2_dollsLike 23 = .ok (.iload 5, 2) := by decide +kernel
theorem dX2_dollsLike_25 : decode cX2_dollsLike 25 = .ok (.iload 4, 2) := by decide +kernel
theorem dX2_dollsLike_27 : decode cX2_dollsLike 27 = .ok (.if_icmp .ge 34, 3) := by decide +kernel
theorem dX2_dollsLike_30 : decode cX2_dollsLike 30 = .ok (.iload_n 2, 1) := by decide +kernel
theorem dX2_dollsLike_31 : decode cX2_dollsLike 31 = .ok (.aload_n 0, 1) := by decide +kernel
theorem dX2_dollsLike_32 : decode cX2_dollsLike 32 = .ok (.getfield 9, 3) := by decide +kernel
theorem dX2_dollsLike_35 : decode cX2_dollsLike 35 = .ok (.iload_n 3, 1) := by decide +kernel
theorem dX2_dollsLike_36 : decode cX2_dollsLike 36 = .ok (.iload 5, 2) := by decide +kernel
theorem dX2_dollsLike_38 : decode cX2_dollsLike 38 = .ok (.invokevirtual 21, 3) := by decide +kernel
theorem dX2_dollsLike_41 : decode cX2_dollsLike 41 = .ok (.iload_n 1, 1) := by decide +kernel
theorem dX2_dollsLike_42 : decode cX2_dollsLike 42 = .ok (.if_icmp .ne 7, 3) := by decide +kernel
theorem dX2_dollsLike_45 : decode cX2_dollsLike 45 = .ok (.iconst 1, 1) := by decide +kernel
theorem dX2_dollsLike_46 : decode cX2_dollsLike 46 = .ok (.goto 4, 3) := by decide +kernel
theorem dX2_dollsLike_49 : decode cX2_dollsLike 49 = .ok (.iconst 0, 1) := by decide +kernel
theorem dX2_dollsLike_50 : decode cX2_dollsLike 50 = .ok (.invokestatic 29, 3) := by decide +kernel
theorem dX2_dollsLike_53 : decode cX2_dollsLike 53 = .ok (.iadd, 1) := by decide +kernel
theorem dX2_dollsLike_54 : decode cX2_dollsLike 54 = .ok (.istore_n 2, 1) := by decide +kernel
theorem dX2_dollsLike_55 : decode cX2_dollsLike 55 = .ok (.iinc 5 1, 3) := by decide +kernel
theorem dX2_dollsLike_58 : decode cX2_dollsLike 58 = .ok (.goto (-35), 3) := by decide +kernel
theorem dX2_dollsLike_61 : decode cX2_dollsLike 61 = .ok (.iinc 3 1, 3) := by decide +kernel
theorem dX2_dollsLike_64 : decode cX2_dollsLike 64 = .ok (.goto (-60), 3) := by decide +kernel
theorem dX2_dollsLike_67 : decode cX2_dollsLike 67 = .ok (.iload_n 2, 1) := by decide +kernel
theorem dX2_dollsLike_68 : decode cX2_dollsLike 68 = .ok (.ireturn, 1) := by decide +kernel
set_option maxRecDepth 20000 in
theorem ggX2_garlands_X4_hasGarland : GoodIn wsX2_garlands wsX4_hasGarland := goodIn_r _ [6, 7, 8, 9, 10, 11, 12, 5, 13, 14, 15, 16, 17, 18, 19, 20, 24, 25] (by decide +kernel) (by decide +kernel)
set_option maxRecDepth 20000 in
theorem gX2_garlands_X4_hasGarland : GoodIn wsX2_garlands (wsV RX2 54 RX4 yX4_hasGarland wsX4_hasGarland) := goodIn_app (goodIn_of _ (by decide +kernel)) ggX2_garlands_X4_hasGarland
set_option maxRecDepth 20000 in
theorem ggX2_garlands_X6_oneIf : GoodIn wsX2_garlands wsX6_oneIf := goodIn_r _ [22] (by decide +kernel) (by decide +kernel)
set_option maxRecDepth 20000 in
theorem gX2_garlands_X6_oneIf_n29 : GoodIn wsX2_garlands (wsX6_oneIf) := ggX2_garlands_X6_oneIf
theorem dX2_garlands_0 : decode cX2_garlands 0 = .ok (.iconst 0, 1) := by decide +kernel
theorem dX2_garlands_1 : decode cX2_garlands 1 = .ok (.istore_n 1, 1) := by decide +kernel
theorem dX2_garlands_2 : decode cX2_garlands 2 = .ok (.iconst 0, 1) := by decide +kernel
theorem dX2_garlands_3 : decode cX2_garlands 3 = .ok (.istore_n 2, 1) := by decide +kernel
theorem dX2_garlands_4 : decode cX2_garlands 4 = .ok (.iload_n 2, 1) := by decide +kernel
theorem dX2_garlands_5 : decode cX2_garlands 5 = .ok (.bipush 8, 2) := by decide +kernel
theorem dX2_garlands_7 : decode cX2_garlands 7 = .ok (.if_icmp .ge 23, 3) := by decide +kernel
theorem dX2_garlands_10 : decode cX2_garlands 10 = .ok (.iload_n 1, 1) := by decide +kernel
theorem dX2_garlands_11 : decode cX2_garlands 11 = .ok (.aload_n 0, 1) := by decide +kernel
theorem dX2_garlands_12 : decode cX2_garlands 12 = .ok (.getfield 9, 3) := by decide +kernel
theorem dX2_garlands_15 : decode cX2_garlands 15 = .ok (.iload_n 2, 1) := by decide +kernel
theorem dX2_garlands_16 : decode cX2_garlands 16 = .ok (.invokevirtual 54, 3) := by decide +kernel
theorem dX2_garlands_19 : decode cX2_garlands 19 = .ok (.invokestatic 29, 3) := by decide +kernel
theorem dX2_garlands_22 : decode cX2_garlands 22 = .ok (.iadd, 1) := by decide +kernel
theorem dX2_garlands_23 : decode cX2_garlands 23 = .ok (.istore_n 1, 1) := by decide +kernel
theorem dX2_garlands_24 : decode cX2_garlands 24 = .ok (.iinc 2 1, 3) := by decide +kernel
theorem dX2_garlands_27 : decode cX2_garlands 27 = .ok (.goto (-23), 3) := by decide +kernel
theorem dX2_garlands_30 : decode cX2_garlands 30 = .ok (.iload_n 1, 1) := by decide +kernel
theorem dX2_garlands_31 : decode cX2_garlands 31 = .ok (.ireturn, 1) := by decide +kernel
set_option maxRecDepth 20000 in
theorem ggX2_dolls_X4_lengthOf : GoodIn wsX2_dolls wsX4_lengthOf := goodIn_r _ [6, 7, 8, 9, 10, 11, 12, 13, 15, 16] (by decide +kernel) (by decide +kernel)
set_option maxRecDepth 20000 in
theorem gX2_dolls_X4_lengthOf : GoodIn wsX2_dolls (wsV RX2 15 RX4 yX4_lengthOf wsX4_lengthOf) := goodIn_app (goodIn_of _ (by decide +kernel)) ggX2_dolls_X4_lengthOf
theorem dX2_dolls_0 : decode cX2_dolls 0 = .ok (.iconst 0, 1) := by decide +kernel
theorem dX2_dolls_1 : decode cX2_dolls 1 = .ok (.istore_n 1, 1) := by decide +kernel
theorem dX2_dolls_2 : decode cX2_dolls 2 = .ok (.iconst 0, 1) := by decide +kernel
theorem dX2_dolls_3 : decode cX2_dolls 3 = .ok (.istore_n 2, 1) := by decide +kernel
theorem dX2_dolls_4 : decode cX2_dolls 4 = .ok (.iload_n 2, 1) := by decide +kernel
theorem dX2_dolls_5 : decode cX2_dolls 5 = .ok (.bipush 8, 2) := by decide +kernel
theorem dX2_dolls_7 : decode cX2_dolls 7 = .ok (.if_icmp .ge 20, 3) := by decide +kernel
theorem dX2_dolls_10 : decode cX2_dolls 10 = .ok (.iload_n 1, 1) := by decide +kernel
theorem dX2_dolls_11 : decode cX2_dolls 11 = .ok (.aload_n 0, 1) := by decide +kernel
theorem dX2_dolls_12 : decode cX2_dolls 12 = .ok (.getfield 9, 3) := by decide +kernel
theorem dX2_dolls_15 : decode cX2_dolls 15 = .ok (.iload_n 2, 1) := by decide +kernel
theorem dX2_dolls_16 : decode cX2_dolls 16 = .ok (.invokevirtual 15, 3) := by decide +kernel
theorem dX2_dolls_19 : decode cX2_dolls 19 = .ok (.iadd, 1) := by decide +kernel
theorem dX2_dolls_20 : decode cX2_dolls 20 = .ok (.istore_n 1, 1) := by decide +kernel
theorem dX2_dolls_21 : decode cX2_dolls 21 = .ok (.iinc 2 1, 3) := by decide +kernel
theorem dX2_dolls_24 : decode cX2_dolls 24 = .ok (.goto (-20), 3) := by decide +kernel
theorem dX2_dolls_27 : decode cX2_dolls 27 = .ok (.iload_n 1, 1) := by decide +kernel
theorem dX2_dolls_28 : decode cX2_dolls 28 = .ok (.ireturn, 1) := by decide +kernel
set_option maxRecDepth 20000 in
theorem ggX2_mirroredDolls_X2_mirroredIn : GoodIn wsX2_mirroredDolls wsX2_mirroredIn := goodIn_r _ [5, 6, 7, 8, 9, 10, 11, 12, 13, 14, 15, 16, 17, 18, 19, 20, 21, 22, 23, 24, 25, 26, 27, 28, 29, 30, 31, 32, 33, 34] (by decide +kernel) (by decide +kernel)
set_option maxRecDepth 20000 in
theorem gX2_mirroredDolls_X2_mirroredIn : GoodIn wsX2_mirroredDolls (wsV RX2 57 RX2 yX2_mirroredIn wsX2_mirroredIn) := goodIn_app (goodIn_of _ (by decide +kernel)) ggX2_mirroredDolls_X2_mirroredIn
theorem dX2_mirroredDolls_0 : decode cX2_mirroredDolls 0 = .ok (.iconst 0, 1) := by decide +kernel
theorem dX2_mirroredDolls_1 : decode cX2_mirroredDolls 1 = .ok (.istore_n 1, 1) := by decide +kernel
theorem dX2_mirroredDolls_2 : decode cX2_mirroredDolls 2 = .ok (.iconst 0, 1) := by decide +kernel
theorem dX2_mirroredDolls_3 : decode cX2_mirroredDolls 3 = .ok (.istore_n 2, 1) := by decide +kernel
theorem dX2_mirroredDolls_4 : decode cX2_mirroredDolls 4 = .ok (.iload_n 2, 1) := by decide +kernel
theorem dX2_mirroredDolls_5 : decode cX2_mirroredDolls 5 = .ok (.bipush 8, 2) := by decide +kernel
theorem dX2_mirroredDolls_7 : decode cX2_mirroredDolls 7 = .ok (.if_icmp .ge 17, 3) := by decide +kernel
theorem dX2_mirroredDolls_10 : decode cX2_mirroredDolls 10 = .ok (.iload_n 1, 1) := by decide +kernel
theorem dX2_mirroredDolls_11 : decode cX2_mirroredDolls 11 = .ok (.aload_n 0, 1) := by decide +kernel
theorem dX2_mirroredDolls_12 : decode cX2_mirroredDolls 12 = .ok (.iload_n 2, 1) := by decide +kernel
theorem dX2_mirroredDolls_13 : decode cX2_mirroredDolls 13 = .ok (.invokevirtual 57, 3) := by decide +kernel
theorem dX2_mirroredDolls_16 : decode cX2_mirroredDolls 16 = .ok (.iadd, 1) := by decide +kernel
theorem dX2_mirroredDolls_17 : decode cX2_mirroredDolls 17 = .ok (.istore_n 1, 1) := by decide +kernel
theorem dX2_mirroredDolls_18 : decode cX2_mirroredDolls 18 = .ok (.iinc 2 1, 3) := by decide +kernel
theorem dX2_mirroredDolls_21 : decode cX2_mirroredDolls 21 = .ok (.goto (-17), 3) := by decide +kernel
theorem dX2_mirroredDolls_24 : decode cX2_mirroredDolls 24 = .ok (.iload_n 1, 1) := by decide +kernel
theorem dX2_mirroredDolls_25 : decode cX2_mirroredDolls 25 = .ok (.ireturn, 1) := by decide +kernel
set_option maxRecDepth 20000 in
theorem ggX2_ownMirrors_X4_hasGarland : GoodIn wsX2_ownMirrors wsX4_hasGarland := goodIn_r _ [6, 7, 8, 9, 10, 11, 12, 5, 13, 14, 15, 16, 17, 18, 19, 20, 44, 45] (by decide +kernel) (by decide +kernel)
set_option maxRecDepth 20000 in
theorem gX2_ownMirrors_X4_hasGarland : GoodIn wsX2_ownMirrors (wsV RX2 54 RX4 yX4_hasGarland wsX4_hasGarland) := goodIn_app (goodIn_of _ (by decide +kernel)) ggX2_ownMirrors_X4_hasGarland
set_option maxRecDepth 20000 in
theorem ggX2_ownMirrors_X2_isOwnMirror : GoodIn wsX2_ownMirrors wsX2_isOwnMirror := goodIn_r _ [25, 26, 27, 28, 24, 29, 1, 30, 11, 12, 5, 13, 14, 15, 16, 17, 18, 19, 20, 31, 32, 33, 34, 35, 36, 37, 38, 39, 8, 40, 43, 44, 45] (by decide +kernel) (by decide +kernel)
set_option maxRecDepth 20000 in
theorem gX2_ownMirrors_X2_isOwnMirror : GoodIn wsX2_ownMirrors (wsV RX2 60 RX2 yX2_isOwnMirror wsX2_isOwnMirror) := goodIn_app (goodIn_of _ (by decide +kernel)) ggX2_ownMirrors_X2_isOwnMirror
set_option maxRecDepth 20000 in
theorem ggX2_ownMirrors_X6_oneIf : GoodIn wsX2_ownMirrors wsX6_oneIf := goodIn_r _ [42] (by decide +kernel) (by decide +kernel)
set_option maxRecDepth 20000 in
theorem gX2_ownMirrors_X6_oneIf_n29 : GoodIn wsX2_ownMirrors (wsX6_oneIf) := ggX2_ownMirrors_X6_oneIf
theorem dX2_ownMirrors_0 : decode cX2_ownMirrors 0 = .ok (.iconst 0, 1) := by decide +kernel
theorem dX2_ownMirrors_1 : decode cX2_ownMirrors 1 = .ok (.istore_n 1, 1) := by decide +kernel
theorem dX2_ownMirrors_2 : decode cX2_ownMirrors 2 = .ok (.iconst 0, 1) := by decide +kernel
theorem dX2_ownMirrors_3 : decode cX2_ownMirrors 3 = .ok (.istore_n 2, 1) := by decide +kernel
theorem dX2_ownMirrors_4 : decode cX2_ownMirrors 4 = .ok (.iload_n 2, 1) := by decide +kernel
theorem dX2_ownMirrors_5 : decode cX2_ownMirrors 5 = .ok (.bipush 8, 2) := by decide +kernel
theorem dX2_ownMirrors_7 : decode cX2_ownMirrors 7 = .ok (.if_icmp .ge 39, 3) := by decide +kernel
theorem dX2_ownMirrors_10 : decode cX2_ownMirrors 10 = .ok (.iload_n 1, 1) := by decide +kernel
theorem dX2_ownMirrors_11 : decode cX2_ownMirrors 11 = .ok (.aload_n 0, 1) := by decide +kernel
theorem dX2_ownMirrors_12 : decode cX2_ownMirrors 12 = .ok (.getfield 9, 3) := by decide +kernel
theorem dX2_ownMirrors_15 : decode cX2_ownMirrors 15 = .ok (.iload_n 2, 1) := by decide +kernel
theorem dX2_ownMirrors_16 : decode cX2_ownMirrors 16 = .ok (.invokevirtual 54, 3) := by decide +kernel
theorem dX2_ownMirrors_19 : decode cX2_ownMirrors 19 = .ok (.ifCond .eq 15, 3) := by decide +kernel
theorem dX2_ownMirrors_22 : decode cX2_ownMirrors 22 = .ok (.aload_n 0, 1) := by decide +kernel
theorem dX2_ownMirrors_23 : decode cX2_ownMirrors 23 = .ok (.iload_n 2, 1) := by decide +kernel
theorem dX2_ownMirrors_24 : decode cX2_ownMirrors 24 = .ok (.invokevirtual 60, 3) := by decide +kernel
theorem dX2_ownMirrors_27 : decode cX2_ownMirrors 27 = .ok (.ifCond .eq 7, 3) := by decide +kernel
theorem dX2_ownMirrors_30 : decode cX2_ownMirrors 30 = .ok (.iconst 1, 1) := by decide +kernel
theorem dX2_ownMirrors_31 : decode cX2_ownMirrors 31 = .ok (.goto 4, 3) := by decide +kernel
theorem dX2_ownMirrors_34 : decode cX2_ownMirrors 34 = .ok (.iconst 0, 1) := by decide +kernel
theorem dX2_ownMirrors_35 : decode cX2_ownMirrors 35 = .ok (.invokestatic 29, 3) := by decide +kernel
theorem dX2_ownMirrors_38 : decode cX2_ownMirrors 38 = .ok (.iadd, 1) := by decide +kernel
theorem dX2_ownMirrors_39 : decode cX2_ownMirrors 39 = .ok (.istore_n 1, 1) := by decide +kernel
theorem dX2_ownMirrors_40 : decode cX2_ownMirrors 40 = .ok (.iinc 2 1, 3) := by decide +kernel
theorem dX2_ownMirrors_43 : decode cX2_ownMirrors 43 = .ok (.goto (-39), 3) := by decide +kernel
theorem dX2_ownMirrors_46 : decode cX2_ownMirrors 46 = .ok (.iload_n 1, 1) := by decide +kernel
theorem dX2_ownMirrors_47 : decode cX2_ownMirrors 47 = .ok (.ireturn, 1) := by decide +kernel
set_option maxRecDepth 20000 in
theorem ggX2_handsThatMeet_X4_lengthOf : GoodIn wsX2_handsThatMeet wsX4_lengthOf := goodIn_r _ [6, 7, 8, 9, 10, 11, 12, 13, 38, 39] (by decide +kernel) (by decide +kernel)
set_option maxRecDepth 20000 in
theorem gX2_handsThatMeet_X4_lengthOf : GoodIn wsX2_handsThatMeet (wsV RX2 15 RX4 yX4_lengthOf wsX4_lengthOf) := goodIn_app (goodIn_of _ (by decide +kernel)) ggX2_handsThatMeet_X4_lengthOf
set_option maxRecDepth 20000 in
theorem ggX2_handsThatMeet_X4_dollAt : GoodIn wsX2_handsThatMeet wsX4_dollAt := goodIn_r _ [17, 7, 18, 19, 20, 5, 21, 8, 9, 10, 11, 12, 13, 38, 39] (by decide +kernel) (by decide +kernel)
set_option maxRecDepth 20000 in
theorem gX2_handsThatMeet_X4_dollAt : GoodIn wsX2_handsThatMeet (wsV RX2 21 RX4 yX4_dollAt wsX4_dollAt) := goodIn_app (goodIn_of _ (by decide +kernel)) ggX2_handsThatMeet_X4_dollAt
set_option maxRecDepth 20000 in
theorem ggX2_handsThatMeet_X4_rightOf : GoodIn wsX2_handsThatMeet wsX4_rightOf := goodIn_r _ [25, 7, 26, 27, 28, 29, 30, 8, 9, 10, 11, 12, 13, 38, 39] (by decide +kernel) (by decide +kernel)
set_option maxRecDepth 20000 in
theorem gX2_handsThatMeet_X4_rightOf : GoodIn wsX2_handsThatMeet (wsV RX2 63 RX4 yX4_rightOf wsX4_rightOf) := goodIn_app (goodIn_of _ (by decide +kernel)) ggX2_handsThatMeet_X4_rightOf
set_option maxRecDepth 20000 in
theorem ggX2_handsThatMeet_X4_leftOf : GoodIn wsX2_handsThatMeet wsX4_leftOf := goodIn_r _ [34, 7, 26, 27, 28, 29, 30, 8, 9, 10, 11, 12, 13, 38, 39] (by decide +kernel) (by decide +kernel)
set_option maxRecDepth 20000 in
theorem gX2_handsThatMeet_X4_leftOf : GoodIn wsX2_handsThatMeet (wsV RX2 66 RX4 yX4_leftOf wsX4_leftOf) := goodIn_app (goodIn_of _ (by decide +kernel)) ggX2_handsThatMeet_X4_leftOf
set_option maxRecDepth 20000 in
theorem ggX2_handsThatMeet_X6_oneIf : GoodIn wsX2_handsThatMeet wsX6_oneIf := goodIn_r _ [36] (by decide +kernel) (by decide +kernel)
set_option maxRecDepth 20000 in
theorem gX2_handsThatMeet_X6_oneIf_n29 : GoodIn wsX2_handsThatMeet (wsX6_oneIf) := ggX2_handsThatMeet_X6_oneIf
theorem dX2_handsThatMeet_0 : decode cX2_handsThatMeet 0 = .ok (.iconst 0, 1) := by decide +kernel
theorem dX2_handsThatMeet_1 : decode cX2_handsThatMeet 1 = .ok (.istore_n 1, 1) := by decide +kernel
theorem dX2_handsThatMeet_2 : decode cX2_handsThatMeet 2 = .ok (.iconst 0, 1) := by decide +kernel
theorem dX2_handsThatMeet_3 : decode cX2_handsThatMeet 3 = .ok (.istore_n 2, 1) := by decide +kernel
theorem dX2_handsThatMeet_4 : decode cX2_handsThatMeet 4 = .ok (.iload_n 2, 1) := by decide +kernel
theorem dX2_handsThatMeet_5 : decode cX2_handsThatMeet 5 = .ok (.bipush 8, 2) := by decide +kernel
theorem dX2_handsThatMeet_7 : decode cX2_handsThatMeet 7 = .ok (.if_icmp .ge 94, 3) := by decide +kernel
theorem dX2_handsThatMeet_10 : decode cX2_handsThatMeet 10 = .ok (.aload_n 0, 1) := by decide +kernel
theorem dX2_handsThatMeet_11 : decode cX2_handsThatMeet 11 = .ok (.getfield 9, 3) := by decide +kernel
theorem dX2_handsThatMeet_14 : decode cX2_handsThatMeet 14 = .ok (.iload_n 2, 1) := by decide +kernel
theorem dX2_handsThatMeet_15 : decode cX2_handsThatMeet 15 = .ok (.invokevirtual 15, 3) := by decide +kernel
theorem dX2_handsThatMeet_18 : decode cX2_handsThatMeet 18 = .ok (.istore_n 3, 1) := by decide +kernel
theorem dX2_handsThatMeet_19 : decode cX2_handsThatMeet 19 = .ok (.iconst 1, 1) := by decide +kernel
theorem dX2_handsThatMeet_20 : decode cX2_handsThatMeet 20 = .ok (.istore 4, 2) := by decide +kernel
theorem dX2_handsThatMeet_22 : decode cX2_handsThatMeet 22 = .ok (.iload 4, 2) := by decide +kernel
theorem dX2_handsThatMeet_24 : decode cX2_handsThatMeet 24 = .ok (.iload_n 3, 1) := by decide +kernel
theorem dX2_handsThatMeet_25 : decode cX2_handsThatMeet 25 = .ok (.if_icmp .ge 70, 3) := by decide +kernel
theorem dX2_handsThatMeet_28 : decode cX2_handsThatMeet 28 = .ok (.aload_n 0, 1) := by decide +kernel
theorem dX2_handsThatMeet_29 : decode cX2_handsThatMeet 29 = .ok (.getfield 9, 3) := by decide +kernel
theorem dX2_handsThatMeet_32 : decode cX2_handsThatMeet 32 = .ok (.aload_n 0, 1) := by decide +kernel
theorem dX2_handsThatMeet_33 : decode cX2_handsThatMeet 33 = .ok (.getfield 9, 3) := by decide +kernel
theorem dX2_handsThatMeet_36 : decode cX2_handsThatMeet 36 = .ok (.iload_n 2, 1) := by decide +kernel
theorem dX2_handsThatMeet_37 : decode cX2_handsThatMeet 37 = .ok (.iload 4, 2) := by decide +kernel
theorem dX2_handsThatMeet_39 : decode cX2_handsThatMeet 39 = .ok (.iconst 1, 1) := by decide +kernel
theorem dX2_handsThatMeet_40 : decode cX2_handsThatMeet 40 = .ok (.isub, 1) := by decide +kernel
theorem dX2_handsThatMeet_41 : decode cX2_handsThatMeet 41 = .ok (.invokevirtual 21, 3) := by decide +kernel
theorem dX2_handsThatMeet_44 : decode cX2_handsThatMeet 44 = .ok (.invokevirtual 63, 3) := by decide +kernel
theorem dX2_handsThatMeet_47 : decode cX2_handsThatMeet 47 = .ok (.istore 5, 2) := by decide +kernel
theorem dX2_handsThatMeet_49 : decode cX2_handsThatMeet 49 = .ok (.aload_n 0, 1) := by decide +kernel
theorem dX2_handsThatMeet_50 : decode cX2_handsThatMeet 50 = .ok (.getfield 9, 3) := by decide +kernel
theorem dX2_handsThatMeet_53 : decode cX2_handsThatMeet 53 = .ok (.aload_n 0, 1) := by decide +kernel
theorem dX2_handsThatMeet_54 : decode cX2_handsThatMeet 54 = .ok (.getfield 9, 3) := by decide +kernel
theorem dX2_handsThatMeet_57 : decode cX2_handsThatMeet 57 = .ok (.iload_n 2, 1) := by decide +kernel
theorem dX2_handsThatMeet_58 : decode cX2_handsThatMeet 58 = .ok (.iload 4, 2) := by decide +kernel
theorem dX2_handsThatMeet_60 : decode cX2_handsThatMeet 60 = .ok (.invokevirtual 21, 3) := by decide +kernel
theorem dX2_handsThatMeet_63 : decode cX2_handsThatMeet 63 = .ok (.invokevirtual 66, 3) := by decide +kernel
theorem dX2_handsThatMeet_66 : decode cX2_handsThatMeet 66 = .ok (.istore 6, 2) := by decide +kernel
theorem dX2_handsThatMeet_68 : decode cX2_handsThatMeet 68 = .ok (.iload_n 1, 1) := by decide +kernel
theorem dX2_handsThatMeet_69 : decode cX2_handsThatMeet 69 = .ok (.iload 5, 2) := by decide +kernel
theorem dX2_handsThatMeet_71 : decode cX2_handsThatMeet 71 = .ok (.ifCond .eq 12, 3) := by decide +kernel
theorem dX2_handsThatMeet_74 : decode cX2_handsThatMeet 74 = .ok (.iload 6, 2) := by decide +kernel
theorem dX2_handsThatMeet_76 : decode cX2_handsThatMeet 76 = .ok (.ifCond .eq 7, 3) := by decide +kernel
theorem dX2_handsThatMeet_79 : decode cX2_handsThatMeet 79 = .ok (.iconst 1, 1) := by decide +kernel
theorem dX2_handsThatMeet_80 : decode cX2_handsThatMeet 80 = .ok (.goto 4, 3) := by decide +kernel
theorem dX2_handsThatMeet_83 : decode cX2_handsThatMeet 83 = .ok (.iconst 0, 1) := by decide +kernel
theorem dX2_handsThatMeet_84 : decode cX2_handsThatMeet 84 = .ok (.invokestatic 29, 3) := by decide +kernel
theorem dX2_handsThatMeet_87 : decode cX2_handsThatMeet 87 = .ok (.iadd, 1) := by decide +kernel
theorem dX2_handsThatMeet_88 : decode cX2_handsThatMeet 88 = .ok (.istore_n 1, 1) := by decide +kernel
theorem dX2_handsThatMeet_89 : decode cX2_handsThatMeet 89 = .ok (.iinc 4 1, 3) := by decide +kernel
theorem dX2_handsThatMeet_92 : decode cX2_handsThatMeet 92 = .ok (.goto (-70), 3) := by decide +kernel
theorem dX2_handsThatMeet_95 : decode cX2_handsThatMeet 95 = .ok (.iinc 2 1, 3) := by decide +kernel
theorem dX2_handsThatMeet_98 : decode cX2_handsThatMeet 98 = .ok (.goto (-94), 3) := by decide +kernel
theorem dX2_handsThatMeet_101 : decode cX2_handsThatMeet 101 = .ok (.iload_n 1, 1) := by decide +kernel
theorem dX2_handsThatMeet_102 : decode cX2_handsThatMeet 102 = .ok (.ireturn, 1) := by decide +kernel
set_option maxRecDepth 20000 in
theorem ggX2_differentGarlands_X4_hasGarland : GoodIn wsX2_differentGarlands wsX4_hasGarland := goodIn_r _ [6, 7, 8, 9, 10, 11, 12, 5, 13, 14, 15, 16, 17, 18, 19, 20, 48, 49] (by decide +kernel) (by decide +kernel)
set_option maxRecDepth 20000 in
theorem gX2_differentGarlands_X4_hasGarland : GoodIn wsX2_differentGarlands (wsV RX2 54 RX4 yX4_hasGarland wsX4_hasGarland) := goodIn_app (goodIn_of _ (by decide +kernel)) ggX2_differentGarlands_X4_hasGarland
set_option maxRecDepth 20000 in
theorem ggX2_differentGarlands_X2_lowestAlike : GoodIn wsX2_differentGarlands wsX2_lowestAlike := goodIn_r _ [25, 26, 27, 28, 24, 29, 1, 30, 11, 12, 5, 13, 14, 15, 16, 17, 18, 19, 20, 31, 32, 33, 34, 35, 36, 37, 38, 39, 40, 41, 42, 43, 8, 44, 47, 48, 49] (by decide +kernel) (by decide +kernel)
set_option maxRecDepth 20000 in
theorem gX2_differentGarlands_X2_lowestAlike : GoodIn wsX2_differentGarlands (wsV RX2 69 RX2 yX2_lowestAlike wsX2_lowestAlike) := goodIn_app (goodIn_of _ (by decide +kernel)) ggX2_differentGarlands_X2_lowestAlike
set_option maxRecDepth 20000 in
theorem ggX2_differentGarlands_X6_oneIf : GoodIn wsX2_differentGarlands wsX6_oneIf := goodIn_r _ [46] (by decide +kernel) (by decide +kernel)
set_option maxRecDepth 20000 in
theorem gX2_differentGarlands_X6_oneIf_n29 : GoodIn wsX2_differentGarlands (wsX6_oneIf) := ggX2_differentGarlands_X6_oneIf
theorem dX2_differentGarlands_0 : decode cX2_differentGarlands 0 = .ok (.iconst 0, 1) := by decide +kernel
theorem dX2_differentGarlands_1 : decode cX2_differentGarlands 1 = .ok (.istore_n 1, 1) := by decide +kernel
theorem dX2_differentGarlands_2 : decode cX2_differentGarlands 2 = .ok (.iconst 0, 1) := by decide +kernel
theorem dX2_differentGarlands_3 : decode cX2_differentGarlands 3 = .ok (.istore_n 2, 1) := by decide +kernel
theorem dX2_differentGarlands_4 : decode cX2_differentGarlands 4 = .ok (.iload_n 2, 1) := by decide +kernel
theorem dX2_differentGarlands_5 : decode cX2_differentGarlands 5 = .ok (.bipush 8, 2) := by decide +kernel
theorem dX2_differentGarlands_7 : decode cX2_differentGarlands 7 = .ok (.if_icmp .ge 40, 3) := by decide +kernel
theorem dX2_differentGarlands_10 : decode cX2_differentGarlands 10 = .ok (.iload_n 1, 1) := by decide +kernel
theorem dX2_differentGarlands_11 : decode cX2_differentGarlands 11 = .ok (.aload_n 0, 1) := by decide +kernel
theorem dX2_differentGarlands_12 : decode cX2_differentGarlands 12 = .ok (.getfield 9, 3) := by decide +kernel
theorem dX2_differentGarlands_15 : decode cX2_differentGarlands 15 = .ok (.iload_n 2, 1) := by decide +kernel
theorem dX2_differentGarlands_16 : decode cX2_differentGarlands 16 = .ok (.invokevirtual 54, 3) := by decide +kernel
theorem dX2_differentGarlands_19 : decode cX2_differentGarlands 19 = .ok (.ifCond .eq 16, 3) := by decide +kernel
theorem dX2_differentGarlands_22 : decode cX2_differentGarlands 22 = .ok (.aload_n 0, 1) := by decide +kernel
theorem dX2_differentGarlands_23 : decode cX2_differentGarlands 23 = .ok (.iload_n 2, 1) := by decide +kernel
theorem dX2_differentGarlands_24 : decode cX2_differentGarlands 24 = .ok (.invokevirtual 69, 3) := by decide +kernel
theorem dX2_differentGarlands_27 : decode cX2_differentGarlands 27 = .ok (.iload_n 2, 1) := by decide +kernel
theorem dX2_differentGarlands_28 : decode cX2_differentGarlands 28 = .ok (.if_icmp .ne 7, 3) := by decide +kernel
theorem dX2_differentGarlands_31 : decode cX2_differentGarlands 31 = .ok (.iconst 1, 1) := by decide +kernel
theorem dX2_differentGarlands_32 : decode cX2_differentGarlands 32 = .ok (.goto 4, 3) := by decide +kernel
theorem dX2_differentGarlands_35 : decode cX2_differentGarlands 35 = .ok (.iconst 0, 1) := by decide +kernel
theorem dX2_differentGarlands_36 : decode cX2_differentGarlands 36 = .ok (.invokestatic 29, 3) := by decide +kernel
theorem dX2_differentGarlands_39 : decode cX2_differentGarlands 39 = .ok (.iadd, 1) := by decide +kernel
theorem dX2_differentGarlands_40 : decode cX2_differentGarlands 40 = .ok (.istore_n 1, 1) := by decide +kernel
theorem dX2_differentGarlands_41 : decode cX2_differentGarlands 41 = .ok (.iinc 2 1, 3) := by decide +kernel
theorem dX2_differentGarlands_44 : decode cX2_differentGarlands 44 = .ok (.goto (-40), 3) := by decide +kernel
theorem dX2_differentGarlands_47 : decode cX2_differentGarlands 47 = .ok (.iload_n 1, 1) := by decide +kernel
theorem dX2_differentGarlands_48 : decode cX2_differentGarlands 48 = .ok (.ireturn, 1) := by decide +kernel
theorem dX3_init_0 : decode cX3_init 0 = .ok (.aload_n 0, 1) := by decide +kernel
theorem dX3_init_1 : decode cX3_init 1 = .ok (.invokespecial 1, 3) := by decide +kernel
theorem dX3_init_4 : decode cX3_init 4 = .ok (.aload_n 0, 1) := by decide +kernel
theorem dX3_init_5 : decode cX3_init 5 = .ok (.iload_n 1, 1) := by decide +kernel
theorem dX3_init_6 : decode cX3_init 6 = .ok (.ifCond .le 7, 3) := by decide +kernel
theorem dX3_init_9 : decode cX3_init 9 = .ok (.iload_n 1, 1) := by decide +kernel
theorem dX3_init_10 : decode cX3_init 10 = .ok (.goto 4, 3) := by decide +kernel
theorem dX3_init_13 : decode cX3_init 13 = .ok (.iconst 0, 1) := by decide +kernel
theorem dX3_init_14 : decode cX3_init 14 = .ok (.newarray .int, 2) := by decide +kernel
theorem dX3_init_16 : decode cX3_init 16 = .ok (.putfield 7, 3) := by decide +kernel
theorem dX3_init_19 : decode cX3_init 19 = .ok (.return_, 1) := by decide +kernel
theorem dX3_at_0 : decode cX3_at 0 = .ok (.iload_n 1, 1) := by decide +kernel
theorem dX3_at_1 : decode cX3_at 1 = .ok (.ifCond .lt 21, 3) := by decide +kernel
theorem dX3_at_4 : decode cX3_at 4 = .ok (.iload_n 1, 1) := by decide +kernel
theorem dX3_at_5 : decode cX3_at 5 = .ok (.aload_n 0, 1) := by decide +kernel
theorem dX3_at_6 : decode cX3_at 6 = .ok (.getfield 7, 3) := by decide +kernel
theorem dX3_at_9 : decode cX3_at 9 = .ok (.arraylength, 1) := by decide +kernel
theorem dX3_at_10 : decode cX3_at 10 = .ok (.if_icmp .ge 12, 3) := by decide +kernel
theorem dX3_at_13 : decode cX3_at 13 = .ok (.aload_n 0, 1) := by decide +kernel
theorem dX3_at_14 : decode cX3_at 14 = .ok (.getfield 7, 3) := by decide +kernel
theorem dX3_at_17 : decode cX3_at 17 = .ok (.iload_n 1, 1) := by decide +kernel
theorem dX3_at_18 : decode cX3_at 18 = .ok (.iaload, 1) := by decide +kernel
theorem dX3_at_19 : decode cX3_at 19 = .ok (.goto 4, 3) := by decide +kernel
theorem dX3_at_22 : decode cX3_at 22 = .ok (.iconst 0, 1) := by decide +kernel
theorem dX3_at_23 : decode cX3_at 23 = .ok (.ireturn, 1) := by decide +kernel
theorem dX3_put_0 : decode cX3_put 0 = .ok (.iload_n 1, 1) := by decide +kernel
theorem dX3_put_1 : decode cX3_put 1 = .ok (.ifCond .lt 19, 3) := by decide +kernel
theorem dX3_put_4 : decode cX3_put 4 = .ok (.iload_n 1, 1) := by decide +kernel
theorem dX3_put_5 : decode cX3_put 5 = .ok (.aload_n 0, 1) := by decide +kernel
theorem dX3_put_6 : decode cX3_put 6 = .ok (.getfield 7, 3) := by decide +kernel
theorem dX3_put_9 : decode cX3_put 9 = .ok (.arraylength, 1) := by decide +kernel
theorem dX3_put_10 : decode cX3_put 10 = .ok (.if_icmp .ge 10, 3) := by decide +kernel
theorem dX3_put_13 : decode cX3_put 13 = .ok (.aload_n 0, 1) := by decide +kernel
theorem dX3_put_14 : decode cX3_put 14 = .ok (.getfield 7, 3) := by decide +kernel
theorem dX3_put_17 : decode cX3_put 17 = .ok (.iload_n 1, 1) := by decide +kernel
theorem dX3_put_18 : decode cX3_put 18 = .ok (.iload_n 2, 1) := by decide +kernel
theorem dX3_put_19 : decode cX3_put 19 = .ok (.iastore, 1) := by decide +kernel
theorem dX3_put_20 : decode cX3_put 20 = .ok (.return_, 1) := by decide +kernel
theorem dX3_copyFrom_0 : decode cX3_copyFrom 0 = .ok (.aload_n 1, 1) := by decide +kernel
theorem dX3_copyFrom_1 : decode cX3_copyFrom 1 = .ok (.ifnull 16, 3) := by decide +kernel
theorem dX3_copyFrom_4 : decode cX3_copyFrom 4 = .ok (.iload 4, 2) := by decide +kernel
theorem dX3_copyFrom_6 : decode cX3_copyFrom 6 = .ok (.ifCond .lt 11, 3) := by decide +kernel
theorem dX3_copyFrom_9 : decode cX3_copyFrom 9 = .ok (.iload_n 2, 1) := by decide +kernel
theorem dX3_copyFrom_10 : decode cX3_copyFrom 10 = .ok (.ifCond .lt 7, 3) := by decide +kernel
theorem dX3_copyFrom_13 : decode cX3_copyFrom 13 = .ok (.iload_n 3, 1) := by decide +kernel
theorem dX3_copyFrom_14 : decode cX3_copyFrom 14 = .ok (.ifCond .ge 4, 3) := by decide +kernel
theorem dX3_copyFrom_17 : decode cX3_copyFrom 17 = .ok (.return_, 1) := by decide +kernel
theorem dX3_copyFrom_18 : decode cX3_copyFrom 18 = .ok (.iload_n 2, 1) := by decide +kernel
theorem dX3_copyFrom_19 : decode cX3_copyFrom 19 = .ok (.aload_n 1, 1) := by decide +kernel
theorem dX3_copyFrom_20 : decode cX3_copyFrom 20 = .ok (.getfield 7, 3) := by decide +kernel
theorem dX3_copyFrom_23 : decode cX3_copyFrom 23 = .ok (.arraylength, 1) := by decide +kernel
theorem dX3_copyFrom_24 : decode cX3_copyFrom 24 = .ok (.iload 4, 2) := by decide +kernel
theorem dX3_copyFrom_26 : decode cX3_copyFrom 26 = .ok (.isub, 1) := by decide +kernel
theorem dX3_copyFrom_27 : decode cX3_copyFrom 27 = .ok (.if_icmp .gt 30, 3) := by decide +kernel
theorem dX3_copyFrom_30 : decode cX3_copyFrom 30 = .ok (.iload_n 3, 1) := by decide +kernel
theorem dX3_copyFrom_31 : decode cX3_copyFrom 31 = .ok (.aload_n 0, 1) := by decide +kernel
theorem dX3_copyFrom_32 : decode cX3_copyFrom 32 = .ok (.getfield 7, 3) := by decide +kernel
theorem dX3_copyFrom_35 : decode cX3_copyFrom 35 = .ok (.arraylength, 1) := by decide +kernel
theorem dX3_copyFrom_36 : decode cX3_copyFrom 36 = .ok (.iload 4, 2) := by decide +kernel
theorem dX3_copyFrom_38 : decode cX3_copyFrom 38 = .ok (.isub, 1) := by decide +kernel
theorem dX3_copyFrom_39 : decode cX3_copyFrom 39 = .ok (.if_icmp .gt 18, 3) := by decide +kernel
theorem dX3_copyFrom_42 : decode cX3_copyFrom 42 = .ok (.aload_n 1, 1) := by decide +kernel
theorem dX3_copyFrom_43 : decode cX3_copyFrom 43 = .ok (.getfield 7, 3) := by decide +kernel
theorem dX3_copyFrom_46 : decode cX3_copyFrom 46 = .ok (.iload_n 2, 1) := by decide +kernel
theorem dX3_copyFrom_47 : decode cX3_copyFrom 47 = .ok (.aload_n 0, 1) := by decide +kernel
theorem dX3_copyFrom_48 : decode cX3_copyFrom 48 = .ok (.getfield 7, 3) := by decide +kernel
theorem dX3_copyFrom_51 : decode cX3_copyFrom 51 = .ok (.iload_n 3, 1) := by decide +kernel
theorem dX3_copyFrom_52 : decode cX3_copyFrom 52 = .ok (.iload 4, 2) := by decide +kernel
theorem dX3_copyFrom_54 : decode cX3_copyFrom 54 = .ok (.invokestatic 13, 3) := by decide +kernel
theorem dX3_copyFrom_57 : decode cX3_copyFrom 57 = .ok (.return_, 1) := by decide +kernel
set_option maxRecDepth 20000 in
theorem ggX4_init_X3_init : GoodIn wsX4_init wsX3_init := goodIn_r _ [10, 11, 2, 3, 12, 13, 18] (by decide +kernel) (by decide +kernel)
set_option maxRecDepth 20000 in
theorem gX4_init_X3_init : GoodIn wsX4_init (wsX3_init) := ggX4_init_X3_init
set_option maxRecDepth 20000 in
theorem ggX4_init_X3_put : GoodIn wsX4_init wsX3_put := goodIn_r _ [17, 13, 18] (by decide +kernel) (by decide +kernel)
set_option maxRecDepth 20000 in
theorem gX4_init_X3_put : GoodIn wsX4_init (wsV RX4 20 RX3 yX3_put wsX3_put) := goodIn_app (goodIn_of _ (by decide +kernel)) ggX4_init_X3_put
end
section
theorem dX4_init_0 : decode cX4_init 0 = .ok (.aload_n 0, 1) := by decide +kernel
theorem dX4_init_1 : decode cX4_init 1 = .ok (.invokespecial 5, 3) := by decide +kernel
theorem dX4_init_4 : decode cX4_init 4 = .ok (.aload_n 0, 1) := by decide +kernel
theorem dX4_init_5 : decode cX4_init 5 = .ok (.new 11, 3) := by decide +kernel
theorem dX4_init_8 : decode cX4_init 8 = .ok (.dup, 1) := by decide +kernel
theorem dX4_init_9 : decode cX4_init 9 = .ok (.sipush 286, 3) := by decide +kernel
theorem dX4_init_12 : decode cX4_init 12 = .ok (.invokespecial 13, 3) := by decide +kernel
theorem dX4_init_15 : decode cX4_init 15 = .ok (.putfield 16, 3) := by decide +kernel
theorem dX4_init_18 : decode cX4_init 18 = .ok (.aload_n 0, 1) := by decide +kernel
theorem dX4_init_19 : decode cX4_init 19 = .ok (.getfield 16, 3) := by decide +kernel
theorem dX4_init_22 : decode cX4_init 22 = .ok (.iconst 1, 1) := by decide +kernel
theorem dX4_init_23 : decode cX4_init 23 = .ok (.iconst 3, 1) := by decide +kernel
theorem dX4_init_24 : decode cX4_init 24 = .ok (.invokevirtual 20, 3) := by decide +kernel
theorem dX4_init_27 : decode cX4_init 27 = .ok (.iconst 0, 1) := by decide +kernel
theorem dX4_init_28 : decode cX4_init 28 = .ok (.istore_n 1, 1) := by decide +kernel
theorem dX4_init_29 : decode cX4_init 29 = .ok (.iload_n 1, 1) := by decide +kernel
theorem dX4_init_30 : decode cX4_init 30 = .ok (.bipush 10, 2) := by decide +kernel
theorem dX4_init_32 : decode cX4_init 32 = .ok (.if_icmp .ge 40, 3) := by decide +kernel
theorem dX4_init_35 : decode cX4_init 35 = .ok (.aload_n 0, 1) := by decide +kernel
theorem dX4_init_36 : decode cX4_init 36 = .ok (.getfield 16, 3) := by decide +kernel
theorem dX4_init_39 : decode cX4_init 39 = .ok (.iconst 2, 1) := by decide +kernel
theorem dX4_init_40 : decode cX4_init 40 = .ok (.iload_n 1, 1) := by decide +kernel
theorem dX4_init_41 : decode cX4_init 41 = .ok (.iadd, 1) := by decide +kernel
theorem dX4_init_42 : decode cX4_init 42 = .ok (.iload_n 1, 1) := by decide +kernel
theorem dX4_init_43 : decode cX4_init 43 = .ok (.bipush 6, 2) := by decide +kernel
theorem dX4_init_45 : decode cX4_init 45 = .ok (.irem, 1) := by decide +kernel
theorem dX4_init_46 : decode cX4_init 46 = .ok (.invokevirtual 20, 3) := by decide +kernel
theorem dX4_init_49 : decode cX4_init 49 = .ok (.aload_n 0, 1) := by decide +kernel
theorem dX4_init_50 : decode cX4_init 50 = .ok (.getfield 16, 3) := by decide +kernel
theorem dX4_init_53 : decode cX4_init 53 = .ok (.bipush 12, 2) := by decide +kernel
theorem dX4_init_55 : decode cX4_init 55 = .ok (.iload_n 1, 1) := by decide +kernel
theorem dX4_init_56 : decode cX4_init 56 = .ok (.iadd, 1) := by decide +kernel
theorem dX4_init_57 : decode cX4_init 57 = .ok (.iload_n 1, 1) := by decide +kernel
theorem dX4_init_58 : decode cX4_init 58 = .ok (.iconst 1, 1) := by decide +kernel
theorem dX4_init_59 : decode cX4_init 59 = .ok (.iadd, 1) := by decide +kernel
theorem dX4_init_60 : decode cX4_init 60 = .ok (.bipush 6, 2) := by decide +kernel
theorem dX4_init_62 : decode cX4_init 62 = .ok (.irem, 1) := by decide +kernel
theorem dX4_init_63 : decode cX4_init 63 = .ok (.invokevirtual 20, 3) := by decide +kernel
theorem dX4_init_66 : decode cX4_init 66 = .ok (.iinc 1 1, 3) := by decide +kernel
theorem dX4_init_69 : decode cX4_init 69 = .ok (.goto (-40), 3) := by decide +kernel
theorem dX4_init_72 : decode cX4_init 72 = .ok (.return_, 1) := by decide +kernel
set_option maxRecDepth 20000 in
theorem ggX4_saveTo_X3_copyFrom : GoodIn wsX4_saveTo wsX3_copyFrom := goodIn_r _ [6, 7, 8, 9, 10, 11, 13] (by decide +kernel) (by decide +kernel)
set_option maxRecDepth 20000 in
theorem gX4_saveTo_X3_copyFrom : GoodIn wsX4_saveTo (wsV RX4 24 RX3 yX3_copyFrom wsX3_copyFrom) := goodIn_app (goodIn_of _ (by decide +kernel)) ggX4_saveTo_X3_copyFrom
theorem dX4_saveTo_0 : decode cX4_saveTo 0 = .ok (.aload_n 1, 1) := by decide +kernel
theorem dX4_saveTo_1 : decode cX4_saveTo 1 = .ok (.aload_n 0, 1) := by decide +kernel
theorem dX4_saveTo_2 : decode cX4_saveTo 2 = .ok (.getfield 16, 3) := by decide +kernel
theorem dX4_saveTo_5 : decode cX4_saveTo 5 = .ok (.iconst 0, 1) := by decide +kernel
theorem dX4_saveTo_6 : decode cX4_saveTo 6 = .ok (.iload_n 2, 1) := by decide +kernel
theorem dX4_saveTo_7 : decode cX4_saveTo 7 = .ok (.sipush 286, 3) := by decide +kernel
theorem dX4_saveTo_10 : decode cX4_saveTo 10 = .ok (.invokevirtual 24, 3) := by decide +kernel
theorem dX4_saveTo_13 : decode cX4_saveTo 13 = .ok (.return_, 1) := by decide +kernel
set_option maxRecDepth 20000 in
theorem ggX4_loadFrom_X3_copyFrom : GoodIn wsX4_loadFrom wsX3_copyFrom := goodIn_r _ [6, 7, 8, 9, 10, 11, 13] (by decide +kernel) (by decide +kernel)
set_option maxRecDepth 20000 in
theorem gX4_loadFrom_X3_copyFrom : GoodIn wsX4_loadFrom (wsV RX4 24 RX3 yX3_copyFrom wsX3_copyFrom) := goodIn_app (goodIn_of _ (by decide +kernel)) ggX4_loadFrom_X3_copyFrom
theorem dX4_loadFrom_0 : decode cX4_loadFrom 0 = .ok (.aload_n 0, 1) := by decide +kernel
theorem dX4_loadFrom_1 : decode cX4_loadFrom 1 = .ok (.getfield 16, 3) := by decide +kernel
theorem dX4_loadFrom_4 : decode cX4_loadFrom 4 = .ok (.aload_n 1, 1) := by decide +kernel
theorem dX4_loadFrom_5 : decode cX4_loadFrom 5 = .ok (.iload_n 2, 1) := by decide +kernel
theorem dX4_loadFrom_6 : decode cX4_loadFrom 6 = .ok (.iconst 0, 1) := by decide +kernel
theorem dX4_loadFrom_7 : decode cX4_loadFrom 7 = .ok (.sipush 286, 3) := by decide +kernel
theorem dX4_loadFrom_10 : decode cX4_loadFrom 10 = .ok (.invokevirtual 24, 3) := by decide +kernel
theorem dX4_loadFrom_13 : decode cX4_loadFrom 13 = .ok (.return_, 1) := by decide +kernel
set_option maxRecDepth 20000 in
theorem ggX4_ruleNow_X3_at : GoodIn wsX4_ruleNow wsX3_at := goodIn_r _ [6, 7, 9] (by decide +kernel) (by decide +kernel)
set_option maxRecDepth 20000 in
theorem gX4_ruleNow_X3_at : GoodIn wsX4_ruleNow (wsV RX4 28 RX3 yX3_at wsX3_at) := goodIn_app (goodIn_of _ (by decide +kernel)) ggX4_ruleNow_X3_at
theorem dX4_ruleNow_0 : decode cX4_ruleNow 0 = .ok (.aload_n 0, 1) := by decide +kernel
theorem dX4_ruleNow_1 : decode cX4_ruleNow 1 = .ok (.getfield 16, 3) := by decide +kernel
theorem dX4_ruleNow_4 : decode cX4_ruleNow 4 = .ok (.iconst 0, 1) := by decide +kernel
theorem dX4_ruleNow_5 : decode cX4_ruleNow 5 = .ok (.invokevirtual 28, 3) := by decide +kernel
theorem dX4_ruleNow_8 : decode cX4_ruleNow 8 = .ok (.ireturn, 1) := by decide +kernel
set_option maxRecDepth 20000 in
theorem ggX4_putRule_X3_put : GoodIn wsX4_putRule wsX3_put := goodIn_r _ [6, 7, 9] (by decide +kernel) (by decide +kernel)
set_option maxRecDepth 20000 in
theorem gX4_putRule_X3_put : GoodIn wsX4_putRule (wsV RX4 20 RX3 yX3_put wsX3_put) := goodIn_app (goodIn_of _ (by decide +kernel)) ggX4_putRule_X3_put
theorem dX4_putRule_0 : decode cX4_putRule 0 = .ok (.aload_n 0, 1) := by decide +kernel
theorem dX4_putRule_1 : decode cX4_putRule 1 = .ok (.getfield 16, 3) := by decide +kernel
theorem dX4_putRule_4 : decode cX4_putRule 4 = .ok (.iconst 0, 1) := by decide +kernel
theorem dX4_putRule_5 : decode cX4_putRule 5 = .ok (.iload_n 1, 1) := by decide +kernel
theorem dX4_putRule_6 : decode cX4_putRule 6 = .ok (.invokevirtual 20, 3) := by decide +kernel
theorem dX4_putRule_9 : decode cX4_putRule 9 = .ok (.return_, 1) := by decide +kernel
set_option maxRecDepth 20000 in
theorem ggX4_kindsNow_X3_at : GoodIn wsX4_kindsNow wsX3_at := goodIn_r _ [6, 7, 9] (by decide +kernel) (by decide +kernel)
set_option maxRecDepth 20000 in
theorem gX4_kindsNow_X3_at : GoodIn wsX4_kindsNow (wsV RX4 28 RX3 yX3_at wsX3_at) := goodIn_app (goodIn_of _ (by decide +kernel)) ggX4_kindsNow_X3_at
theorem dX4_kindsNow_0 : decode cX4_kindsNow 0 = .ok (.aload_n 0, 1) := by decide +kernel
theorem dX4_kindsNow_1 : decode cX4_kindsNow 1 = .ok (.getfield 16, 3) := by decide +kernel
theorem dX4_kindsNow_4 : decode cX4_kindsNow 4 = .ok (.iconst 1, 1) := by decide +kernel
theorem dX4_kindsNow_5 : decode cX4_kindsNow 5 = .ok (.invokevirtual 28, 3) := by decide +kernel
theorem dX4_kindsNow_8 : decode cX4_kindsNow 8 = .ok (.ireturn, 1) := by decide +kernel
set_option maxRecDepth 20000 in
theorem ggX4_putKinds_X3_put : GoodIn wsX4_putKinds wsX3_put := goodIn_r _ [6, 7, 9] (by decide +kernel) (by decide +kernel)
set_option maxRecDepth 20000 in
theorem gX4_putKinds_X3_put : GoodIn wsX4_putKinds (wsV RX4 20 RX3 yX3_put wsX3_put) := goodIn_app (goodIn_of _ (by decide +kernel)) ggX4_putKinds_X3_put
theorem dX4_putKinds_0 : decode cX4_putKinds 0 = .ok (.aload_n 0, 1) := by decide +kernel
theorem dX4_putKinds_1 : decode cX4_putKinds 1 = .ok (.getfield 16, 3) := by decide +kernel
theorem dX4_putKinds_4 : decode cX4_putKinds 4 = .ok (.iconst 1, 1) := by decide +kernel
theorem dX4_putKinds_5 : decode cX4_putKinds 5 = .ok (.iload_n 1, 1) := by decide +kernel
theorem dX4_putKinds_6 : decode cX4_putKinds 6 = .ok (.invokevirtual 20, 3) := by decide +kernel
theorem dX4_putKinds_9 : decode cX4_putKinds 9 = .ok (.return_, 1) := by decide +kernel
set_option maxRecDepth 20000 in
theorem ggX4_dollsToCut_X4_kindsNow : GoodIn wsX4_dollsToCut wsX4_kindsNow := goodIn_r _ [5, 6, 7, 8, 9, 10, 11, 12, 13, 14] (by decide +kernel) (by decide +kernel)
set_option maxRecDepth 20000 in
theorem gX4_dollsToCut_X4_kindsNow : GoodIn wsX4_dollsToCut (wsV RX4 32 RX4 yX4_kindsNow wsX4_kindsNow) := goodIn_app (goodIn_of _ (by decide +kernel)) ggX4_dollsToCut_X4_kindsNow
theorem dX4_dollsToCut_0 : decode cX4_dollsToCut 0 = .ok (.iconst 2, 1) := by decide +kernel
theorem dX4_dollsToCut_1 : decode cX4_dollsToCut 1 = .ok (.aload_n 0, 1) := by decide +kernel
theorem dX4_dollsToCut_2 : decode cX4_dollsToCut 2 = .ok (.invokevirtual 32, 3) := by decide +kernel
theorem dX4_dollsToCut_5 : decode cX4_dollsToCut 5 = .ok (.imul, 1) := by decide +kernel
theorem dX4_dollsToCut_6 : decode cX4_dollsToCut 6 = .ok (.ireturn, 1) := by decide +kernel
set_option maxRecDepth 20000 in
theorem ggX4_hasKind_X4_kindsNow : GoodIn wsX4_hasKind wsX4_kindsNow := goodIn_r _ [5, 6, 7, 8, 9, 10, 11, 12, 16, 17] (by decide +kernel) (by decide +kernel)
set_option maxRecDepth 20000 in
theorem gX4_hasKind_X4_kindsNow : GoodIn wsX4_hasKind (wsV RX4 32 RX4 yX4_kindsNow wsX4_kindsNow) := goodIn_app (goodIn_of _ (by decide +kernel)) ggX4_hasKind_X4_kindsNow
set_option maxRecDepth 20000 in
theorem ggX4_hasKind_X6_isBelow : GoodIn wsX4_hasKind wsX6_isBelow := goodIn_r _ [15] (by decide +kernel) (by decide +kernel)
set_option maxRecDepth 20000 in
theorem gX4_hasKind_X6_isBelow_n36 : GoodIn wsX4_hasKind (wsX6_isBelow) := ggX4_hasKind_X6_isBelow
theorem dX4_hasKind_0 : decode cX4_hasKind 0 = .ok (.iload_n 1, 1) := by decide +kernel
theorem dX4_hasKind_1 : decode cX4_hasKind 1 = .ok (.aload_n 0, 1) := by decide +kernel
theorem dX4_hasKind_2 : decode cX4_hasKind 2 = .ok (.invokevirtual 32, 3) := by decide +kernel
theorem dX4_hasKind_5 : decode cX4_hasKind 5 = .ok (.invokestatic 36, 3) := by decide +kernel
theorem dX4_hasKind_8 : decode cX4_hasKind 8 = .ok (.ireturn, 1) := by decide +kernel
set_option maxRecDepth 20000 in
theorem ggX4_leftHand_X3_at : GoodIn wsX4_leftHand wsX3_at := goodIn_r _ [6, 7, 9] (by decide +kernel) (by decide +kernel)
set_option maxRecDepth 20000 in
theorem gX4_leftHand_X3_at : GoodIn wsX4_leftHand (wsV RX4 28 RX3 yX3_at wsX3_at) := goodIn_app (goodIn_of _ (by decide +kernel)) ggX4_leftHand_X3_at
theorem dX4_leftHand_0 : decode cX4_leftHand 0 = .ok (.aload_n 0, 1) := by decide +kernel
theorem dX4_leftHand_1 : decode cX4_leftHand 1 = .ok (.getfield 16, 3) := by decide +kernel
theorem dX4_leftHand_4 : decode cX4_leftHand 4 = .ok (.iconst 2, 1) := by decide +kernel
theorem dX4_leftHand_5 : decode cX4_leftHand 5 = .ok (.iload_n 1, 1) := by decide +kernel
theorem dX4_leftHand_6 : decode cX4_leftHand 6 = .ok (.iadd, 1) := by decide +kernel
theorem dX4_leftHand_7 : decode cX4_leftHand 7 = .ok (.invokevirtual 28, 3) := by decide +kernel
theorem dX4_leftHand_10 : decode cX4_leftHand 10 = .ok (.ireturn, 1) := by decide +kernel
set_option maxRecDepth 20000 in
theorem ggX4_rightHand_X3_at : GoodIn wsX4_rightHand wsX3_at := goodIn_r _ [6, 7, 9] (by decide +kernel) (by decide +kernel)
set_option maxRecDepth 20000 in
theorem gX4_rightHand_X3_at : GoodIn wsX4_rightHand (wsV RX4 28 RX3 yX3_at wsX3_at) := goodIn_app (goodIn_of _ (by decide +kernel)) ggX4_rightHand_X3_at
theorem dX4_rightHand_0 : decode cX4_rightHand 0 = .ok (.aload_n 0, 1) := by decide +kernel
theorem dX4_rightHand_1 : decode cX4_rightHand 1 = .ok (.getfield 16, 3) := by decide +kernel
theorem dX4_rightHand_4 : decode cX4_rightHand 4 = .ok (.bipush 12, 2) := by decide +kernel
theorem dX4_rightHand_6 : decode cX4_rightHand 6 = .ok (.iload_n 1, 1) := by decide +kernel
theorem dX4_rightHand_7 : decode cX4_rightHand 7 = .ok (.iadd, 1) := by decide +kernel
theorem dX4_rightHand_8 : decode cX4_rightHand 8 = .ok (.invokevirtual 28, 3) := by decide +kernel
theorem dX4_rightHand_11 : decode cX4_rightHand 11 = .ok (.ireturn, 1) := by decide +kernel
set_option maxRecDepth 20000 in
theorem ggX4_putHands_X3_put : GoodIn wsX4_putHands wsX3_put := goodIn_r _ [6, 7, 9] (by decide +kernel) (by decide +kernel)
set_option maxRecDepth 20000 in
theorem gX4_putHands_X3_put : GoodIn wsX4_putHands (wsV RX4 20 RX3 yX3_put wsX3_put) := goodIn_app (goodIn_of _ (by decide +kernel)) ggX4_putHands_X3_put
theorem dX4_putHands_0 : decode cX4_putHands 0 = .ok (.aload_n 0, 1) := by decide +kernel
theorem dX4_putHands_1 : decode cX4_putHands 1 = .ok (.getfield 16, 3) := by decide +kernel
theorem dX4_putHands_4 : decode cX4_putHands 4 = .ok (.iconst 2, 1) := by decide +kernel
theorem dX4_putHands_5 : decode cX4_putHands 5 = .ok (.iload_n 1, 1) := by decide +kernel
theorem dX4_putHands_6 : decode cX4_putHands 6 = .ok (.iadd, 1) := by decide +kernel
theorem dX4_putHands_7 : decode cX4_putHands 7 = .ok (.iload_n 2, 1) := by decide +kernel
theorem dX4_putHands_8 : decode cX4_putHands 8 = .ok (.invokevirtual 20, 3) := by decide +kernel
theorem dX4_putHands_11 : decode cX4_putHands 11 = .ok (.aload_n 0, 1) := by decide +kernel
theorem dX4_putHands_12 : decode cX4_putHands 12 = .ok (.getfield 16, 3) := by decide +kernel
theorem dX4_putHands_15 : decode cX4_putHands 15 = .ok (.bipush 12, 2) := by decide +kernel
theorem dX4_putHands_17 : decode cX4_putHands 17 = .ok (.iload_n 1, 1) := by decide +kernel
theorem dX4_putHands_18 : decode cX4_putHands 18 = .ok (.iadd, 1) := by decide +kernel
theorem dX4_putHands_19 : decode cX4_putHands 19 = .ok (.iload_n 3, 1) := by decide +kernel
theorem dX4_putHands_20 : decode cX4_putHands 20 = .ok (.invokevirtual 20, 3) := by decide +kernel
theorem dX4_putHands_23 : decode cX4_putHands 23 = .ok (.return_, 1) := by decide +kernel
set_option maxRecDepth 20000 in
theorem ggX4_leftOf_X6_isMirrored : GoodIn wsX4_leftOf wsX6_isMirrored := goodIn_r _ [4] (by decide +kernel) (by decide +kernel)
set_option maxRecDepth 20000 in
theorem gX4_leftOf_X6_isMirrored_n40 : GoodIn wsX4_leftOf (wsX6_isMirrored) := ggX4_leftOf_X6_isMirrored
set_option maxRecDepth 20000 in
theorem ggX4_leftOf_X6_kindOf : GoodIn wsX4_leftOf wsX6_kindOf := goodIn_r _ [6] (by decide +kernel) (by decide +kernel)
set_option maxRecDepth 20000 in
theorem gX4_leftOf_X6_kindOf_n44 : GoodIn wsX4_leftOf (wsX6_kindOf) := ggX4_leftOf_X6_kindOf
set_option maxRecDepth 20000 in
theorem ggX4_leftOf_X3_at : GoodIn wsX4_leftOf wsX3_at := goodIn_r _ [11, 12, 14] (by decide +kernel) (by decide +kernel)
set_option maxRecDepth 20000 in
theorem gX4_leftOf_X3_at : GoodIn wsX4_leftOf (wsV RX4 28 RX3 yX3_at wsX3_at) := goodIn_app (goodIn_of _ (by decide +kernel)) ggX4_leftOf_X3_at
theorem dX4_leftOf_0 : decode cX4_leftOf 0 = .ok (.aload_n 0, 1) := by decide +kernel
theorem dX4_leftOf_1 : decode cX4_leftOf 1 = .ok (.getfield 16, 3) := by decide +kernel
theorem dX4_leftOf_4 : decode cX4_leftOf 4 = .ok (.iload_n 1, 1) := by decide +kernel
theorem dX4_leftOf_5 : decode cX4_leftOf 5 = .ok (.invokestatic 40, 3) := by decide +kernel
theorem dX4_leftOf_8 : decode cX4_leftOf 8 = .ok (.ifCond .eq 8, 3) := by decide +kernel
theorem dX4_leftOf_11 : decode cX4_leftOf 11 = .ok (.bipush 12, 2) := by decide +kernel
theorem dX4_leftOf_13 : decode cX4_leftOf 13 = .ok (.goto 4, 3) := by decide +kernel
theorem dX4_leftOf_16 : decode cX4_leftOf 16 = .ok (.iconst 2, 1) := by decide +kernel
theorem dX4_leftOf_17 : decode cX4_leftOf 17 = .ok (.iload_n 1, 1) := by decide +kernel
theorem dX4_leftOf_18 : decode cX4_leftOf 18 = .ok (.invokestatic 44, 3) := by decide +kernel
theorem dX4_leftOf_21 : decode cX4_leftOf 21 = .ok (.iadd, 1) := by decide +kernel
theorem dX4_leftOf_22 : decode cX4_leftOf 22 = .ok (.invokevirtual 28, 3) := by decide +kernel
theorem dX4_leftOf_25 : decode cX4_leftOf 25 = .ok (.ireturn, 1) := by decide +kernel
set_option maxRecDepth 20000 in
theorem ggX4_rightOf_X6_isMirrored : GoodIn wsX4_rightOf wsX6_isMirrored := goodIn_r _ [4] (by decide +kernel) (by decide +kernel)
set_option maxRecDepth 20000 in
theorem gX4_rightOf_X6_isMirrored_n40 : GoodIn wsX4_rightOf (wsX6_isMirrored) := ggX4_rightOf_X6_isMirrored
set_option maxRecDepth 20000 in
theorem ggX4_rightOf_X6_kindOf : GoodIn wsX4_rightOf wsX6_kindOf := goodIn_r _ [6] (by decide +kernel) (by decide +kernel)
set_option maxRecDepth 20000 in
theorem gX4_rightOf_X6_kindOf_n44 : GoodIn wsX4_rightOf (wsX6_kindOf) := ggX4_rightOf_X6_kindOf
set_option maxRecDepth 20000 in
theorem ggX4_rightOf_X3_at : GoodIn wsX4_rightOf wsX3_at := goodIn_r _ [11, 12, 14] (by decide +kernel) (by decide +kernel)
set_option maxRecDepth 20000 in
theorem gX4_rightOf_X3_at : GoodIn wsX4_rightOf (wsV RX4 28 RX3 yX3_at wsX3_at) := goodIn_app (goodIn_of _ (by decide +kernel)) ggX4_rightOf_X3_at
theorem dX4_rightOf_0 : decode cX4_rightOf 0 = .ok (.aload_n 0, 1) := by decide +kernel
theorem dX4_rightOf_1 : decode cX4_rightOf 1 = .ok (.getfield 16, 3) := by decide +kernel
theorem dX4_rightOf_4 : decode cX4_rightOf 4 = .ok (.iload_n 1, 1) := by decide +kernel
theorem dX4_rightOf_5 : decode cX4_rightOf 5 = .ok (.invokestatic 40, 3) := by decide +kernel
theorem dX4_rightOf_8 : decode cX4_rightOf 8 = .ok (.ifCond .eq 7, 3) := by decide +kernel
theorem dX4_rightOf_11 : decode cX4_rightOf 11 = .ok (.iconst 2, 1) := by decide +kernel
theorem dX4_rightOf_12 : decode cX4_rightOf 12 = .ok (.goto 5, 3) := by decide +kernel
theorem dX4_rightOf_15 : decode cX4_rightOf 15 = .ok (.bipush 12, 2) := by decide +kernel
theorem dX4_rightOf_17 : decode cX4_rightOf 17 = .ok (.iload_n 1, 1) := by decide +kernel
theorem dX4_rightOf_18 : decode cX4_rightOf 18 = .ok (.invokestatic 44, 3) := by decide +kernel
theorem dX4_rightOf_21 : decode cX4_rightOf 21 = .ok (.iadd, 1) := by decide +kernel
theorem dX4_rightOf_22 : decode cX4_rightOf 22 = .ok (.invokevirtual 28, 3) := by decide +kernel
theorem dX4_rightOf_25 : decode cX4_rightOf 25 = .ok (.ireturn, 1) := by decide +kernel
set_option maxRecDepth 20000 in
theorem ggX4_lengthOf_X3_at : GoodIn wsX4_lengthOf wsX3_at := goodIn_r _ [6, 7, 9] (by decide +kernel) (by decide +kernel)
set_option maxRecDepth 20000 in
theorem gX4_lengthOf_X3_at : GoodIn wsX4_lengthOf (wsV RX4 28 RX3 yX3_at wsX3_at) := goodIn_app (goodIn_of _ (by decide +kernel)) ggX4_lengthOf_X3_at
theorem dX4_lengthOf_0 : decode cX4_lengthOf 0 = .ok (.aload_n 0, 1) := by decide +kernel
theorem dX4_lengthOf_1 : decode cX4_lengthOf 1 = .ok (.getfield 16, 3) := by decide +kernel
theorem dX4_lengthOf_4 : decode cX4_lengthOf 4 = .ok (.bipush 22, 2) := by decide +kernel
theorem dX4_lengthOf_6 : decode cX4_lengthOf 6 = .ok (.iload_n 1, 1) := by decide +kernel
theorem dX4_lengthOf_7 : decode cX4_lengthOf 7 = .ok (.iadd, 1) := by decide +kernel
theorem dX4_lengthOf_8 : decode cX4_lengthOf 8 = .ok (.invokevirtual 28, 3) := by decide +kernel
theorem dX4_lengthOf_11 : decode cX4_lengthOf 11 = .ok (.ireturn, 1) := by decide +kernel
set_option maxRecDepth 20000 in
theorem ggX4_putLength_X3_put : GoodIn wsX4_putLength wsX3_put := goodIn_r _ [6, 7, 9] (by decide +kernel) (by decide +kernel)
set_option maxRecDepth 20000 in
theorem gX4_putLength_X3_put : GoodIn wsX4_putLength (wsV RX4 20 RX3 yX3_put wsX3_put) := goodIn_app (goodIn_of _ (by decide +kernel)) ggX4_putLength_X3_put
theorem dX4_putLength_0 : decode cX4_putLength 0 = .ok (.aload_n 0, 1) := by decide +kernel
theorem dX4_putLength_1 : decode cX4_putLength 1 = .ok (.getfield 16, 3) := by decide +kernel
theorem dX4_putLength_4 : decode cX4_putLength 4 = .ok (.bipush 22, 2) := by decide +kernel
theorem dX4_putLength_6 : decode cX4_putLength 6 = .ok (.iload_n 1, 1) := by decide +kernel
theorem dX4_putLength_7 : decode cX4_putLength 7 = .ok (.iadd, 1) := by decide +kernel
theorem dX4_putLength_8 : decode cX4_putLength 8 = .ok (.iload_n 2, 1) := by decide +kernel
theorem dX4_putLength_9 : decode cX4_putLength 9 = .ok (.invokevirtual 20, 3) := by decide +kernel
theorem dX4_putLength_12 : decode cX4_putLength 12 = .ok (.return_, 1) := by decide +kernel
set_option maxRecDepth 20000 in
theorem ggX4_hasGarland_X6_isBelow : GoodIn wsX4_hasGarland wsX6_isBelow := goodIn_r _ [3] (by decide +kernel) (by decide +kernel)
set_option maxRecDepth 20000 in
theorem gX4_hasGarland_X6_isBelow_n36 : GoodIn wsX4_hasGarland (wsX6_isBelow) := ggX4_hasGarland_X6_isBelow
set_option maxRecDepth 20000 in
theorem ggX4_hasGarland_X4_lengthOf : GoodIn wsX4_hasGarland wsX4_lengthOf := goodIn_r _ [8, 9, 10, 11, 12, 13, 14, 15, 16, 17] (by decide +kernel) (by decide +kernel)
set_option maxRecDepth 20000 in
theorem gX4_hasGarland_X4_lengthOf : GoodIn wsX4_hasGarland (wsV RX4 47 RX4 yX4_lengthOf wsX4_lengthOf) := goodIn_app (goodIn_of _ (by decide +kernel)) ggX4_hasGarland_X4_lengthOf
theorem dX4_hasGarland_0 : decode cX4_hasGarland 0 = .ok (.iload_n 1, 1) := by decide +kernel
theorem dX4_hasGarland_1 : decode cX4_hasGarland 1 = .ok (.bipush 8, 2) := by decide +kernel
theorem dX4_hasGarland_3 : decode cX4_hasGarland 3 = .ok (.invokestatic 36, 3) := by decide +kernel
theorem dX4_hasGarland_6 : decode cX4_hasGarland 6 = .ok (.ifCond .eq 15, 3) := by decide +kernel
theorem dX4_hasGarland_9 : decode cX4_hasGarland 9 = .ok (.aload_n 0, 1) := by decide +kernel
theorem dX4_hasGarland_10 : decode cX4_hasGarland 10 = .ok (.iload_n 1, 1) := by decide +kernel
theorem dX4_hasGarland_11 : decode cX4_hasGarland 11 = .ok (.invokevirtual 47, 3) := by decide +kernel
theorem dX4_hasGarland_14 : decode cX4_hasGarland 14 = .ok (.ifCond .le 7, 3) := by decide +kernel
theorem dX4_hasGarland_17 : decode cX4_hasGarland 17 = .ok (.iconst 1, 1) := by decide +kernel
theorem dX4_hasGarland_18 : decode cX4_hasGarland 18 = .ok (.goto 4, 3) := by decide +kernel
theorem dX4_hasGarland_21 : decode cX4_hasGarland 21 = .ok (.iconst 0, 1) := by decide +kernel
theorem dX4_hasGarland_22 : decode cX4_hasGarland 22 = .ok (.ireturn, 1) := by decide +kernel
set_option maxRecDepth 20000 in
theorem ggX4_freeNumber_X4_lengthOf : GoodIn wsX4_freeNumber wsX4_lengthOf := goodIn_r _ [5, 6, 7, 8, 9, 10, 11, 12, 13, 14] (by decide +kernel) (by decide +kernel)
set_option maxRecDepth 20000 in
theorem gX4_freeNumber_X4_lengthOf : GoodIn wsX4_freeNumber (wsV RX4 47 RX4 yX4_lengthOf wsX4_lengthOf) := goodIn_app (goodIn_of _ (by decide +kernel)) ggX4_freeNumber_X4_lengthOf
theorem dX4_freeNumber_0 : decode cX4_freeNumber 0 = .ok (.iconst 0, 1) := by decide +kernel
theorem dX4_freeNumber_1 : decode cX4_freeNumber 1 = .ok (.istore_n 1, 1) := by decide +kernel
theorem dX4_freeNumber_2 : decode cX4_freeNumber 2 = .ok (.iload_n 1, 1) := by decide +kernel
theorem dX4_freeNumber_3 : decode cX4_freeNumber 3 = .ok (.bipush 8, 2) := by decide +kernel
theorem dX4_freeNumber_5 : decode cX4_freeNumber 5 = .ok (.if_icmp .ge 19, 3) := by decide +kernel
theorem dX4_freeNumber_8 : decode cX4_freeNumber 8 = .ok (.aload_n 0, 1) := by decide +kernel
theorem dX4_freeNumber_9 : decode cX4_freeNumber 9 = .ok (.iload_n 1, 1) := by decide +kernel
theorem dX4_freeNumber_10 : decode cX4_freeNumber 10 = .ok (.invokevirtual 47, 3) := by decide +kernel
theorem dX4_freeNumber_13 : decode cX4_freeNumber 13 = .ok (.ifCond .ne 5, 3) := by decide +kernel
theorem dX4_freeNumber_16 : decode cX4_freeNumber 16 = .ok (.iload_n 1, 1) := by decide +kernel
theorem dX4_freeNumber_17 : decode cX4_freeNumber 17 = .ok (.ireturn, 1) := by decide +kernel
theorem dX4_freeNumber_18 : decode cX4_freeNumber 18 = .ok (.iinc 1 1, 3) := by decide +kernel
theorem dX4_freeNumber_21 : decode cX4_freeNumber 21 = .ok (.goto (-19), 3) := by decide +kernel
theorem dX4_freeNumber_24 : decode cX4_freeNumber 24 = .ok (.iconst (-1), 1) := by decide +kernel
theorem dX4_freeNumber_25 : decode cX4_freeNumber 25 = .ok (.ireturn, 1) := by decide +kernel
theorem dX4_cellOf_0 : decode cX4_cellOf 0 = .ok (.bipush 30, 2) := by decide +kernel
theorem dX4_cellOf_2 : decode cX4_cellOf 2 = .ok (.iload_n 1, 1) := by decide +kernel
theorem dX4_cellOf_3 : decode cX4_cellOf 3 = .ok (.bipush 32, 2) := by decide +kernel
theorem dX4_cellOf_5 : decode cX4_cellOf 5 = .ok (.imul, 1) := by decide +kernel
theorem dX4_cellOf_6 : decode cX4_cellOf 6 = .ok (.iadd, 1) := by decide +kernel
theorem dX4_cellOf_7 : decode cX4_cellOf 7 = .ok (.iload_n 2, 1) := by decide +kernel
theorem dX4_cellOf_8 : decode cX4_cellOf 8 = .ok (.iadd, 1) := by decide +kernel
theorem dX4_cellOf_9 : decode cX4_cellOf 9 = .ok (.ireturn, 1) := by decide +kernel
set_option maxRecDepth 20000 in
theorem ggX4_dollAt_X4_cellOf : GoodIn wsX4_dollAt wsX4_cellOf := goodIn_r _ [6] (by decide +kernel) (by decide +kernel)
set_option maxRecDepth 20000 in
theorem gX4_dollAt_X4_cellOf : GoodIn wsX4_dollAt (wsV RX4 50 RX4 yX4_cellOf wsX4_cellOf) := goodIn_app (goodIn_of _ (by decide +kernel)) ggX4_dollAt_X4_cellOf
set_option maxRecDepth 20000 in
theorem ggX4_dollAt_X3_at : GoodIn wsX4_dollAt wsX3_at := goodIn_r _ [11, 12, 14] (by decide +kernel) (by decide +kernel)
set_option maxRecDepth 20000 in
theorem gX4_dollAt_X3_at : GoodIn wsX4_dollAt (wsV RX4 28 RX3 yX3_at wsX3_at) := goodIn_app (goodIn_of _ (by decide +kernel)) ggX4_dollAt_X3_at
theorem dX4_dollAt_0 : decode cX4_dollAt 0 = .ok (.aload_n 0, 1) := by decide +kernel
theorem dX4_dollAt_1 : decode cX4_dollAt 1 = .ok (.getfield 16, 3) := by decide +kernel
theorem dX4_dollAt_4 : decode cX4_dollAt 4 = .ok (.aload_n 0, 1) := by decide +kernel
theorem dX4_dollAt_5 : decode cX4_dollAt 5 = .ok (.iload_n 1, 1) := by decide +kernel
theorem dX4_dollAt_6 : decode cX4_dollAt 6 = .ok (.iload_n 2, 1) := by decide +kernel
theorem dX4_dollAt_7 : decode cX4_dollAt 7 = .ok (.invokevirtual 50, 3) := by decide +kernel
theorem dX4_dollAt_10 : decode cX4_dollAt 10 = .ok (.invokevirtual 28, 3) := by decide +kernel
theorem dX4_dollAt_13 : decode cX4_dollAt 13 = .ok (.ireturn, 1) := by decide +kernel
set_option maxRecDepth 20000 in
theorem ggX4_firstDoll_X4_dollAt : GoodIn wsX4_firstDoll wsX4_dollAt := goodIn_r _ [5, 6, 7, 8, 9, 4, 10, 11, 12, 13, 14, 15, 16, 17, 18] (by decide +kernel) (by decide +kernel)
set_option maxRecDepth 20000 in
theorem gX4_firstDoll_X4_dollAt : GoodIn wsX4_firstDoll (wsV RX4 54 RX4 yX4_dollAt wsX4_dollAt) := goodIn_app (goodIn_of _ (by decide +kernel)) ggX4_firstDoll_X4_dollAt
theorem dX4_firstDoll_0 : decode cX4_firstDoll 0 = .ok (.aload_n 0, 1) := by decide +kernel
theorem dX4_firstDoll_1 : decode cX4_firstDoll 1 = .ok (.iload_n 1, 1) := by decide +kernel
theorem dX4_firstDoll_2 : decode cX4_firstDoll 2 = .ok (.iconst 0, 1) := by decide +kernel
theorem dX4_firstDoll_3 : decode cX4_firstDoll 3 = .ok (.invokevirtual 54, 3) := by decide +kernel
theorem dX4_firstDoll_6 : decode cX4_firstDoll 6 = .ok (.ireturn, 1) := by decide +kernel
set_option maxRecDepth 20000 in
theorem ggX4_lastDoll_X4_lengthOf : GoodIn wsX4_lastDoll wsX4_lengthOf := goodIn_r _ [5, 6, 7, 8, 9, 10, 11, 12, 21, 22] (by decide +kernel) (by decide +kernel)
set_option maxRecDepth 20000 in
theorem gX4_lastDoll_X4_lengthOf : GoodIn wsX4_lastDoll (wsV RX4 47 RX4 yX4_lengthOf wsX4_lengthOf) := goodIn_app (goodIn_of _ (by decide +kernel)) ggX4_lastDoll_X4_lengthOf
set_option maxRecDepth 20000 in
theorem ggX4_lastDoll_X4_dollAt : GoodIn wsX4_lastDoll wsX4_dollAt := goodIn_r _ [16, 6, 17, 18, 19, 4, 20, 7, 8, 9, 10, 11, 12, 21, 22] (by decide +kernel) (by decide +kernel)
set_option maxRecDepth 20000 in
theorem gX4_lastDoll_X4_dollAt : GoodIn wsX4_lastDoll (wsV RX4 54 RX4 yX4_dollAt wsX4_dollAt) := goodIn_app (goodIn_of _ (by decide +kernel)) ggX4_lastDoll_X4_dollAt
theorem dX4_lastDoll_0 : decode cX4_lastDoll 0 = .ok (.aload_n 0, 1) := by decide +kernel
theorem dX4_lastDoll_1 : decode cX4_lastDoll 1 = .ok (.iload_n 1, 1) := by decide +kernel
theorem dX4_lastDoll_2 : decode cX4_lastDoll 2 = .ok (.aload_n 0, 1) := by decide +kernel
theorem dX4_lastDoll_3 : decode cX4_lastDoll 3 = .ok (.iload_n 1, 1) := by decide +kernel
theorem dX4_lastDoll_4 : decode cX4_lastDoll 4 = .ok (.invokevirtual 47, 3) := by decide +kernel
theorem dX4_lastDoll_7 : decode cX4_lastDoll 7 = .ok (.iconst 1, 1) := by decide +kernel
theorem dX4_lastDoll_8 : decode cX4_lastDoll 8 = .ok (.isub, 1) := by decide +kernel
theorem dX4_lastDoll_9 : decode cX4_lastDoll 9 = .ok (.invokevirtual 54, 3) := by decide +kernel
theorem dX4_lastDoll_12 : decode cX4_lastDoll 12 = .ok (.ireturn, 1) := by decide +kernel
set_option maxRecDepth 20000 in
theorem ggX4_putDoll_X4_cellOf : GoodIn wsX4_putDoll wsX4_cellOf := goodIn_r _ [6] (by decide +kernel) (by decide +kernel)
set_option maxRecDepth 20000 in
theorem gX4_putDoll_X4_cellOf : GoodIn wsX4_putDoll (wsV RX4 50 RX4 yX4_cellOf wsX4_cellOf) := goodIn_app (goodIn_of _ (by decide +kernel)) ggX4_putDoll_X4_cellOf
set_option maxRecDepth 20000 in
theorem ggX4_putDoll_X3_put : GoodIn wsX4_putDoll wsX3_put := goodIn_r _ [11, 12, 14] (by decide +kernel) (by decide +kernel)
set_option maxRecDepth 20000 in
theorem gX4_putDoll_X3_put : GoodIn wsX4_putDoll (wsV RX4 20 RX3 yX3_put wsX3_put) := goodIn_app (goodIn_of _ (by decide +kernel)) ggX4_putDoll_X3_put
theorem dX4_putDoll_0 : decode cX4_putDoll 0 = .ok (.aload_n 0, 1) := by decide +kernel
theorem dX4_putDoll_1 : decode cX4_putDoll 1 = .ok (.getfield 16, 3) := by decide +kernel
theorem dX4_putDoll_4 : decode cX4_putDoll 4 = .ok (.aload_n 0, 1) := by decide +kernel
theorem dX4_putDoll_5 : decode cX4_putDoll 5 = .ok (.iload_n 1, 1) := by decide +kernel
theorem dX4_putDoll_6 : decode cX4_putDoll 6 = .ok (.iload_n 2, 1) := by decide +kernel
theorem dX4_putDoll_7 : decode cX4_putDoll 7 = .ok (.invokevirtual 50, 3) := by decide +kernel
theorem dX4_putDoll_10 : decode cX4_putDoll 10 = .ok (.iload_n 3, 1) := by decide +kernel
theorem dX4_putDoll_11 : decode cX4_putDoll 11 = .ok (.invokevirtual 20, 3) := by decide +kernel
theorem dX4_putDoll_14 : decode cX4_putDoll 14 = .ok (.return_, 1) := by decide +kernel
set_option maxRecDepth 20000 in
theorem ggX4_copyDolls_X4_cellOf : GoodIn wsX4_copyDolls wsX4_cellOf := goodIn_r _ [6] (by decide +kernel) (by decide +kernel)
set_option maxRecDepth 20000 in
theorem gX4_copyDolls_X4_cellOf : GoodIn wsX4_copyDolls (wsV RX4 50 RX4 yX4_cellOf wsX4_cellOf) := goodIn_app (goodIn_of _ (by decide +kernel)) ggX4_copyDolls_X4_cellOf
set_option maxRecDepth 20000 in
theorem ggX4_copyDolls_X3_copyFrom : GoodIn wsX4_copyDolls wsX3_copyFrom := goodIn_r _ [11, 12, 13, 14, 15, 16, 18] (by decide +kernel) (by decide +kernel)
set_option maxRecDepth 20000 in
theorem gX4_copyDolls_X3_copyFrom : GoodIn wsX4_copyDolls (wsV RX4 24 RX3 yX3_copyFrom wsX3_copyFrom) := goodIn_app (goodIn_of _ (by decide +kernel)) ggX4_copyDolls_X3_copyFrom
theorem dX4_copyDolls_0 : decode cX4_copyDolls 0 = .ok (.aload_n 0, 1) := by decide +kernel
theorem dX4_copyDolls_1 : decode cX4_copyDolls 1 = .ok (.getfield 16, 3) := by decide +kernel
theorem dX4_copyDolls_4 : decode cX4_copyDolls 4 = .ok (.aload_n 0, 1) := by decide +kernel
theorem dX4_copyDolls_5 : decode cX4_copyDolls 5 = .ok (.getfield 16, 3) := by decide +kernel
theorem dX4_copyDolls_8 : decode cX4_copyDolls 8 = .ok (.aload_n 0, 1) := by decide +kernel
theorem dX4_copyDolls_9 : decode cX4_copyDolls 9 = .ok (.iload_n 1, 1) := by decide +kernel
theorem dX4_copyDolls_10 : decode cX4_copyDolls 10 = .ok (.iload_n 2, 1) := by decide +kernel
theorem dX4_copyDolls_11 : decode cX4_copyDolls 11 = .ok (.invokevirtual 50, 3) := by decide +kernel
theorem dX4_copyDolls_14 : decode cX4_copyDolls 14 = .ok (.aload_n 0, 1) := by decide +kernel
theorem dX4_copyDolls_15 : decode cX4_copyDolls 15 = .ok (.iload_n 3, 1) := by decide +kernel
theorem dX4_copyDolls_16 : decode cX4_copyDolls 16 = .ok (.iload 4, 2) := by decide +kernel
theorem dX4_copyDolls_18 : decode cX4_copyDolls 18 = .ok (.invokevirtual 50, 3) := by decide +kernel
theorem dX4_copyDolls_21 : decode cX4_copyDolls 21 = .ok (.iload 5, 2) := by decide +kernel
theorem dX4_copyDolls_23 : decode cX4_copyDolls 23 = .ok (.invokevirtual 24, 3) := by decide +kernel
theorem dX4_copyDolls_26 : decode cX4_copyDolls 26 = .ok (.return_, 1) := by decide +kernel
set_option maxRecDepth 20000 in
theorem ggX4_hangUp_X4_cellOf : GoodIn wsX4_hangUp wsX4_cellOf := goodIn_r _ [6] (by decide +kernel) (by decide +kernel)
set_option maxRecDepth 20000 in
theorem gX4_hangUp_X4_cellOf : GoodIn wsX4_hangUp (wsV RX4 50 RX4 yX4_cellOf wsX4_cellOf) := goodIn_app (goodIn_of _ (by decide +kernel)) ggX4_hangUp_X4_cellOf
set_option maxRecDepth 20000 in
theorem ggX4_hangUp_X3_copyFrom : GoodIn wsX4_hangUp wsX3_copyFrom := goodIn_r _ [11, 12, 13, 14, 15, 16, 26] (by decide +kernel) (by decide +kernel)
set_option maxRecDepth 20000 in
theorem gX4_hangUp_X3_copyFrom : GoodIn wsX4_hangUp (wsV RX4 24 RX3 yX3_copyFrom wsX3_copyFrom) := goodIn_app (goodIn_of _ (by decide +kernel)) ggX4_hangUp_X3_copyFrom
set_option maxRecDepth 20000 in
theorem ggX4_hangUp_X4_putLength : GoodIn wsX4_hangUp wsX4_putLength := goodIn_r _ [20, 1, 21, 22, 23, 10, 24, 12, 25, 26] (by decide +kernel) (by decide +kernel)
set_option maxRecDepth 20000 in
theorem gX4_hangUp_X4_putLength : GoodIn wsX4_hangUp (wsV RX4 57 RX4 yX4_putLength wsX4_putLength) := goodIn_app (goodIn_of _ (by decide +kernel)) ggX4_hangUp_X4_putLength
theorem dX4_hangUp_0 : decode cX4_hangUp 0 = .ok (.aload_n 0, 1) := by decide +kernel
theorem dX4_hangUp_1 : decode cX4_hangUp 1 = .ok (.getfield 16, 3) := by decide +kernel
theorem dX4_hangUp_4 : decode cX4_hangUp 4 = .ok (.aload_n 2, 1) := by decide +kernel
theorem dX4_hangUp_5 : decode cX4_hangUp 5 = .ok (.iconst 0, 1) := by decide +kernel
theorem dX4_hangUp_6 : decode cX4_hangUp 6 = .ok (.aload_n 0, 1) := by decide +kernel
theorem dX4_hangUp_7 : decode cX4_hangUp 7 = .ok (.iload_n 1, 1) := by decide +kernel
theorem dX4_hangUp_8 : decode cX4_hangUp 8 = .ok (.iconst 0, 1) := by decide +kernel
theorem dX4_hangUp_9 : decode cX4_hangUp 9 = .ok (.invokevirtual 50, 3) := by decide +kernel
theorem dX4_hangUp_12 : decode cX4_hangUp 12 = .ok (.iload_n 3, 1) := by decide +kernel
theorem dX4_hangUp_13 : decode cX4_hangUp 13 = .ok (.invokevirtual 24, 3) := by decide +kernel
theorem dX4_hangUp_16 : decode cX4_hangUp 16 = .ok (.aload_n 0, 1) := by decide +kernel
theorem dX4_hangUp_17 : decode cX4_hangUp 17 = .ok (.iload_n 1, 1) := by decide +kernel
theorem dX4_hangUp_18 : decode cX4_hangUp 18 = .ok (.iload_n 3, 1) := by decide +kernel
theorem dX4_hangUp_19 : decode cX4_hangUp 19 = .ok (.invokevirtual 57, 3) := by decide +kernel
theorem dX4_hangUp_22 : decode cX4_hangUp 22 = .ok (.return_, 1) := by decide +kernel
set_option maxRecDepth 20000 in
theorem ggX4_turnRound_X4_lengthOf : GoodIn wsX4_turnRound wsX4_lengthOf := goodIn_r _ [5, 6, 7, 8, 9, 10, 11, 12, 32, 33] (by decide +kernel) (by decide +kernel)
set_option maxRecDepth 20000 in
theorem gX4_turnRound_X4_lengthOf : GoodIn wsX4_turnRound (wsV RX4 47 RX4 yX4_lengthOf wsX4_lengthOf) := goodIn_app (goodIn_of _ (by decide +kernel)) ggX4_turnRound_X4_lengthOf
set_option maxRecDepth 20000 in
theorem ggX4_turnRound_X4_dollAt : GoodIn wsX4_turnRound wsX4_dollAt := goodIn_r _ [16, 6, 17, 18, 19, 4, 20, 7, 8, 9, 10, 11, 12, 32, 33] (by decide +kernel) (by decide +kernel)
set_option maxRecDepth 20000 in
theorem gX4_turnRound_X4_dollAt : GoodIn wsX4_turnRound (wsV RX4 54 RX4 yX4_dollAt wsX4_dollAt) := goodIn_app (goodIn_of _ (by decide +kernel)) ggX4_turnRound_X4_dollAt
set_option maxRecDepth 20000 in
theorem ggX4_turnRound_X6_mirrorOf : GoodIn wsX4_turnRound wsX6_mirrorOf := goodIn_r _ [23] (by decide +kernel) (by decide +kernel)
set_option maxRecDepth 20000 in
theorem gX4_turnRound_X6_mirrorOf_n60 : GoodIn wsX4_turnRound (wsX6_mirrorOf) := ggX4_turnRound_X6_mirrorOf
set_option maxRecDepth 20000 in
theorem ggX4_turnRound_X4_putDoll : GoodIn wsX4_turnRound wsX4_putDoll := goodIn_r _ [27, 6, 17, 18, 19, 4, 20, 28, 29, 30, 10, 31, 12, 32, 33] (by decide +kernel) (by decide +kernel)
set_option maxRecDepth 20000 in
theorem gX4_turnRound_X4_putDoll : GoodIn wsX4_turnRound (wsV RX4 63 RX4 yX4_putDoll wsX4_putDoll) := goodIn_app (goodIn_of _ (by decide +kernel)) ggX4_turnRound_X4_putDoll
theorem dX4_turnRound_0 : decode cX4_turnRound 0 = .ok (.aload_n 0, 1) := by decide +kernel
theorem dX4_turnRound_1 : decode cX4_turnRound 1 = .ok (.iload_n 1, 1) := by decide +kernel
theorem dX4_turnRound_2 : decode cX4_turnRound 2 = .ok (.invokevirtual 47, 3) := by decide +kernel
theorem dX4_turnRound_5 : decode cX4_turnRound 5 = .ok (.iconst 1, 1) := by decide +kernel
theorem dX4_turnRound_6 : decode cX4_turnRound 6 = .ok (.isub, 1) := by decide +kernel
theorem dX4_turnRound_7 : decode cX4_turnRound 7 = .ok (.istore_n 2, 1) := by decide +kernel
theorem dX4_turnRound_8 : decode cX4_turnRound 8 = .ok (.iconst 0, 1) := by decide +kernel
theorem dX4_turnRound_9 : decode cX4_turnRound 9 = .ok (.istore_n 3, 1) := by decide +kernel
theorem dX4_turnRound_10 : decode cX4_turnRound 10 = .ok (.iload_n 3, 1) := by decide +kernel
theorem dX4_turnRound_11 : decode cX4_turnRound 11 = .ok (.iload_n 2, 1) := by decide +kernel
theorem dX4_turnRound_12 : decode cX4_turnRound 12 = .ok (.if_icmp .gt 46, 3) := by decide +kernel
theorem dX4_turnRound_15 : decode cX4_turnRound 15 = .ok (.aload_n 0, 1) := by decide +kernel
theorem dX4_turnRound_16 : decode cX4_turnRound 16 = .ok (.iload_n 1, 1) := by decide +kernel
theorem dX4_turnRound_17 : decode cX4_turnRound 17 = .ok (.iload_n 3, 1) := by decide +kernel
theorem dX4_turnRound_18 : decode cX4_turnRound 18 = .ok (.invokevirtual 54, 3) := by decide +kernel
theorem dX4_turnRound_21 : decode cX4_turnRound 21 = .ok (.istore 4, 2) := by decide +kernel
theorem dX4_turnRound_23 : decode cX4_turnRound 23 = .ok (.aload_n 0, 1) := by decide +kernel
theorem dX4_turnRound_24 : decode cX4_turnRound 24 = .ok (.iload_n 1, 1) := by decide +kernel
theorem dX4_turnRound_25 : decode cX4_turnRound 25 = .ok (.iload_n 3, 1) := by decide +kernel
theorem dX4_turnRound_26 : decode cX4_turnRound 26 = .ok (.aload_n 0, 1) := by decide +kernel
theorem dX4_turnRound_27 : decode cX4_turnRound 27 = .ok (.iload_n 1, 1) := by decide +kernel
theorem dX4_turnRound_28 : decode cX4_turnRound 28 = .ok (.iload_n 2, 1) := by decide +kernel
theorem dX4_turnRound_29 : decode cX4_turnRound 29 = .ok (.invokevirtual 54, 3) := by decide +kernel
theorem dX4_turnRound_32 : decode cX4_turnRound 32 = .ok (.invokestatic 60, 3) := by decide +kernel
theorem dX4_turnRound_35 : decode cX4_turnRound 35 = .ok (.invokevirtual 63, 3) := by decide +kernel
theorem dX4_turnRound_38 : decode cX4_turnRound 38 = .ok (.aload_n 0, 1) := by decide +kernel
theorem dX4_turnRound_39 : decode cX4_turnRound 39 = .ok (.iload_n 1, 1) := by decide +kernel
theorem dX4_turnRound_40 : decode cX4_turnRound 40 = .ok (.iload_n 2, 1) := by decide +kernel
theorem dX4_turnRound_41 : decode cX4_turnRound 41 = .ok (.iload 4, 2) := by decide +kernel
theorem dX4_turnRound_43 : decode cX4_turnRound 43 = .ok (.invokestatic 60, 3) := by decide +kernel
theorem dX4_turnRound_46 : decode cX4_turnRound 46 = .ok (.invokevirtual 63, 3) := by decide +kernel
theorem dX4_turnRound_49 : decode cX4_turnRound 49 = .ok (.iinc 3 1, 3) := by decide +kernel
theorem dX4_turnRound_52 : decode cX4_turnRound 52 = .ok (.iinc 2 (-1), 3) := by decide +kernel
theorem dX4_turnRound_55 : decode cX4_turnRound 55 = .ok (.goto (-45), 3) := by decide +kernel
theorem dX4_turnRound_58 : decode cX4_turnRound 58 = .ok (.return_, 1) := by decide +kernel
set_option maxRecDepth 20000 in
theorem ggX4_foldOut_X4_lengthOf : GoodIn wsX4_foldOut wsX4_lengthOf := goodIn_r _ [5, 6, 7, 8, 9, 10, 11, 12, 36, 37] (by decide +kernel) (by decide +kernel)
set_option maxRecDepth 20000 in
theorem gX4_foldOut_X4_lengthOf : GoodIn wsX4_foldOut (wsV RX4 47 RX4 yX4_lengthOf wsX4_lengthOf) := goodIn_app (goodIn_of _ (by decide +kernel)) ggX4_foldOut_X4_lengthOf
set_option maxRecDepth 20000 in
theorem ggX4_foldOut_X4_dollAt : GoodIn wsX4_foldOut wsX4_dollAt := goodIn_r _ [16, 6, 17, 18, 19, 4, 20, 7, 8, 9, 10, 11, 12, 36, 37] (by decide +kernel) (by decide +kernel)
set_option maxRecDepth 20000 in
theorem gX4_foldOut_X4_dollAt : GoodIn wsX4_foldOut (wsV RX4 54 RX4 yX4_dollAt wsX4_dollAt) := goodIn_app (goodIn_of _ (by decide +kernel)) ggX4_foldOut_X4_dollAt
set_option maxRecDepth 20000 in
theorem ggX4_foldOut_X6_mirrorOf : GoodIn wsX4_foldOut wsX6_mirrorOf := goodIn_r _ [23] (by decide +kernel) (by decide +kernel)
set_option maxRecDepth 20000 in
theorem gX4_foldOut_X6_mirrorOf_n60 : GoodIn wsX4_foldOut (wsX6_mirrorOf) := ggX4_foldOut_X6_mirrorOf
set_option maxRecDepth 20000 in
theorem ggX4_foldOut_X4_putDoll : GoodIn wsX4_foldOut wsX4_putDoll := goodIn_r _ [27, 6, 17, 18, 19, 4, 20, 28, 29, 30, 10, 31, 12, 36, 37] (by decide +kernel) (by decide +kernel)
set_option maxRecDepth 20000 in
theorem gX4_foldOut_X4_putDoll : GoodIn wsX4_foldOut (wsV RX4 63 RX4 yX4_putDoll wsX4_putDoll) := goodIn_app (goodIn_of _ (by decide +kernel)) ggX4_foldOut_X4_putDoll
set_option maxRecDepth 20000 in
theorem ggX4_foldOut_X4_putLength : GoodIn wsX4_foldOut wsX4_putLength := goodIn_r _ [35, 6, 28, 29, 30, 10, 31, 12, 36, 37] (by decide +kernel) (by decide +kernel)
set_option maxRecDepth 20000 in
theorem gX4_foldOut_X4_putLength : GoodIn wsX4_foldOut (wsV RX4 57 RX4 yX4_putLength wsX4_putLength) := goodIn_app (goodIn_of _ (by decide +kernel)) ggX4_foldOut_X4_putLength
theorem dX4_foldOut_0 : decode cX4_foldOut 0 = .ok (.aload_n 0, 1) := by decide +kernel
theorem dX4_foldOut_1 : decode cX4_foldOut 1 = .ok (.iload_n 1, 1) := by decide +kernel
theorem dX4_foldOut_2 : decode cX4_foldOut 2 = .ok (.invokevirtual 47, 3) := by decide +kernel
theorem dX4_foldOut_5 : decode cX4_foldOut 5 = .ok (.istore_n 2, 1) := by decide +kernel
theorem dX4_foldOut_6 : decode cX4_foldOut 6 = .ok (.iconst 0, 1) := by decide +kernel
theorem dX4_foldOut_7 : decode cX4_foldOut 7 = .ok (.istore_n 3, 1) := by decide +kernel
theorem dX4_foldOut_8 : decode cX4_foldOut 8 = .ok (.iload_n 3, 1) := by decide +kernel
theorem dX4_foldOut_9 : decode cX4_foldOut 9 = .ok (.iload_n 2, 1) := by decide +kernel
theorem dX4_foldOut_10 : decode cX4_foldOut 10 = .ok (.if_icmp .ge 34, 3) := by decide +kernel
theorem dX4_foldOut_13 : decode cX4_foldOut 13 = .ok (.aload_n 0, 1) := by decide +kernel
theorem dX4_foldOut_14 : decode cX4_foldOut 14 = .ok (.iload_n 1, 1) := by decide +kernel
theorem dX4_foldOut_15 : decode cX4_foldOut 15 = .ok (.iload_n 2, 1) := by decide +kernel
theorem dX4_foldOut_16 : decode cX4_foldOut 16 = .ok (.iconst 1, 1) := by decide +kernel
theorem dX4_foldOut_17 : decode cX4_foldOut 17 = .ok (.isub, 1) := by decide +kernel
theorem dX4_foldOut_18 : decode cX4_foldOut 18 = .ok (.iload_n 3, 1) := by decide +kernel
theorem dX4_foldOut_19 : decode cX4_foldOut 19 = .ok (.isub, 1) := by decide +kernel
theorem dX4_foldOut_20 : decode cX4_foldOut 20 = .ok (.invokevirtual 54, 3) := by decide +kernel
theorem dX4_foldOut_23 : decode cX4_foldOut 23 = .ok (.istore 4, 2) := by decide +kernel
theorem dX4_foldOut_25 : decode cX4_foldOut 25 = .ok (.aload_n 0, 1) := by decide +kernel
theorem dX4_foldOut_26 : decode cX4_foldOut 26 = .ok (.iload_n 1, 1) := by decide +kernel
theorem dX4_foldOut_27 : decode cX4_foldOut 27 = .ok (.iload_n 2, 1) := by decide +kernel
theorem dX4_foldOut_28 : decode cX4_foldOut 28 = .ok (.iload_n 3, 1) := by decide +kernel
theorem dX4_foldOut_29 : decode cX4_foldOut 29 = .ok (.iadd, 1) := by decide +kernel
theorem dX4_foldOut_30 : decode cX4_foldOut 30 = .ok (.iload 4, 2) := by decide +kernel
theorem dX4_foldOut_32 : decode cX4_foldOut 32 = .ok (.invokestatic 60, 3) := by decide +kernel
theorem dX4_foldOut_35 : decode cX4_foldOut 35 = .ok (.invokevirtual 63, 3) := by decide +kernel
theorem dX4_foldOut_38 : decode cX4_foldOut 38 = .ok (.iinc 3 1, 3) := by decide +kernel
theorem dX4_foldOut_41 : decode cX4_foldOut 41 = .ok (.goto (-33), 3) := by decide +kernel
theorem dX4_foldOut_44 : decode cX4_foldOut 44 = .ok (.aload_n 0, 1) := by decide +kernel
theorem dX4_foldOut_45 : decode cX4_foldOut 45 = .ok (.iload_n 1, 1) := by decide +kernel
theorem dX4_foldOut_46 : decode cX4_foldOut 46 = .ok (.iconst 2, 1) := by decide +kernel
theorem dX4_foldOut_47 : decode cX4_foldOut 47 = .ok (.iload_n 2, 1) := by decide +kernel
theorem dX4_foldOut_48 : decode cX4_foldOut 48 = .ok (.imul, 1) := by decide +kernel
theorem dX4_foldOut_49 : decode cX4_foldOut 49 = .ok (.invokevirtual 57, 3) := by decide +kernel
theorem dX4_foldOut_52 : decode cX4_foldOut 52 = .ok (.return_, 1) := by decide +kernel
set_option maxRecDepth 20000 in
theorem ggX4_clash_X4_rightOf : GoodIn wsX4_clash wsX4_rightOf := goodIn_r _ [5, 6, 7, 8, 9, 10, 11, 12, 13, 14, 15, 16, 17, 26, 27] (by decide +kernel) (by decide +kernel)
set_option maxRecDepth 20000 in
theorem gX4_clash_X4_rightOf : GoodIn wsX4_clash (wsV RX4 67 RX4 yX4_rightOf wsX4_rightOf) := goodIn_app (goodIn_of _ (by decide +kernel)) ggX4_clash_X4_rightOf
set_option maxRecDepth 20000 in
theorem ggX4_clash_X4_leftOf : GoodIn wsX4_clash wsX4_leftOf := goodIn_r _ [21, 6, 7, 8, 9, 10, 11, 12, 13, 14, 15, 16, 17, 26, 27] (by decide +kernel) (by decide +kernel)
set_option maxRecDepth 20000 in
theorem gX4_clash_X4_leftOf : GoodIn wsX4_clash (wsV RX4 70 RX4 yX4_leftOf wsX4_leftOf) := goodIn_app (goodIn_of _ (by decide +kernel)) ggX4_clash_X4_leftOf
set_option maxRecDepth 20000 in
theorem ggX4_clash_X4_ruleNow : GoodIn wsX4_clash wsX4_ruleNow := goodIn_r _ [25, 6, 12, 13, 14, 15, 16, 17, 26, 27] (by decide +kernel) (by decide +kernel)
set_option maxRecDepth 20000 in
theorem gX4_clash_X4_ruleNow : GoodIn wsX4_clash (wsV RX4 73 RX4 yX4_ruleNow wsX4_ruleNow) := goodIn_app (goodIn_of _ (by decide +kernel)) ggX4_clash_X4_ruleNow
set_option maxRecDepth 20000 in
theorem ggX4_clash_X6_isMirrored : GoodIn wsX4_clash wsX6_isMirrored := goodIn_r _ [9] (by decide +kernel) (by decide +kernel)
set_option maxRecDepth 20000 in
theorem gX4_clash_X6_isMirrored_n40 : GoodIn wsX4_clash (wsX6_isMirrored) := ggX4_clash_X6_isMirrored
theorem dX4_clash_0 : decode cX4_clash 0 = .ok (.aload_n 0, 1) := by decide +kernel
theorem dX4_clash_1 : decode cX4_clash 1 = .ok (.iload_n 1, 1) := by decide +kernel
theorem dX4_clash_2 : decode cX4_clash 2 = .ok (.invokevirtual 67, 3) := by decide +kernel
theorem dX4_clash_5 : decode cX4_clash 5 = .ok (.istore_n 3, 1) := by decide +kernel
theorem dX4_clash_6 : decode cX4_clash 6 = .ok (.aload_n 0, 1) := by decide +kernel
theorem dX4_clash_7 : decode cX4_clash 7 = .ok (.iload_n 2, 1) := by decide +kernel
theorem dX4_clash_8 : decode cX4_clash 8 = .ok (.invokevirtual 70, 3) := by decide +kernel
theorem dX4_clash_11 : decode cX4_clash 11 = .ok (.istore 4, 2) := by decide +kernel
theorem dX4_clash_13 : decode cX4_clash 13 = .ok (.iload_n 3, 1) := by decide +kernel
theorem dX4_clash_14 : decode cX4_clash 14 = .ok (.ifCond .eq 8, 3) := by decide +kernel
theorem dX4_clash_17 : decode cX4_clash 17 = .ok (.iload 4, 2) := by decide +kernel
theorem dX4_clash_19 : decode cX4_clash 19 = .ok (.ifCond .ne 5, 3) := by decide +kernel
theorem dX4_clash_22 : decode cX4_clash 22 = .ok (.iconst 0, 1) := by decide +kernel
theorem dX4_clash_23 : decode cX4_clash 23 = .ok (.ireturn, 1) := by decide +kernel
theorem dX4_clash_24 : decode cX4_clash 24 = .ok (.iload_n 3, 1) := by decide +kernel
theorem dX4_clash_25 : decode cX4_clash 25 = .ok (.iload 4, 2) := by decide +kernel
theorem dX4_clash_27 : decode cX4_clash 27 = .ok (.if_icmp .ne 7, 3) := by decide +kernel
theorem dX4_clash_30 : decode cX4_clash 30 = .ok (.iconst 1, 1) := by decide +kernel
theorem dX4_clash_31 : decode cX4_clash 31 = .ok (.goto 4, 3) := by decide +kernel
theorem dX4_clash_34 : decode cX4_clash 34 = .ok (.iconst 0, 1) := by decide +kernel
theorem dX4_clash_35 : decode cX4_clash 35 = .ok (.istore 5, 2) := by decide +kernel
theorem dX4_clash_37 : decode cX4_clash 37 = .ok (.aload_n 0, 1) := by decide +kernel
theorem dX4_clash_38 : decode cX4_clash 38 = .ok (.invokevirtual 73, 3) := by decide +kernel
theorem dX4_clash_41 : decode cX4_clash 41 = .ok (.lookupswitch 52 #[(0, 27), (1, 49)], 27) := by decide +kernel
theorem dX4_clash_68 : decode cX4_clash 68 = .ok (.iload 5, 2) := by decide +kernel
theorem dX4_clash_70 : decode cX4_clash 70 = .ok (.ifCond .eq 18, 3) := by decide +kernel
theorem dX4_clash_73 : decode cX4_clash 73 = .ok (.iload_n 1, 1) := by decide +kernel
theorem dX4_clash_74 : decode cX4_clash 74 = .ok (.invokestatic 40, 3) := by decide +kernel
theorem dX4_clash_77 : decode cX4_clash 77 = .ok (.iload_n 2, 1) := by decide +kernel
theorem dX4_clash_78 : decode cX4_clash 78 = .ok (.invokestatic 40, 3) := by decide +kernel
theorem dX4_clash_81 : decode cX4_clash 81 = .ok (.if_icmp .eq 7, 3) := by decide +kernel
theorem dX4_clash_84 : decode cX4_clash 84 = .ok (.iconst 1, 1) := by decide +kernel
theorem dX4_clash_85 : decode cX4_clash 85 = .ok (.goto 4, 3) := by decide +kernel
theorem dX4_clash_88 : decode cX4_clash 88 = .ok (.iconst 0, 1) := by decide +kernel
theorem dX4_clash_89 : decode cX4_clash 89 = .ok (.ireturn, 1) := by decide +kernel
theorem dX4_clash_90 : decode cX4_clash 90 = .ok (.iload 5, 2) := by decide +kernel
theorem dX4_clash_92 : decode cX4_clash 92 = .ok (.ireturn, 1) := by decide +kernel
theorem dX4_clash_93 : decode cX4_clash 93 = .ok (.iload 5, 2) := by decide +kernel
theorem dX4_clash_95 : decode cX4_clash 95 = .ok (.ifCond .ne 7, 3) := by decide +kernel
theorem dX4_clash_98 : decode cX4_clash 98 = .ok (.iconst 1, 1) := by decide +kernel
theorem dX4_clash_99 : decode cX4_clash 99 = .ok (.goto 4, 3) := by decide +kernel
theorem dX4_clash_102 : decode cX4_clash 102 = .ok (.iconst 0, 1) := by decide +kernel
theorem dX4_clash_103 : decode cX4_clash 103 = .ok (.ireturn, 1) := by decide +kernel
set_option maxRecDepth 20000 in
theorem ggX4_hasClashIn_X3_at : GoodIn wsX4_hasClashIn wsX3_at := goodIn_r _ [5, 6, 30] (by decide +kernel) (by decide +kernel)
set_option maxRecDepth 20000 in
theorem gX4_hasClashIn_X3_at : GoodIn wsX4_hasClashIn (wsV RX4 28 RX3 yX3_at wsX3_at) := goodIn_app (goodIn_of _ (by decide +kernel)) ggX4_hasClashIn_X3_at
set_option maxRecDepth 20000 in
theorem ggX4_hasClashIn_X4_clash : GoodIn wsX4_hasClashIn wsX4_clash := goodIn_r _ [11, 12, 13, 14, 10, 15, 16, 17, 18, 19, 20, 21, 1, 2, 3, 4, 5, 6, 22, 23, 24, 25, 26, 27, 28, 29, 31, 30] (by decide +kernel) (by decide +kernel)
set_option maxRecDepth 20000 in
theorem gX4_hasClashIn_X4_clash : GoodIn wsX4_hasClashIn (wsV RX4 76 RX4 yX4_clash wsX4_clash) := goodIn_app (goodIn_of _ (by decide +kernel)) ggX4_hasClashIn_X4_clash
theorem dX4_hasClashIn_0 : decode cX4_hasClashIn 0 = .ok (.iconst 1, 1) := by decide +kernel
theorem dX4_hasClashIn_1 : decode cX4_hasClashIn 1 = .ok (.istore 4, 2) := by decide +kernel
theorem dX4_hasClashIn_3 : decode cX4_hasClashIn 3 = .ok (.iload 4, 2) := by decide +kernel
theorem dX4_hasClashIn_5 : decode cX4_hasClashIn 5 = .ok (.iload_n 3, 1) := by decide +kernel
theorem dX4_hasClashIn_6 : decode cX4_hasClashIn 6 = .ok (.if_icmp .ge 36, 3) := by decide +kernel
theorem dX4_hasClashIn_9 : decode cX4_hasClashIn 9 = .ok (.aload_n 0, 1) := by decide +kernel
theorem dX4_hasClashIn_10 : decode cX4_hasClashIn 10 = .ok (.aload_n 1, 1) := by decide +kernel
theorem dX4_hasClashIn_11 : decode cX4_hasClashIn 11 = .ok (.iload_n 2, 1) := by decide +kernel
theorem dX4_hasClashIn_12 : decode cX4_hasClashIn 12 = .ok (.iload 4, 2) := by decide +kernel
theorem dX4_hasClashIn_14 : decode cX4_hasClashIn 14 = .ok (.iadd, 1) := by decide +kernel
theorem dX4_hasClashIn_15 : decode cX4_hasClashIn 15 = .ok (.iconst 1, 1) := by decide +kernel
theorem dX4_hasClashIn_16 : decode cX4_hasClashIn 16 = .ok (.isub, 1) := by decide +kernel
theorem dX4_hasClashIn_17 : decode cX4_hasClashIn 17 = .ok (.invokevirtual 28, 3) := by decide +kernel
theorem dX4_hasClashIn_20 : decode cX4_hasClashIn 20 = .ok (.aload_n 1, 1) := by decide +kernel
theorem dX4_hasClashIn_21 : decode cX4_hasClashIn 21 = .ok (.iload_n 2, 1) := by decide +kernel
theorem dX4_hasClashIn_22 : decode cX4_hasClashIn 22 = .ok (.iload 4, 2) := by decide +kernel
theorem dX4_hasClashIn_24 : decode cX4_hasClashIn 24 = .ok (.iadd, 1) := by decide +kernel
theorem dX4_hasClashIn_25 : decode cX4_hasClashIn 25 = .ok (.invokevirtual 28, 3) := by decide +kernel
theorem dX4_hasClashIn_28 : decode cX4_hasClashIn 28 = .ok (.invokevirtual 76, 3) := by decide +kernel
theorem dX4_hasClashIn_31 : decode cX4_hasClashIn 31 = .ok (.ifCond .eq 5, 3) := by decide +kernel
theorem dX4_hasClashIn_34 : decode cX4_hasClashIn 34 = .ok (.iconst 1, 1) := by decide +kernel
theorem dX4_hasClashIn_35 : decode cX4_hasClashIn 35 = .ok (.ireturn, 1) := by decide +kernel
theorem dX4_hasClashIn_36 : decode cX4_hasClashIn 36 = .ok (.iinc 4 1, 3) := by decide +kernel
theorem dX4_hasClashIn_39 : decode cX4_hasClashIn 39 = .ok (.goto (-36), 3) := by decide +kernel
theorem dX4_hasClashIn_42 : decode cX4_hasClashIn 42 = .ok (.iconst 0, 1) := by decide +kernel
theorem dX4_hasClashIn_43 : decode cX4_hasClashIn 43 = .ok (.ireturn, 1) := by decide +kernel
set_option maxRecDepth 20000 in
theorem ggX4_hasClash_X4_cellOf : GoodIn wsX4_hasClash wsX4_cellOf := goodIn_r _ [6] (by decide +kernel) (by decide +kernel)
set_option maxRecDepth 20000 in
theorem gX4_hasClash_X4_cellOf : GoodIn wsX4_hasClash (wsV RX4 50 RX4 yX4_cellOf wsX4_cellOf) := goodIn_app (goodIn_of _ (by decide +kernel)) ggX4_hasClash_X4_cellOf
set_option maxRecDepth 20000 in
theorem ggX4_hasClash_X4_lengthOf : GoodIn wsX4_hasClash wsX4_lengthOf := goodIn_r _ [10, 1, 11, 12, 13, 14, 15, 16, 42, 43] (by decide +kernel) (by decide +kernel)
set_option maxRecDepth 20000 in
theorem gX4_hasClash_X4_lengthOf : GoodIn wsX4_hasClash (wsV RX4 47 RX4 yX4_lengthOf wsX4_lengthOf) := goodIn_app (goodIn_of _ (by decide +kernel)) ggX4_hasClash_X4_lengthOf
set_option maxRecDepth 20000 in
theorem ggX4_hasClash_X4_hasClashIn : GoodIn wsX4_hasClash wsX4_hasClashIn := goodIn_r _ [20, 11, 12, 13, 14, 15, 16, 21, 22, 23, 5, 24, 25, 26, 27, 28, 1, 29, 30, 31, 32, 33, 34, 35, 36, 37, 38, 39, 40, 41, 43, 42] (by decide +kernel) (by decide +kernel)
set_option maxRecDepth 20000 in
theorem gX4_hasClash_X4_hasClashIn : GoodIn wsX4_hasClash (wsV RX4 79 RX4 yX4_hasClashIn wsX4_hasClashIn) := goodIn_app (goodIn_of _ (by decide +kernel)) ggX4_hasClash_X4_hasClashIn
theorem dX4_hasClash_0 : decode cX4_hasClash 0 = .ok (.iconst 0, 1) := by decide +kernel
theorem dX4_hasClash_1 : decode cX4_hasClash 1 = .ok (.istore_n 1, 1) := by decide +kernel
theorem dX4_hasClash_2 : decode cX4_hasClash 2 = .ok (.iload_n 1, 1) := by decide +kernel
theorem dX4_hasClash_3 : decode cX4_hasClash 3 = .ok (.bipush 8, 2) := by decide +kernel
theorem dX4_hasClash_5 : decode cX4_hasClash 5 = .ok (.if_icmp .ge 33, 3) := by decide +kernel
theorem dX4_hasClash_8 : decode cX4_hasClash 8 = .ok (.aload_n 0, 1) := by decide +kernel
theorem dX4_hasClash_9 : decode cX4_hasClash 9 = .ok (.aload_n 0, 1) := by decide +kernel
theorem dX4_hasClash_10 : decode cX4_hasClash 10 = .ok (.getfield 16, 3) := by decide +kernel
theorem dX4_hasClash_13 : decode cX4_hasClash 13 = .ok (.aload_n 0, 1) := by decide +kernel
theorem dX4_hasClash_14 : decode cX4_hasClash 14 = .ok (.iload_n 1, 1) := by decide +kernel
theorem dX4_hasClash_15 : decode cX4_hasClash 15 = .ok (.iconst 0, 1) := by decide +kernel
theorem dX4_hasClash_16 : decode cX4_hasClash 16 = .ok (.invokevirtual 50, 3) := by decide +kernel
theorem dX4_hasClash_19 : decode cX4_hasClash 19 = .ok (.aload_n 0, 1) := by decide +kernel
theorem dX4_hasClash_20 : decode cX4_hasClash 20 = .ok (.iload_n 1, 1) := by decide +kernel
theorem dX4_hasClash_21 : decode cX4_hasClash 21 = .ok (.invokevirtual 47, 3) := by decide +kernel
theorem dX4_hasClash_24 : decode cX4_hasClash 24 = .ok (.invokevirtual 79, 3) := by decide +kernel
theorem dX4_hasClash_27 : decode cX4_hasClash 27 = .ok (.ifCond .eq 5, 3) := by decide +kernel
theorem dX4_hasClash_30 : decode cX4_hasClash 30 = .ok (.iconst 1, 1) := by decide +kernel
theorem dX4_hasClash_31 : decode cX4_hasClash 31 = .ok (.ireturn, 1) := by decide +kernel
theorem dX4_hasClash_32 : decode cX4_hasClash 32 = .ok (.iinc 1 1, 3) := by decide +kernel
theorem dX4_hasClash_35 : decode cX4_hasClash 35 = .ok (.goto (-33), 3) := by decide +kernel
theorem dX4_hasClash_38 : decode cX4_hasClash 38 = .ok (.iconst 0, 1) := by decide +kernel
theorem dX4_hasClash_39 : decode cX4_hasClash 39 = .ok (.ireturn, 1) := by decide +kernel
set_option maxRecDepth 20000 in
theorem ggX4_hasKindsOf_X3_at : GoodIn wsX4_hasKindsOf wsX3_at := goodIn_r _ [5, 6, 22] (by decide +kernel) (by decide +kernel)
set_option maxRecDepth 20000 in
theorem gX4_hasKindsOf_X3_at : GoodIn wsX4_hasKindsOf (wsV RX4 28 RX3 yX3_at wsX3_at) := goodIn_app (goodIn_of _ (by decide +kernel)) ggX4_hasKindsOf_X3_at
set_option maxRecDepth 20000 in
theorem ggX4_hasKindsOf_X6_kindOf : GoodIn wsX4_hasKindsOf wsX6_kindOf := goodIn_r _ [9] (by decide +kernel) (by decide +kernel)
set_option maxRecDepth 20000 in
theorem gX4_hasKindsOf_X6_kindOf_n44 : GoodIn wsX4_hasKindsOf (wsX6_kindOf) := ggX4_hasKindsOf_X6_kindOf
set_option maxRecDepth 20000 in
theorem ggX4_hasKindsOf_X4_hasKind : GoodIn wsX4_hasKindsOf wsX4_hasKind := goodIn_r _ [14, 15, 16, 17, 13, 18, 19, 1, 2, 3, 4, 5, 6, 20, 8, 21, 23, 22] (by decide +kernel) (by decide +kernel)
set_option maxRecDepth 20000 in
theorem gX4_hasKindsOf_X4_hasKind : GoodIn wsX4_hasKindsOf (wsV RX4 83 RX4 yX4_hasKind wsX4_hasKind) := goodIn_app (goodIn_of _ (by decide +kernel)) ggX4_hasKindsOf_X4_hasKind
theorem dX4_hasKindsOf_0 : decode cX4_hasKindsOf 0 = .ok (.iconst 0, 1) := by decide +kernel
theorem dX4_hasKindsOf_1 : decode cX4_hasKindsOf 1 = .ok (.istore_n 3, 1) := by decide +kernel
theorem dX4_hasKindsOf_2 : decode cX4_hasKindsOf 2 = .ok (.iload_n 3, 1) := by decide +kernel
theorem dX4_hasKindsOf_3 : decode cX4_hasKindsOf 3 = .ok (.iload_n 2, 1) := by decide +kernel
theorem dX4_hasKindsOf_4 : decode cX4_hasKindsOf 4 = .ok (.if_icmp .ge 26, 3) := by decide +kernel
theorem dX4_hasKindsOf_7 : decode cX4_hasKindsOf 7 = .ok (.aload_n 0, 1) := by decide +kernel
theorem dX4_hasKindsOf_8 : decode cX4_hasKindsOf 8 = .ok (.aload_n 1, 1) := by decide +kernel
theorem dX4_hasKindsOf_9 : decode cX4_hasKindsOf 9 = .ok (.iload_n 3, 1) := by decide +kernel
theorem dX4_hasKindsOf_10 : decode cX4_hasKindsOf 10 = .ok (.invokevirtual 28, 3) := by decide +kernel
theorem dX4_hasKindsOf_13 : decode cX4_hasKindsOf 13 = .ok (.invokestatic 44, 3) := by decide +kernel
theorem dX4_hasKindsOf_16 : decode cX4_hasKindsOf 16 = .ok (.invokevirtual 83, 3) := by decide +kernel
theorem dX4_hasKindsOf_19 : decode cX4_hasKindsOf 19 = .ok (.ifCond .ne 5, 3) := by decide +kernel
theorem dX4_hasKindsOf_22 : decode cX4_hasKindsOf 22 = .ok (.iconst 0, 1) := by decide +kernel
theorem dX4_hasKindsOf_23 : decode cX4_hasKindsOf 23 = .ok (.ireturn, 1) := by decide +kernel
theorem dX4_hasKindsOf_24 : decode cX4_hasKindsOf 24 = .ok (.iinc 3 1, 3) := by decide +kernel
theorem dX4_hasKindsOf_27 : decode cX4_hasKindsOf 27 = .ok (.goto (-25), 3) := by decide +kernel
theorem dX4_hasKindsOf_30 : decode cX4_hasKindsOf 30 = .ok (.iconst 1, 1) := by decide +kernel
theorem dX4_hasKindsOf_31 : decode cX4_hasKindsOf 31 = .ok (.ireturn, 1) := by decide +kernel
set_option maxRecDepth 20000 in
theorem ggX5_init_X3_init : GoodIn wsX5_init wsX3_init := goodIn_r _ [11, 12, 2, 3, 13, 14, 15] (by decide +kernel) (by decide +kernel)
set_option maxRecDepth 20000 in
theorem gX5_init_X3_init : GoodIn wsX5_init (wsX3_init) := ggX5_init_X3_init
theorem dX5_init_0 : decode cX5_init 0 = .ok (.aload_n 0, 1) := by decide +kernel
theorem dX5_init_1 : decode cX5_init 1 = .ok (.invokespecial 3, 3) := by decide +kernel
theorem dX5_init_4 : decode cX5_init 4 = .ok (.aload_n 0, 1) := by decide +kernel
theorem dX5_init_5 : decode cX5_init 5 = .ok (.new 9, 3) := by decide +kernel
theorem dX5_init_8 : decode cX5_init 8 = .ok (.dup, 1) := by decide +kernel
theorem dX5_init_9 : decode cX5_init 9 = .ok (.bipush 80, 2) := by decide +kernel
theorem dX5_init_11 : decode cX5_init 11 = .ok (.invokespecial 11, 3) := by decide +kernel
theorem dX5_init_14 : decode cX5_init 14 = .ok (.putfield 14, 3) := by decide +kernel
theorem dX5_init_17 : decode cX5_init 17 = .ok (.aload_n 0, 1) := by decide +kernel
theorem dX5_init_18 : decode cX5_init 18 = .ok (.iconst 0, 1) := by decide +kernel
theorem dX5_init_19 : decode cX5_init 19 = .ok (.putfield 20, 3) := by decide +kernel
theorem dX5_init_22 : decode cX5_init 22 = .ok (.return_, 1) := by decide +kernel
theorem dX5_size_0 : decode cX5_size 0 = .ok (.aload_n 0, 1) := by decide +kernel
theorem dX5_size_1 : decode cX5_size 1 = .ok (.getfield 20, 3) := by decide +kernel
theorem dX5_size_4 : decode cX5_size 4 = .ok (.ireturn, 1) := by decide +kernel
theorem dX5_isFull_0 : decode cX5_isFull 0 = .ok (.aload_n 0, 1) := by decide +kernel
theorem dX5_isFull_1 : decode cX5_isFull 1 = .ok (.getfield 20, 3) := by decide +kernel
theorem dX5_isFull_4 : decode cX5_isFull 4 = .ok (.bipush 80, 2) := by decide +kernel
theorem dX5_isFull_6 : decode cX5_isFull 6 = .ok (.if_icmp .lt 7, 3) := by decide +kernel
theorem dX5_isFull_9 : decode cX5_isFull 9 = .ok (.iconst 1, 1) := by decide +kernel
theorem dX5_isFull_10 : decode cX5_isFull 10 = .ok (.goto 4, 3) := by decide +kernel
theorem dX5_isFull_13 : decode cX5_isFull 13 = .ok (.iconst 0, 1) := by decide +kernel
theorem dX5_isFull_14 : decode cX5_isFull 14 = .ok (.ireturn, 1) := by decide +kernel
set_option maxRecDepth 20000 in
theorem ggX5_add_X3_put : GoodIn wsX5_add wsX3_put := goodIn_r _ [7, 8, 11] (by decide +kernel) (by decide +kernel)
set_option maxRecDepth 20000 in
theorem gX5_add_X3_put : GoodIn wsX5_add (wsV RX5 24 RX3 yX3_put wsX3_put) := goodIn_app (goodIn_of _ (by decide +kernel)) ggX5_add_X3_put
theorem dX5_add_0 : decode cX5_add 0 = .ok (.aload_n 0, 1) := by decide +kernel
theorem dX5_add_1 : decode cX5_add 1 = .ok (.getfield 14, 3) := by decide +kernel
theorem dX5_add_4 : decode cX5_add 4 = .ok (.aload_n 0, 1) := by decide +kernel
theorem dX5_add_5 : decode cX5_add 5 = .ok (.getfield 20, 3) := by decide +kernel
theorem dX5_add_8 : decode cX5_add 8 = .ok (.iload_n 1, 1) := by decide +kernel
theorem dX5_add_9 : decode cX5_add 9 = .ok (.invokevirtual 24, 3) := by decide +kernel
theorem dX5_add_12 : decode cX5_add 12 = .ok (.aload_n 0, 1) := by decide +kernel
theorem dX5_add_13 : decode cX5_add 13 = .ok (.dup, 1) := by decide +kernel
theorem dX5_add_14 : decode cX5_add 14 = .ok (.getfield 20, 3) := by decide +kernel
theorem dX5_add_17 : decode cX5_add 17 = .ok (.iconst 1, 1) := by decide +kernel
theorem dX5_add_18 : decode cX5_add 18 = .ok (.iadd, 1) := by decide +kernel
theorem dX5_add_19 : decode cX5_add 19 = .ok (.putfield 20, 3) := by decide +kernel
theorem dX5_add_22 : decode cX5_add 22 = .ok (.aload_n 0, 1) := by decide +kernel
theorem dX5_add_23 : decode cX5_add 23 = .ok (.getfield 20, 3) := by decide +kernel
theorem dX5_add_26 : decode cX5_add 26 = .ok (.ireturn, 1) := by decide +kernel
theorem dX5_empty_0 : decode cX5_empty 0 = .ok (.aload_n 0, 1) := by decide +kernel
theorem dX5_empty_1 : decode cX5_empty 1 = .ok (.getfield 20, 3) := by decide +kernel
theorem dX5_empty_4 : decode cX5_empty 4 = .ok (.istore_n 1, 1) := by decide +kernel
theorem dX5_empty_5 : decode cX5_empty 5 = .ok (.aload_n 0, 1) := by decide +kernel
theorem dX5_empty_6 : decode cX5_empty 6 = .ok (.iconst 0, 1) := by decide +kernel
theorem dX5_empty_7 : decode cX5_empty 7 = .ok (.putfield 20, 3) := by decide +kernel
theorem dX5_empty_10 : decode cX5_empty 10 = .ok (.iload_n 1, 1) := by decide +kernel
theorem dX5_empty_11 : decode cX5_empty 11 = .ok (.ireturn, 1) := by decide +kernel
theorem dX5_isDigit_0 : decode cX5_isDigit 0 = .ok (.iload_n 0, 1) := by decide +kernel
theorem dX5_isDigit_1 : decode cX5_isDigit 1 = .ok (.bipush 48, 2) := by decide +kernel
theorem dX5_isDigit_3 : decode cX5_isDigit 3 = .ok (.if_icmp .lt 13, 3) := by decide +kernel
theorem dX5_isDigit_6 : decode cX5_isDigit 6 = .ok (.iload_n 0, 1) := by decide +kernel
theorem dX5_isDigit_7 : decode cX5_isDigit 7 = .ok (.bipush 57, 2) := by decide +kernel
theorem dX5_isDigit_9 : decode cX5_isDigit 9 = .ok (.if_icmp .gt 7, 3) := by decide +kernel
theorem dX5_isDigit_12 : decode cX5_isDigit 12 = .ok (.iconst 1, 1) := by decide +kernel
theorem dX5_isDigit_13 : decode cX5_isDigit 13 = .ok (.goto 4, 3) := by decide +kernel
theorem dX5_isDigit_16 : decode cX5_isDigit 16 = .ok (.iconst 0, 1) := by decide +kernel
theorem dX5_isDigit_17 : decode cX5_isDigit 17 = .ok (.ireturn, 1) := by decide +kernel
set_option maxRecDepth 20000 in
theorem ggX5_fault_X3_at : GoodIn wsX5_fault wsX3_at := goodIn_r _ [7, 8, 15] (by decide +kernel) (by decide +kernel)
set_option maxRecDepth 20000 in
theorem gX5_fault_X3_at : GoodIn wsX5_fault (wsV RX5 28 RX3 yX3_at wsX3_at) := goodIn_app (goodIn_of _ (by decide +kernel)) ggX5_fault_X3_at
set_option maxRecDepth 20000 in
theorem ggX5_fault_X5_isDigit : GoodIn wsX5_fault wsX5_isDigit := goodIn_r _ [12] (by decide +kernel) (by decide +kernel)
set_option maxRecDepth 20000 in
theorem gX5_fault_X5_isDigit : GoodIn wsX5_fault (va_wsS RX5 32 yX5_isDigit wsX5_isDigit) := goodIn_app (goodIn_of _ (by decide +kernel)) ggX5_fault_X5_isDigit
theorem dX5_fault_0 : decode cX5_fault 0 = .ok (.iconst 0, 1) := by decide +kernel
theorem dX5_fault_1 : decode cX5_fault 1 = .ok (.istore_n 1, 1) := by decide +kernel
theorem dX5_fault_2 : decode cX5_fault 2 = .ok (.iconst 1, 1) := by decide +kernel
theorem dX5_fault_3 : decode cX5_fault 3 = .ok (.istore_n 2, 1) := by decide +kernel
theorem dX5_fault_4 : decode cX5_fault 4 = .ok (.iconst 0, 1) := by decide +kernel
theorem dX5_fault_5 : decode cX5_fault 5 = .ok (.istore_n 3, 1) := by decide +kernel
theorem dX5_fault_6 : decode cX5_fault 6 = .ok (.iconst 0, 1) := by decide +kernel
theorem dX5_fault_7 : decode cX5_fault 7 = .ok (.istore 4, 2) := by decide +kernel
theorem dX5_fault_9 : decode cX5_fault 9 = .ok (.iload 4, 2) := by decide +kernel
theorem dX5_fault_11 : decode cX5_fault 11 = .ok (.aload_n 0, 1) := by decide +kernel
theorem dX5_fault_12 : decode cX5_fault 12 = .ok (.getfield 20, 3) := by decide +kernel
theorem dX5_fault_15 : decode cX5_fault 15 = .ok (.if_icmp .ge 85, 3) := by decide +kernel
theorem dX5_fault_18 : decode cX5_fault 18 = .ok (.aload_n 0, 1) := by decide +kernel
theorem dX5_fault_19 : decode cX5_fault 19 = .ok (.getfield 14, 3) := by decide +kernel
theorem dX5_fault_22 : decode cX5_fault 22 = .ok (.iload 4, 2) := by decide +kernel
theorem dX5_fault_24 : decode cX5_fault 24 = .ok (.invokevirtual 28, 3) := by decide +kernel
theorem dX5_fault_27 : decode cX5_fault 27 = .ok (.istore 5, 2) := by decide +kernel
theorem dX5_fault_29 : decode cX5_fault 29 = .ok (.iload_n 2, 1) := by decide +kernel
theorem dX5_fault_30 : decode cX5_fault 30 = .ok (.ifCond .eq 21, 3) := by decide +kernel
theorem dX5_fault_33 : decode cX5_fault 33 = .ok (.iload 5, 2) := by decide +kernel
theorem dX5_fault_35 : decode cX5_fault 35 = .ok (.invokestatic 32, 3) := by decide +kernel
theorem dX5_fault_38 : decode cX5_fault 38 = .ok (.ifCond .eq 13, 3) := by decide +kernel
theorem dX5_fault_41 : decode cX5_fault 41 = .ok (.iinc 1 1, 3) := by decide +kernel
theorem dX5_fault_44 : decode cX5_fault 44 = .ok (.iconst 0, 1) := by decide +kernel
theorem dX5_fault_45 : decode cX5_fault 45 = .ok (.istore_n 2, 1) := by decide +kernel
theorem dX5_fault_46 : decode cX5_fault 46 = .ok (.iconst 1, 1) := by decide +kernel
theorem dX5_fault_47 : decode cX5_fault 47 = .ok (.istore_n 3, 1) := by decide +kernel
theorem dX5_fault_48 : decode cX5_fault 48 = .ok (.goto 46, 3) := by decide +kernel
theorem dX5_fault_51 : decode cX5_fault 51 = .ok (.iload_n 3, 1) := by decide +kernel
theorem dX5_fault_52 : decode cX5_fault 52 = .ok (.ifCond .eq 15, 3) := by decide +kernel
theorem dX5_fault_55 : decode cX5_fault 55 = .ok (.iload 5, 2) := by decide +kernel
theorem dX5_fault_57 : decode cX5_fault 57 = .ok (.bipush 39, 2) := by decide +kernel
theorem dX5_fault_59 : decode cX5_fault 59 = .ok (.if_icmp .ne 8, 3) := by decide +kernel
theorem dX5_fault_62 : decode cX5_fault 62 = .ok (.iconst 0, 1) := by decide +kernel
theorem dX5_fault_63 : decode cX5_fault 63 = .ok (.istore_n 3, 1) := by decide +kernel
theorem dX5_fault_64 : decode cX5_fault 64 = .ok (.goto 30, 3) := by decide +kernel
theorem dX5_fault_67 : decode cX5_fault 67 = .ok (.iload_n 2, 1) := by decide +kernel
theorem dX5_fault_68 : decode cX5_fault 68 = .ok (.ifCond .ne 23, 3) := by decide +kernel
theorem dX5_fault_71 : decode cX5_fault 71 = .ok (.iload 5, 2) := by decide +kernel
theorem dX5_fault_73 : decode cX5_fault 73 = .ok (.bipush 44, 2) := by decide +kernel
theorem dX5_fault_75 : decode cX5_fault 75 = .ok (.if_icmp .ne 16, 3) := by decide +kernel
theorem dX5_fault_78 : decode cX5_fault 78 = .ok (.iload_n 1, 1) := by decide +kernel
theorem dX5_fault_79 : decode cX5_fault 79 = .ok (.bipush 32, 2) := by decide +kernel
theorem dX5_fault_81 : decode cX5_fault 81 = .ok (.if_icmp .ge 10, 3) := by decide +kernel
theorem dX5_fault_84 : decode cX5_fault 84 = .ok (.iconst 1, 1) := by decide +kernel
theorem dX5_fault_85 : decode cX5_fault 85 = .ok (.istore_n 2, 1) := by decide +kernel
theorem dX5_fault_86 : decode cX5_fault 86 = .ok (.iconst 0, 1) := by decide +kernel
theorem dX5_fault_87 : decode cX5_fault 87 = .ok (.istore_n 3, 1) := by decide +kernel
theorem dX5_fault_88 : decode cX5_fault 88 = .ok (.goto 6, 3) := by decide +kernel
theorem dX5_fault_91 : decode cX5_fault 91 = .ok (.iload 4, 2) := by decide +kernel
theorem dX5_fault_93 : decode cX5_fault 93 = .ok (.ireturn, 1) := by decide +kernel
theorem dX5_fault_94 : decode cX5_fault 94 = .ok (.iinc 4 1, 3) := by decide +kernel
theorem dX5_fault_97 : decode cX5_fault 97 = .ok (.goto (-88), 3) := by decide +kernel
theorem dX5_fault_100 : decode cX5_fault 100 = .ok (.iload_n 2, 1) := by decide +kernel
theorem dX5_fault_101 : decode cX5_fault 101 = .ok (.ifCond .eq 10, 3) := by decide +kernel
theorem dX5_fault_104 : decode cX5_fault 104 = .ok (.aload_n 0, 1) := by decide +kernel
theorem dX5_fault_105 : decode cX5_fault 105 = .ok (.getfield 20, 3) := by decide +kernel
theorem dX5_fault_108 : decode cX5_fault 108 = .ok (.goto 4, 3) := by decide +kernel
theorem dX5_fault_111 : decode cX5_fault 111 = .ok (.iconst (-1), 1) := by decide +kernel
theorem dX5_fault_112 : decode cX5_fault 112 = .ok (.ireturn, 1) := by decide +kernel
set_option maxRecDepth 20000 in
theorem ggX5_spellDolls_X3_at : GoodIn wsX5_spellDolls wsX3_at := goodIn_r _ [7, 8, 27] (by decide +kernel) (by decide +kernel)
set_option maxRecDepth 20000 in
theorem gX5_spellDolls_X3_at : GoodIn wsX5_spellDolls (wsV RX5 28 RX3 yX3_at wsX3_at) := goodIn_app (goodIn_of _ (by decide +kernel)) ggX5_spellDolls_X3_at
set_option maxRecDepth 20000 in
theorem ggX5_spellDolls_X5_isDigit : GoodIn wsX5_spellDolls wsX5_isDigit := goodIn_r _ [12] (by decide +kernel) (by decide +kernel)
set_option maxRecDepth 20000 in
theorem gX5_spellDolls_X5_isDigit : GoodIn wsX5_spellDolls (va_wsS RX5 32 yX5_isDigit wsX5_isDigit) := goodIn_app (goodIn_of _ (by decide +kernel)) ggX5_spellDolls_X5_isDigit
set_option maxRecDepth 20000 in
theorem ggX5_spellDolls_X6_dollOf : GoodIn wsX5_spellDolls wsX6_dollOf := goodIn_r _ [15, 16, 17, 14, 18] (by decide +kernel) (by decide +kernel)
set_option maxRecDepth 20000 in
theorem gX5_spellDolls_X6_dollOf_n36 : GoodIn wsX5_spellDolls (wsX6_dollOf) := ggX5_spellDolls_X6_dollOf
set_option maxRecDepth 20000 in
theorem ggX5_spellDolls_X3_put : GoodIn wsX5_spellDolls wsX3_put := goodIn_r _ [22, 8, 27] (by decide +kernel) (by decide +kernel)
set_option maxRecDepth 20000 in
theorem gX5_spellDolls_X3_put : GoodIn wsX5_spellDolls (wsV RX5 24 RX3 yX3_put wsX3_put) := goodIn_app (goodIn_of _ (by decide +kernel)) ggX5_spellDolls_X3_put
set_option maxRecDepth 20000 in
theorem ggX5_spellDolls_X6_mirrorOf : GoodIn wsX5_spellDolls wsX6_mirrorOf := goodIn_r _ [24] (by decide +kernel) (by decide +kernel)
set_option maxRecDepth 20000 in
theorem gX5_spellDolls_X6_mirrorOf_n40 : GoodIn wsX5_spellDolls (wsX6_mirrorOf) := ggX5_spellDolls_X6_mirrorOf
theorem dX5_spellDolls_0 : decode cX5_spellDolls 0 = .ok (.iconst 0, 1) := by decide +kernel
theorem dX5_spellDolls_1 : decode cX5_spellDolls 1 = .ok (.istore_n 2, 1) := by decide +kernel
theorem dX5_spellDolls_2 : decode cX5_spellDolls 2 = .ok (.iconst 0, 1) := by decide +kernel
theorem dX5_spellDolls_3 : decode cX5_spellDolls 3 = .ok (.istore_n 3, 1) := by decide +kernel
theorem dX5_spellDolls_4 : decode cX5_spellDolls 4 = .ok (.iload_n 3, 1) := by decide +kernel
theorem dX5_spellDolls_5 : decode cX5_spellDolls 5 = .ok (.aload_n 0, 1) := by decide +kernel
theorem dX5_spellDolls_6 : decode cX5_spellDolls 6 = .ok (.getfield 20, 3) := by decide +kernel
theorem dX5_spellDolls_9 : decode cX5_spellDolls 9 = .ok (.if_icmp .ge 71, 3) := by decide +kernel
theorem dX5_spellDolls_12 : decode cX5_spellDolls 12 = .ok (.aload_n 0, 1) := by decide +kernel
theorem dX5_spellDolls_13 : decode cX5_spellDolls 13 = .ok (.getfield 14, 3) := by decide +kernel
theorem dX5_spellDolls_16 : decode cX5_spellDolls 16 = .ok (.iload_n 3, 1) := by decide +kernel
theorem dX5_spellDolls_17 : decode cX5_spellDolls 17 = .ok (.invokevirtual 28, 3) := by decide +kernel
theorem dX5_spellDolls_20 : decode cX5_spellDolls 20 = .ok (.istore 4, 2) := by decide +kernel
theorem dX5_spellDolls_22 : decode cX5_spellDolls 22 = .ok (.iload 4, 2) := by decide +kernel
theorem dX5_spellDolls_24 : decode cX5_spellDolls 24 = .ok (.invokestatic 32, 3) := by decide +kernel
theorem dX5_spellDolls_27 : decode cX5_spellDolls 27 = .ok (.ifCond .eq 23, 3) := by decide +kernel
theorem dX5_spellDolls_30 : decode cX5_spellDolls 30 = .ok (.aload_n 1, 1) := by decide +kernel
theorem dX5_spellDolls_31 : decode cX5_spellDolls 31 = .ok (.iload_n 2, 1) := by decide +kernel
theorem dX5_spellDolls_32 : decode cX5_spellDolls 32 = .ok (.iload 4, 2) := by decide +kernel
theorem dX5_spellDolls_34 : decode cX5_spellDolls 34 = .ok (.bipush 48, 2) := by decide +kernel
theorem dX5_spellDolls_36 : decode cX5_spellDolls 36 = .ok (.isub, 1) := by decide +kernel
theorem dX5_spellDolls_37 : decode cX5_spellDolls 37 = .ok (.iconst 0, 1) := by decide +kernel
theorem dX5_spellDolls_38 : decode cX5_spellDolls 38 = .ok (.invokestatic 36, 3) := by decide +kernel
theorem dX5_spellDolls_41 : decode cX5_spellDolls 41 = .ok (.invokevirtual 24, 3) := by decide +kernel
theorem dX5_spellDolls_44 : decode cX5_spellDolls 44 = .ok (.iinc 2 1, 3) := by decide +kernel
theorem dX5_spellDolls_47 : decode cX5_spellDolls 47 = .ok (.goto 27, 3) := by decide +kernel
theorem dX5_spellDolls_50 : decode cX5_spellDolls 50 = .ok (.iload 4, 2) := by decide +kernel
theorem dX5_spellDolls_52 : decode cX5_spellDolls 52 = .ok (.bipush 39, 2) := by decide +kernel
theorem dX5_spellDolls_54 : decode cX5_spellDolls 54 = .ok (.if_icmp .ne 20, 3) := by decide +kernel
theorem dX5_spellDolls_57 : decode cX5_spellDolls 57 = .ok (.aload_n 1, 1) := by decide +kernel
theorem dX5_spellDolls_58 : decode cX5_spellDolls 58 = .ok (.iload_n 2, 1) := by decide +kernel
theorem dX5_spellDolls_59 : decode cX5_spellDolls 59 = .ok (.iconst 1, 1) := by decide +kernel
theorem dX5_spellDolls_60 : decode cX5_spellDolls 60 = .ok (.isub, 1) := by decide +kernel
theorem dX5_spellDolls_61 : decode cX5_spellDolls 61 = .ok (.aload_n 1, 1) := by decide +kernel
theorem dX5_spellDolls_62 : decode cX5_spellDolls 62 = .ok (.iload_n 2, 1) := by decide +kernel
theorem dX5_spellDolls_63 : decode cX5_spellDolls 63 = .ok (.iconst 1, 1) := by decide +kernel
theorem dX5_spellDolls_64 : decode cX5_spellDolls 64 = .ok (.isub, 1) := by decide +kernel
theorem dX5_spellDolls_65 : decode cX5_spellDolls 65 = .ok (.invokevirtual 28, 3) := by decide +kernel
theorem dX5_spellDolls_68 : decode cX5_spellDolls 68 = .ok (.invokestatic 40, 3) := by decide +kernel
theorem dX5_spellDolls_71 : decode cX5_spellDolls 71 = .ok (.invokevirtual 24, 3) := by decide +kernel
theorem dX5_spellDolls_74 : decode cX5_spellDolls 74 = .ok (.iinc 3 1, 3) := by decide +kernel
theorem dX5_spellDolls_77 : decode cX5_spellDolls 77 = .ok (.goto (-73), 3) := by decide +kernel
theorem dX5_spellDolls_80 : decode cX5_spellDolls 80 = .ok (.iload_n 2, 1) := by decide +kernel
theorem dX5_spellDolls_81 : decode cX5_spellDolls 81 = .ok (.ireturn, 1) := by decide +kernel
set_option maxRecDepth 20000 in
theorem ggX6_init_X4_init : GoodIn wsX6_init wsX4_init := goodIn_r _ [32, 33, 2, 3, 34, 25, 26, 35, 36, 37, 38, 39, 40, 41, 42, 43, 44, 45, 98, 79] (by decide +kernel) (by decide +kernel)
set_option maxRecDepth 20000 in
theorem gX6_init_X4_init : GoodIn wsX6_init (wsX4_init) := ggX6_init_X4_init
set_option maxRecDepth 20000 in
theorem ggX6_init_X2_init : GoodIn wsX6_init wsX2_init := goodIn_r _ [48, 49, 2, 3, 50, 88] (by decide +kernel) (by decide +kernel)
set_option maxRecDepth 20000 in
theorem gX6_init_X2_init : GoodIn wsX6_init (wsX2_init) := ggX6_init_X2_init
set_option maxRecDepth 20000 in
theorem ggX6_init_X0_init : GoodIn wsX6_init wsX0_init := goodIn_r _ [53, 54, 2, 3, 55, 56, 25, 26, 57, 58, 59, 60, 37, 38, 39, 40, 41, 89, 90, 91, 92, 98] (by decide +kernel) (by decide +kernel)
set_option maxRecDepth 20000 in
theorem gX6_init_X0_init : GoodIn wsX6_init (wsX0_init) := ggX6_init_X0_init
set_option maxRecDepth 20000 in
theorem ggX6_init_X1_init : GoodIn wsX6_init wsX1_init := goodIn_r _ [63, 64, 2, 3, 65, 25, 26, 66, 67, 68, 69, 37, 38, 39, 40, 41, 98, 93, 94, 95] (by decide +kernel) (by decide +kernel)
set_option maxRecDepth 20000 in
theorem gX6_init_X1_init : GoodIn wsX6_init (wsX1_init) := ggX6_init_X1_init
set_option maxRecDepth 20000 in
theorem ggX6_init_X5_init : GoodIn wsX6_init wsX5_init := goodIn_r _ [72, 73, 2, 3, 74, 25, 26, 75, 76, 77, 37, 38, 39, 40, 41, 98, 96, 97] (by decide +kernel) (by decide +kernel)
set_option maxRecDepth 20000 in
theorem gX6_init_X5_init : GoodIn wsX6_init (wsX5_init) := ggX6_init_X5_init
set_option maxRecDepth 20000 in
theorem ggX6_init_X3_init : GoodIn wsX6_init wsX3_init := goodIn_r _ [38, 39, 2, 3, 40, 41, 98] (by decide +kernel) (by decide +kernel)
set_option maxRecDepth 20000 in
theorem gX6_init_X3_init : GoodIn wsX6_init (wsX3_init) := ggX6_init_X3_init
end
section
theorem dX6_init_0 : decode cX6_init 0 = .ok (.aload_n 0, 1) := by decide +kernel
theorem dX6_init_1 : decode cX6_init 1 = .ok (.invokespecial 3, 3) := by decide +kernel
theorem dX6_init_4 : decode cX6_init 4 = .ok (.aload_n 0, 1) := by decide +kernel
theorem dX6_init_5 : decode cX6_init 5 = .ok (.new 9, 3) := by decide +kernel
theorem dX6_init_8 : decode cX6_init 8 = .ok (.dup, 1) := by decide +kernel
theorem dX6_init_9 : decode cX6_init 9 = .ok (.invokespecial 11, 3) := by decide +kernel
theorem dX6_init_12 : decode cX6_init 12 = .ok (.putfield 12, 3) := by decide +kernel
theorem dX6_init_15 : decode cX6_init 15 = .ok (.aload_n 0, 1) := by decide +kernel
theorem dX6_init_16 : decode cX6_init 16 = .ok (.new 16, 3) := by decide +kernel
theorem dX6_init_19 : decode cX6_init 19 = .ok (.dup, 1) := by decide +kernel
theorem dX6_init_20 : decode cX6_init 20 = .ok (.aload_n 0, 1) := by decide +kernel
theorem dX6_init_21 : decode cX6_init 21 = .ok (.getfield 12, 3) := by decide +kernel
theorem dX6_init_24 : decode cX6_init 24 = .ok (.invokespecial 18, 3) := by decide +kernel
theorem dX6_init_27 : decode cX6_init 27 = .ok (.putfield 21, 3) := by decide +kernel
theorem dX6_init_30 : decode cX6_init 30 = .ok (.aload_n 0, 1) := by decide +kernel
theorem dX6_init_31 : decode cX6_init 31 = .ok (.new 25, 3) := by decide +kernel
theorem dX6_init_34 : decode cX6_init 34 = .ok (.dup, 1) := by decide +kernel
theorem dX6_init_35 : decode cX6_init 35 = .ok (.aload_n 0, 1) := by decide +kernel
theorem dX6_init_36 : decode cX6_init 36 = .ok (.getfield 12, 3) := by decide +kernel
theorem dX6_init_39 : decode cX6_init 39 = .ok (.invokespecial 27, 3) := by decide +kernel
theorem dX6_init_42 : decode cX6_init 42 = .ok (.putfield 28, 3) := by decide +kernel
theorem dX6_init_45 : decode cX6_init 45 = .ok (.aload_n 0, 1) := by decide +kernel
theorem dX6_init_46 : decode cX6_init 46 = .ok (.new 32, 3) := by decide +kernel
theorem dX6_init_49 : decode cX6_init 49 = .ok (.dup, 1) := by decide +kernel
theorem dX6_init_50 : decode cX6_init 50 = .ok (.invokespecial 34, 3) := by decide +kernel
theorem dX6_init_53 : decode cX6_init 53 = .ok (.putfield 35, 3) := by decide +kernel
theorem dX6_init_56 : decode cX6_init 56 = .ok (.aload_n 0, 1) := by decide +kernel
theorem dX6_init_57 : decode cX6_init 57 = .ok (.new 39, 3) := by decide +kernel
theorem dX6_init_60 : decode cX6_init 60 = .ok (.dup, 1) := by decide +kernel
theorem dX6_init_61 : decode cX6_init 61 = .ok (.invokespecial 41, 3) := by decide +kernel
theorem dX6_init_64 : decode cX6_init 64 = .ok (.putfield 42, 3) := by decide +kernel
theorem dX6_init_67 : decode cX6_init 67 = .ok (.aload_n 0, 1) := by decide +kernel
theorem dX6_init_68 : decode cX6_init 68 = .ok (.new 46, 3) := by decide +kernel
theorem dX6_init_71 : decode cX6_init 71 = .ok (.dup, 1) := by decide +kernel
theorem dX6_init_72 : decode cX6_init 72 = .ok (.sipush 286, 3) := by decide +kernel
theorem dX6_init_75 : decode cX6_init 75 = .ok (.invokespecial 48, 3) := by decide +kernel
theorem dX6_init_78 : decode cX6_init 78 = .ok (.putfield 51, 3) := by decide +kernel
theorem dX6_init_81 : decode cX6_init 81 = .ok (.aload_n 0, 1) := by decide +kernel
theorem dX6_init_82 : decode cX6_init 82 = .ok (.new 46, 3) := by decide +kernel
theorem dX6_init_85 : decode cX6_init 85 = .ok (.dup, 1) := by decide +kernel
theorem dX6_init_86 : decode cX6_init 86 = .ok (.bipush 32, 2) := by decide +kernel
theorem dX6_init_88 : decode cX6_init 88 = .ok (.invokespecial 48, 3) := by decide +kernel
theorem dX6_init_91 : decode cX6_init 91 = .ok (.putfield 55, 3) := by decide +kernel
theorem dX6_init_94 : decode cX6_init 94 = .ok (.aload_n 0, 1) := by decide +kernel
theorem dX6_init_95 : decode cX6_init 95 = .ok (.iconst 0, 1) := by decide +kernel
theorem dX6_init_96 : decode cX6_init 96 = .ok (.putfield 58, 3) := by decide +kernel
theorem dX6_init_99 : decode cX6_init 99 = .ok (.return_, 1) := by decide +kernel
set_option maxRecDepth 20000 in
theorem ggX6_setHands_X4_hasKind : GoodIn wsX6_setHands wsX4_hasKind := goodIn_r _ [7, 8, 9, 10, 6, 11, 12, 13, 14, 15, 16, 17, 18, 19, 20, 21, 107, 108] (by decide +kernel) (by decide +kernel)
set_option maxRecDepth 20000 in
theorem gX6_setHands_X4_hasKind : GoodIn wsX6_setHands (wsV RX6 62 RX4 yX4_hasKind wsX4_hasKind) := goodIn_app (goodIn_of _ (by decide +kernel)) ggX6_setHands_X4_hasKind
set_option maxRecDepth 20000 in
theorem ggX6_setHands_X6_isBelow : GoodIn wsX6_setHands wsX6_isBelow := goodIn_r _ [21] (by decide +kernel) (by decide +kernel)
set_option maxRecDepth 20000 in
theorem gX6_setHands_X6_isBelow : GoodIn wsX6_setHands (va_wsS RX6 66 yX6_isBelow wsX6_isBelow) := goodIn_app (goodIn_of _ (by decide +kernel)) ggX6_setHands_X6_isBelow
set_option maxRecDepth 20000 in
theorem ggX6_setHands_X4_leftHand : GoodIn wsX6_setHands wsX4_leftHand := goodIn_r _ [26, 12, 13, 14, 15, 16, 17, 18, 107, 108] (by decide +kernel) (by decide +kernel)
set_option maxRecDepth 20000 in
theorem gX6_setHands_X4_leftHand : GoodIn wsX6_setHands (wsV RX6 70 RX4 yX4_leftHand wsX4_leftHand) := goodIn_app (goodIn_of _ (by decide +kernel)) ggX6_setHands_X4_leftHand
set_option maxRecDepth 20000 in
theorem ggX6_setHands_X4_rightHand : GoodIn wsX6_setHands wsX4_rightHand := goodIn_r _ [30, 12, 13, 14, 15, 16, 17, 18, 107, 108] (by decide +kernel) (by decide +kernel)
set_option maxRecDepth 20000 in
theorem gX6_setHands_X4_rightHand : GoodIn wsX6_setHands (wsV RX6 74 RX4 yX4_rightHand wsX4_rightHand) := goodIn_app (goodIn_of _ (by decide +kernel)) ggX6_setHands_X4_rightHand
set_option maxRecDepth 20000 in
theorem ggX6_setHands_X4_putHands : GoodIn wsX6_setHands wsX4_putHands := goodIn_r _ [34, 12, 35, 36, 37, 16, 38, 18, 107, 108] (by decide +kernel) (by decide +kernel)
set_option maxRecDepth 20000 in
theorem gX6_setHands_X4_putHands : GoodIn wsX6_setHands (wsV RX6 77 RX4 yX4_putHands wsX4_putHands) := goodIn_app (goodIn_of _ (by decide +kernel)) ggX6_setHands_X4_putHands
set_option maxRecDepth 20000 in
theorem ggX6_setHands_X4_hasClash : GoodIn wsX6_setHands wsX4_hasClash := goodIn_r _ [42, 12, 43, 44, 45, 6, 46, 47, 48, 49, 50, 13, 14, 15, 16, 17, 18, 51, 52, 53, 54, 55, 56, 57, 58, 59, 60, 61, 62, 63, 20, 64, 65, 66, 67, 68, 69, 70, 71, 72, 73, 74, 107, 108] (by decide +kernel) (by decide +kernel)
set_option maxRecDepth 20000 in
theorem gX6_setHands_X4_hasClash : GoodIn wsX6_setHands (wsV RX6 81 RX4 yX4_hasClash wsX4_hasClash) := goodIn_app (goodIn_of _ (by decide +kernel)) ggX6_setHands_X4_hasClash
set_option maxRecDepth 20000 in
theorem ggX6_setHands_X1_remember : GoodIn wsX6_setHands wsX1_remember := goodIn_r _ [79, 80, 81, 82, 83, 84, 85, 78, 86, 87, 88, 89, 6, 90, 12, 91, 92, 93, 16, 94, 18, 95, 96, 97, 98, 109, 110, 111, 107, 108] (by decide +kernel) (by decide +kernel)
set_option maxRecDepth 20000 in
theorem gX6_setHands_X1_remember : GoodIn wsX6_setHands (wsV RX6 85 RX1 yX1_remember wsX1_remember) := goodIn_app (goodIn_of _ (by decide +kernel)) ggX6_setHands_X1_remember
theorem dX6_setHands_0 : decode cX6_setHands 0 = .ok (.aload_n 0, 1) := by decide +kernel
theorem dX6_setHands_1 : decode cX6_setHands 1 = .ok (.getfield 12, 3) := by decide +kernel
theorem dX6_setHands_4 : decode cX6_setHands 4 = .ok (.iload_n 1, 1) := by decide +kernel
theorem dX6_setHands_5 : decode cX6_setHands 5 = .ok (.invokevirtual 62, 3) := by decide +kernel
theorem dX6_setHands_8 : decode cX6_setHands 8 = .ok (.ifCond .ne 5, 3) := by decide +kernel
theorem dX6_setHands_11 : decode cX6_setHands 11 = .ok (.iconst (-1), 1) := by decide +kernel
theorem dX6_setHands_12 : decode cX6_setHands 12 = .ok (.ireturn, 1) := by decide +kernel
theorem dX6_setHands_13 : decode cX6_setHands 13 = .ok (.iload_n 2, 1) := by decide +kernel
theorem dX6_setHands_14 : decode cX6_setHands 14 = .ok (.bipush 6, 2) := by decide +kernel
theorem dX6_setHands_16 : decode cX6_setHands 16 = .ok (.invokestatic 66, 3) := by decide +kernel
theorem dX6_setHands_19 : decode cX6_setHands 19 = .ok (.ifCond .eq 12, 3) := by decide +kernel
theorem dX6_setHands_22 : decode cX6_setHands 22 = .ok (.iload_n 3, 1) := by decide +kernel
theorem dX6_setHands_23 : decode cX6_setHands 23 = .ok (.bipush 6, 2) := by decide +kernel
theorem dX6_setHands_25 : decode cX6_setHands 25 = .ok (.invokestatic 66, 3) := by decide +kernel
theorem dX6_setHands_28 : decode cX6_setHands 28 = .ok (.ifCond .ne 6, 3) := by decide +kernel
theorem dX6_setHands_31 : decode cX6_setHands 31 = .ok (.bipush (-2), 2) := by decide +kernel
theorem dX6_setHands_33 : decode cX6_setHands 33 = .ok (.ireturn, 1) := by decide +kernel
theorem dX6_setHands_34 : decode cX6_setHands 34 = .ok (.aload_n 0, 1) := by decide +kernel
theorem dX6_setHands_35 : decode cX6_setHands 35 = .ok (.getfield 12, 3) := by decide +kernel
theorem dX6_setHands_38 : decode cX6_setHands 38 = .ok (.iload_n 1, 1) := by decide +kernel
theorem dX6_setHands_39 : decode cX6_setHands 39 = .ok (.invokevirtual 70, 3) := by decide +kernel
theorem dX6_setHands_42 : decode cX6_setHands 42 = .ok (.istore 4, 2) := by decide +kernel
theorem dX6_setHands_44 : decode cX6_setHands 44 = .ok (.aload_n 0, 1) := by decide +kernel
theorem dX6_setHands_45 : decode cX6_setHands 45 = .ok (.getfield 12, 3) := by decide +kernel
theorem dX6_setHands_48 : decode cX6_setHands 48 = .ok (.iload_n 1, 1) := by decide +kernel
theorem dX6_setHands_49 : decode cX6_setHands 49 = .ok (.invokevirtual 74, 3) := by decide +kernel
theorem dX6_setHands_52 : decode cX6_setHands 52 = .ok (.istore 5, 2) := by decide +kernel
theorem dX6_setHands_54 : decode cX6_setHands 54 = .ok (.aload_n 0, 1) := by decide +kernel
theorem dX6_setHands_55 : decode cX6_setHands 55 = .ok (.getfield 12, 3) := by decide +kernel
theorem dX6_setHands_58 : decode cX6_setHands 58 = .ok (.iload_n 1, 1) := by decide +kernel
theorem dX6_setHands_59 : decode cX6_setHands 59 = .ok (.iload_n 2, 1) := by decide +kernel
theorem dX6_setHands_60 : decode cX6_setHands 60 = .ok (.iload_n 3, 1) := by decide +kernel
theorem dX6_setHands_61 : decode cX6_setHands 61 = .ok (.invokevirtual 77, 3) := by decide +kernel
theorem dX6_setHands_64 : decode cX6_setHands 64 = .ok (.aload_n 0, 1) := by decide +kernel
theorem dX6_setHands_65 : decode cX6_setHands 65 = .ok (.getfield 12, 3) := by decide +kernel
theorem dX6_setHands_68 : decode cX6_setHands 68 = .ok (.invokevirtual 81, 3) := by decide +kernel
theorem dX6_setHands_71 : decode cX6_setHands 71 = .ok (.istore 6, 2) := by decide +kernel
theorem dX6_setHands_73 : decode cX6_setHands 73 = .ok (.aload_n 0, 1) := by decide +kernel
theorem dX6_setHands_74 : decode cX6_setHands 74 = .ok (.getfield 12, 3) := by decide +kernel
theorem dX6_setHands_77 : decode cX6_setHands 77 = .ok (.iload_n 1, 1) := by decide +kernel
theorem dX6_setHands_78 : decode cX6_setHands 78 = .ok (.iload 4, 2) := by decide +kernel
theorem dX6_setHands_80 : decode cX6_setHands 80 = .ok (.iload 5, 2) := by decide +kernel
theorem dX6_setHands_82 : decode cX6_setHands 82 = .ok (.invokevirtual 77, 3) := by decide +kernel
theorem dX6_setHands_85 : decode cX6_setHands 85 = .ok (.iload 6, 2) := by decide +kernel
theorem dX6_setHands_87 : decode cX6_setHands 87 = .ok (.ifCond .eq 6, 3) := by decide +kernel
theorem dX6_setHands_90 : decode cX6_setHands 90 = .ok (.bipush (-4), 2) := by decide +kernel
theorem dX6_setHands_92 : decode cX6_setHands 92 = .ok (.ireturn, 1) := by decide +kernel
theorem dX6_setHands_93 : decode cX6_setHands 93 = .ok (.iload_n 2, 1) := by decide +kernel
theorem dX6_setHands_94 : decode cX6_setHands 94 = .ok (.iload 4, 2) := by decide +kernel
theorem dX6_setHands_96 : decode cX6_setHands 96 = .ok (.if_icmp .ne 12, 3) := by decide +kernel
theorem dX6_setHands_99 : decode cX6_setHands 99 = .ok (.iload_n 3, 1) := by decide +kernel
theorem dX6_setHands_100 : decode cX6_setHands 100 = .ok (.iload 5, 2) := by decide +kernel
theorem dX6_setHands_102 : decode cX6_setHands 102 = .ok (.if_icmp .ne 6, 3) := by decide +kernel
theorem dX6_setHands_105 : decode cX6_setHands 105 = .ok (.bipush (-5), 2) := by decide +kernel
theorem dX6_setHands_107 : decode cX6_setHands 107 = .ok (.ireturn, 1) := by decide +kernel
theorem dX6_setHands_108 : decode cX6_setHands 108 = .ok (.aload_n 0, 1) := by decide +kernel
theorem dX6_setHands_109 : decode cX6_setHands 109 = .ok (.getfield 35, 3) := by decide +kernel
theorem dX6_setHands_112 : decode cX6_setHands 112 = .ok (.aload_n 0, 1) := by decide +kernel
theorem dX6_setHands_113 : decode cX6_setHands 113 = .ok (.getfield 12, 3) := by decide +kernel
theorem dX6_setHands_116 : decode cX6_setHands 116 = .ok (.invokevirtual 85, 3) := by decide +kernel
theorem dX6_setHands_119 : decode cX6_setHands 119 = .ok (.aload_n 0, 1) := by decide +kernel
theorem dX6_setHands_120 : decode cX6_setHands 120 = .ok (.getfield 12, 3) := by decide +kernel
theorem dX6_setHands_123 : decode cX6_setHands 123 = .ok (.iload_n 1, 1) := by decide +kernel
theorem dX6_setHands_124 : decode cX6_setHands 124 = .ok (.iload_n 2, 1) := by decide +kernel
theorem dX6_setHands_125 : decode cX6_setHands 125 = .ok (.iload_n 3, 1) := by decide +kernel
theorem dX6_setHands_126 : decode cX6_setHands 126 = .ok (.invokevirtual 77, 3) := by decide +kernel
theorem dX6_setHands_129 : decode cX6_setHands 129 = .ok (.bipush 10, 2) := by decide +kernel
theorem dX6_setHands_131 : decode cX6_setHands 131 = .ok (.iload 4, 2) := by decide +kernel
theorem dX6_setHands_133 : decode cX6_setHands 133 = .ok (.imul, 1) := by decide +kernel
theorem dX6_setHands_134 : decode cX6_setHands 134 = .ok (.iload 5, 2) := by decide +kernel
theorem dX6_setHands_136 : decode cX6_setHands 136 = .ok (.iadd, 1) := by decide +kernel
theorem dX6_setHands_137 : decode cX6_setHands 137 = .ok (.ireturn, 1) := by decide +kernel
set_option maxRecDepth 20000 in
theorem ggX6_setRule_X6_isBelow : GoodIn wsX6_setRule wsX6_isBelow := goodIn_r _ [6] (by decide +kernel) (by decide +kernel)
set_option maxRecDepth 20000 in
theorem gX6_setRule_X6_isBelow : GoodIn wsX6_setRule (va_wsS RX6 66 yX6_isBelow wsX6_isBelow) := goodIn_app (goodIn_of _ (by decide +kernel)) ggX6_setRule_X6_isBelow
set_option maxRecDepth 20000 in
theorem ggX6_setRule_X4_ruleNow : GoodIn wsX6_setRule wsX4_ruleNow := goodIn_r _ [11, 12, 13, 14, 15, 16, 17, 18, 92, 93] (by decide +kernel) (by decide +kernel)
set_option maxRecDepth 20000 in
theorem gX6_setRule_X4_ruleNow : GoodIn wsX6_setRule (wsV RX6 88 RX4 yX4_ruleNow wsX4_ruleNow) := goodIn_app (goodIn_of _ (by decide +kernel)) ggX6_setRule_X4_ruleNow
set_option maxRecDepth 20000 in
theorem ggX6_setRule_X4_putRule : GoodIn wsX6_setRule wsX4_putRule := goodIn_r _ [22, 12, 23, 24, 25, 16, 26, 18, 92, 93] (by decide +kernel) (by decide +kernel)
set_option maxRecDepth 20000 in
theorem gX6_setRule_X4_putRule : GoodIn wsX6_setRule (wsV RX6 92 RX4 yX4_putRule wsX4_putRule) := goodIn_app (goodIn_of _ (by decide +kernel)) ggX6_setRule_X4_putRule
set_option maxRecDepth 20000 in
theorem ggX6_setRule_X4_hasClash : GoodIn wsX6_setRule wsX4_hasClash := goodIn_r _ [30, 12, 31, 32, 33, 10, 34, 35, 36, 37, 38, 13, 14, 15, 16, 17, 18, 39, 40, 41, 42, 43, 44, 45, 46, 47, 48, 49, 50, 51, 5, 52, 53, 54, 55, 56, 57, 58, 59, 8, 9, 11, 92, 93] (by decide +kernel) (by decide +kernel)
set_option maxRecDepth 20000 in
theorem gX6_setRule_X4_hasClash : GoodIn wsX6_setRule (wsV RX6 81 RX4 yX4_hasClash wsX4_hasClash) := goodIn_app (goodIn_of _ (by decide +kernel)) ggX6_setRule_X4_hasClash
set_option maxRecDepth 20000 in
theorem ggX6_setRule_X1_remember : GoodIn wsX6_setRule wsX1_remember := goodIn_r _ [64, 65, 66, 67, 68, 69, 70, 63, 71, 72, 73, 74, 10, 75, 12, 76, 77, 78, 16, 79, 18, 80, 81, 82, 83, 94, 95, 96, 92, 93] (by decide +kernel) (by decide +kernel)
set_option maxRecDepth 20000 in
theorem gX6_setRule_X1_remember : GoodIn wsX6_setRule (wsV RX6 85 RX1 yX1_remember wsX1_remember) := goodIn_app (goodIn_of _ (by decide +kernel)) ggX6_setRule_X1_remember
theorem dX6_setRule_0 : decode cX6_setRule 0 = .ok (.iload_n 1, 1) := by decide +kernel
theorem dX6_setRule_1 : decode cX6_setRule 1 = .ok (.iconst 3, 1) := by decide +kernel
theorem dX6_setRule_2 : decode cX6_setRule 2 = .ok (.invokestatic 66, 3) := by decide +kernel
theorem dX6_setRule_5 : decode cX6_setRule 5 = .ok (.ifCond .ne 6, 3) := by decide +kernel
theorem dX6_setRule_8 : decode cX6_setRule 8 = .ok (.bipush (-2), 2) := by decide +kernel
theorem dX6_setRule_10 : decode cX6_setRule 10 = .ok (.ireturn, 1) := by decide +kernel
theorem dX6_setRule_11 : decode cX6_setRule 11 = .ok (.aload_n 0, 1) := by decide +kernel
theorem dX6_setRule_12 : decode cX6_setRule 12 = .ok (.getfield 12, 3) := by decide +kernel
theorem dX6_setRule_15 : decode cX6_setRule 15 = .ok (.invokevirtual 88, 3) := by decide +kernel
theorem dX6_setRule_18 : decode cX6_setRule 18 = .ok (.istore_n 2, 1) := by decide +kernel
theorem dX6_setRule_19 : decode cX6_setRule 19 = .ok (.aload_n 0, 1) := by decide +kernel
theorem dX6_setRule_20 : decode cX6_setRule 20 = .ok (.getfield 12, 3) := by decide +kernel
theorem dX6_setRule_23 : decode cX6_setRule 23 = .ok (.iload_n 1, 1) := by decide +kernel
theorem dX6_setRule_24 : decode cX6_setRule 24 = .ok (.invokevirtual 92, 3) := by decide +kernel
theorem dX6_setRule_27 : decode cX6_setRule 27 = .ok (.aload_n 0, 1) := by decide +kernel
theorem dX6_setRule_28 : decode cX6_setRule 28 = .ok (.getfield 12, 3) := by decide +kernel
theorem dX6_setRule_31 : decode cX6_setRule 31 = .ok (.invokevirtual 81, 3) := by decide +kernel
theorem dX6_setRule_34 : decode cX6_setRule 34 = .ok (.istore_n 3, 1) := by decide +kernel
theorem dX6_setRule_35 : decode cX6_setRule 35 = .ok (.aload_n 0, 1) := by decide +kernel
theorem dX6_setRule_36 : decode cX6_setRule 36 = .ok (.getfield 12, 3) := by decide +kernel
theorem dX6_setRule_39 : decode cX6_setRule 39 = .ok (.iload_n 2, 1) := by decide +kernel
theorem dX6_setRule_40 : decode cX6_setRule 40 = .ok (.invokevirtual 92, 3) := by decide +kernel
theorem dX6_setRule_43 : decode cX6_setRule 43 = .ok (.iload_n 3, 1) := by decide +kernel
theorem dX6_setRule_44 : decode cX6_setRule 44 = .ok (.ifCond .eq 6, 3) := by decide +kernel
theorem dX6_setRule_47 : decode cX6_setRule 47 = .ok (.bipush (-4), 2) := by decide +kernel
theorem dX6_setRule_49 : decode cX6_setRule 49 = .ok (.ireturn, 1) := by decide +kernel
theorem dX6_setRule_50 : decode cX6_setRule 50 = .ok (.iload_n 1, 1) := by decide +kernel
theorem dX6_setRule_51 : decode cX6_setRule 51 = .ok (.iload_n 2, 1) := by decide +kernel
theorem dX6_setRule_52 : decode cX6_setRule 52 = .ok (.if_icmp .ne 6, 3) := by decide +kernel
theorem dX6_setRule_55 : decode cX6_setRule 55 = .ok (.bipush (-5), 2) := by decide +kernel
theorem dX6_setRule_57 : decode cX6_setRule 57 = .ok (.ireturn, 1) := by decide +kernel
theorem dX6_setRule_58 : decode cX6_setRule 58 = .ok (.aload_n 0, 1) := by decide +kernel
theorem dX6_setRule_59 : decode cX6_setRule 59 = .ok (.getfield 35, 3) := by decide +kernel
theorem dX6_setRule_62 : decode cX6_setRule 62 = .ok (.aload_n 0, 1) := by decide +kernel
theorem dX6_setRule_63 : decode cX6_setRule 63 = .ok (.getfield 12, 3) := by decide +kernel
theorem dX6_setRule_66 : decode cX6_setRule 66 = .ok (.invokevirtual 85, 3) := by decide +kernel
theorem dX6_setRule_69 : decode cX6_setRule 69 = .ok (.aload_n 0, 1) := by decide +kernel
theorem dX6_setRule_70 : decode cX6_setRule 70 = .ok (.getfield 12, 3) := by decide +kernel
theorem dX6_setRule_73 : decode cX6_setRule 73 = .ok (.iload_n 1, 1) := by decide +kernel
theorem dX6_setRule_74 : decode cX6_setRule 74 = .ok (.invokevirtual 92, 3) := by decide +kernel
theorem dX6_setRule_77 : decode cX6_setRule 77 = .ok (.iload_n 2, 1) := by decide +kernel
theorem dX6_setRule_78 : decode cX6_setRule 78 = .ok (.ireturn, 1) := by decide +kernel
set_option maxRecDepth 20000 in
theorem ggX6_setKinds_X2_highestKind : GoodIn wsX6_setKinds wsX2_highestKind := goodIn_r _ [8, 9, 10, 11, 12, 13, 14, 15, 16, 17, 18, 19, 20, 21, 22, 23, 24, 25, 26, 27, 28, 29, 30, 31, 32, 33, 34, 35, 36, 81, 82, 83] (by decide +kernel) (by decide +kernel)
set_option maxRecDepth 20000 in
theorem gX6_setKinds_X2_highestKind : GoodIn wsX6_setKinds (wsV RX6 95 RX2 yX2_highestKind wsX2_highestKind) := goodIn_app (goodIn_of _ (by decide +kernel)) ggX6_setKinds_X2_highestKind
set_option maxRecDepth 20000 in
theorem ggX6_setKinds_X4_kindsNow : GoodIn wsX6_setKinds wsX4_kindsNow := goodIn_r _ [40, 19, 20, 21, 22, 23, 24, 25, 82, 83] (by decide +kernel) (by decide +kernel)
set_option maxRecDepth 20000 in
theorem gX6_setKinds_X4_kindsNow : GoodIn wsX6_setKinds (wsV RX6 98 RX4 yX4_kindsNow wsX4_kindsNow) := goodIn_app (goodIn_of _ (by decide +kernel)) ggX6_setKinds_X4_kindsNow
set_option maxRecDepth 20000 in
theorem ggX6_setKinds_X1_remember : GoodIn wsX6_setKinds wsX1_remember := goodIn_r _ [45, 46, 47, 48, 49, 50, 51, 44, 52, 53, 54, 55, 17, 56, 19, 57, 58, 59, 23, 60, 25, 61, 62, 63, 64, 84, 85, 86, 82, 83] (by decide +kernel) (by decide +kernel)
set_option maxRecDepth 20000 in
theorem gX6_setKinds_X1_remember : GoodIn wsX6_setKinds (wsV RX6 85 RX1 yX1_remember wsX1_remember) := goodIn_app (goodIn_of _ (by decide +kernel)) ggX6_setKinds_X1_remember
set_option maxRecDepth 20000 in
theorem ggX6_setKinds_X4_putKinds : GoodIn wsX6_setKinds wsX4_putKinds := goodIn_r _ [68, 19, 69, 70, 71, 23, 72, 25, 82, 83] (by decide +kernel) (by decide +kernel)
set_option maxRecDepth 20000 in
theorem gX6_setKinds_X4_putKinds : GoodIn wsX6_setKinds (wsV RX6 101 RX4 yX4_putKinds wsX4_putKinds) := goodIn_app (goodIn_of _ (by decide +kernel)) ggX6_setKinds_X4_putKinds
theorem dX6_setKinds_0 : decode cX6_setKinds 0 = .ok (.iload_n 1, 1) := by decide +kernel
theorem dX6_setKinds_1 : decode cX6_setKinds 1 = .ok (.iconst 1, 1) := by decide +kernel
theorem dX6_setKinds_2 : decode cX6_setKinds 2 = .ok (.if_icmp .lt 9, 3) := by decide +kernel
theorem dX6_setKinds_5 : decode cX6_setKinds 5 = .ok (.iload_n 1, 1) := by decide +kernel
theorem dX6_setKinds_6 : decode cX6_setKinds 6 = .ok (.bipush 10, 2) := by decide +kernel
theorem dX6_setKinds_8 : decode cX6_setKinds 8 = .ok (.if_icmp .le 6, 3) := by decide +kernel
theorem dX6_setKinds_11 : decode cX6_setKinds 11 = .ok (.bipush (-2), 2) := by decide +kernel
theorem dX6_setKinds_13 : decode cX6_setKinds 13 = .ok (.ireturn, 1) := by decide +kernel
theorem dX6_setKinds_14 : decode cX6_setKinds 14 = .ok (.aload_n 0, 1) := by decide +kernel
theorem dX6_setKinds_15 : decode cX6_setKinds 15 = .ok (.getfield 21, 3) := by decide +kernel
theorem dX6_setKinds_18 : decode cX6_setKinds 18 = .ok (.invokevirtual 95, 3) := by decide +kernel
theorem dX6_setKinds_21 : decode cX6_setKinds 21 = .ok (.iload_n 1, 1) := by decide +kernel
theorem dX6_setKinds_22 : decode cX6_setKinds 22 = .ok (.if_icmp .lt 6, 3) := by decide +kernel
theorem dX6_setKinds_25 : decode cX6_setKinds 25 = .ok (.bipush (-4), 2) := by decide +kernel
theorem dX6_setKinds_27 : decode cX6_setKinds 27 = .ok (.ireturn, 1) := by decide +kernel
theorem dX6_setKinds_28 : decode cX6_setKinds 28 = .ok (.aload_n 0, 1) := by decide +kernel
theorem dX6_setKinds_29 : decode cX6_setKinds 29 = .ok (.getfield 12, 3) := by decide +kernel
theorem dX6_setKinds_32 : decode cX6_setKinds 32 = .ok (.invokevirtual 98, 3) := by decide +kernel
theorem dX6_setKinds_35 : decode cX6_setKinds 35 = .ok (.istore_n 2, 1) := by decide +kernel
theorem dX6_setKinds_36 : decode cX6_setKinds 36 = .ok (.iload_n 1, 1) := by decide +kernel
theorem dX6_setKinds_37 : decode cX6_setKinds 37 = .ok (.iload_n 2, 1) := by decide +kernel
theorem dX6_setKinds_38 : decode cX6_setKinds 38 = .ok (.if_icmp .ne 6, 3) := by decide +kernel
theorem dX6_setKinds_41 : decode cX6_setKinds 41 = .ok (.bipush (-5), 2) := by decide +kernel
theorem dX6_setKinds_43 : decode cX6_setKinds 43 = .ok (.ireturn, 1) := by decide +kernel
theorem dX6_setKinds_44 : decode cX6_setKinds 44 = .ok (.aload_n 0, 1) := by decide +kernel
theorem dX6_setKinds_45 : decode cX6_setKinds 45 = .ok (.getfield 35, 3) := by decide +kernel
theorem dX6_setKinds_48 : decode cX6_setKinds 48 = .ok (.aload_n 0, 1) := by decide +kernel
theorem dX6_setKinds_49 : decode cX6_setKinds 49 = .ok (.getfield 12, 3) := by decide +kernel
theorem dX6_setKinds_52 : decode cX6_setKinds 52 = .ok (.invokevirtual 85, 3) := by decide +kernel
theorem dX6_setKinds_55 : decode cX6_setKinds 55 = .ok (.aload_n 0, 1) := by decide +kernel
theorem dX6_setKinds_56 : decode cX6_setKinds 56 = .ok (.getfield 12, 3) := by decide +kernel
theorem dX6_setKinds_59 : decode cX6_setKinds 59 = .ok (.iload_n 1, 1) := by decide +kernel
theorem dX6_setKinds_60 : decode cX6_setKinds 60 = .ok (.invokevirtual 101, 3) := by decide +kernel
theorem dX6_setKinds_63 : decode cX6_setKinds 63 = .ok (.iload_n 2, 1) := by decide +kernel
theorem dX6_setKinds_64 : decode cX6_setKinds 64 = .ok (.ireturn, 1) := by decide +kernel
set_option maxRecDepth 20000 in
theorem ggX6_cutDoll_X4_hasKind : GoodIn wsX6_cutDoll wsX4_hasKind := goodIn_r _ [7, 8, 9, 10, 6, 11, 12, 13, 14, 15, 16, 17, 18, 19, 20, 21, 84, 85] (by decide +kernel) (by decide +kernel)
set_option maxRecDepth 20000 in
theorem gX6_cutDoll_X4_hasKind : GoodIn wsX6_cutDoll (wsV RX6 62 RX4 yX4_hasKind wsX4_hasKind) := goodIn_app (goodIn_of _ (by decide +kernel)) ggX6_cutDoll_X4_hasKind
set_option maxRecDepth 20000 in
theorem ggX6_cutDoll_X4_freeNumber : GoodIn wsX6_cutDoll wsX4_freeNumber := goodIn_r _ [25, 26, 27, 28, 6, 29, 12, 13, 14, 15, 16, 17, 18, 84, 85] (by decide +kernel) (by decide +kernel)
set_option maxRecDepth 20000 in
theorem gX6_cutDoll_X4_freeNumber : GoodIn wsX6_cutDoll (wsV RX6 104 RX4 yX4_freeNumber wsX4_freeNumber) := goodIn_app (goodIn_of _ (by decide +kernel)) ggX6_cutDoll_X4_freeNumber
set_option maxRecDepth 20000 in
theorem ggX6_cutDoll_X1_remember : GoodIn wsX6_cutDoll wsX1_remember := goodIn_r _ [34, 35, 36, 37, 38, 39, 40, 33, 41, 42, 43, 44, 6, 45, 12, 46, 47, 48, 16, 49, 18, 50, 51, 52, 53, 86, 87, 88, 84, 85] (by decide +kernel) (by decide +kernel)
set_option maxRecDepth 20000 in
theorem gX6_cutDoll_X1_remember : GoodIn wsX6_cutDoll (wsV RX6 85 RX1 yX1_remember wsX1_remember) := goodIn_app (goodIn_of _ (by decide +kernel)) ggX6_cutDoll_X1_remember
set_option maxRecDepth 20000 in
theorem ggX6_cutDoll_X6_dollOf : GoodIn wsX6_cutDoll wsX6_dollOf := goodIn_r _ [56, 57, 58, 20, 59] (by decide +kernel) (by decide +kernel)
set_option maxRecDepth 20000 in
theorem gX6_cutDoll_X6_dollOf : GoodIn wsX6_cutDoll (va_wsS RX6 107 yX6_dollOf wsX6_dollOf) := goodIn_app (goodIn_of _ (by decide +kernel)) ggX6_cutDoll_X6_dollOf
set_option maxRecDepth 20000 in
theorem ggX6_cutDoll_X4_putDoll : GoodIn wsX6_cutDoll wsX4_putDoll := goodIn_r _ [63, 12, 64, 65, 66, 6, 67, 68, 69, 70, 16, 71, 18, 84, 85] (by decide +kernel) (by decide +kernel)
set_option maxRecDepth 20000 in
theorem gX6_cutDoll_X4_putDoll : GoodIn wsX6_cutDoll (wsV RX6 111 RX4 yX4_putDoll wsX4_putDoll) := goodIn_app (goodIn_of _ (by decide +kernel)) ggX6_cutDoll_X4_putDoll
set_option maxRecDepth 20000 in
theorem ggX6_cutDoll_X4_putLength : GoodIn wsX6_cutDoll wsX4_putLength := goodIn_r _ [75, 12, 68, 69, 70, 16, 71, 18, 84, 85] (by decide +kernel) (by decide +kernel)
set_option maxRecDepth 20000 in
theorem gX6_cutDoll_X4_putLength : GoodIn wsX6_cutDoll (wsV RX6 114 RX4 yX4_putLength wsX4_putLength) := goodIn_app (goodIn_of _ (by decide +kernel)) ggX6_cutDoll_X4_putLength
theorem dX6_cutDoll_0 : decode cX6_cutDoll 0 = .ok (.aload_n 0, 1) := by decide +kernel
theorem dX6_cutDoll_1 : decode cX6_cutDoll 1 = .ok (.getfield 12, 3) := by decide +kernel
theorem dX6_cutDoll_4 : decode cX6_cutDoll 4 = .ok (.iload_n 1, 1) := by decide +kernel
theorem dX6_cutDoll_5 : decode cX6_cutDoll 5 = .ok (.invokevirtual 62, 3) := by decide +kernel
theorem dX6_cutDoll_8 : decode cX6_cutDoll 8 = .ok (.ifCond .ne 5, 3) := by decide +kernel
theorem dX6_cutDoll_11 : decode cX6_cutDoll 11 = .ok (.iconst (-1), 1) := by decide +kernel
theorem dX6_cutDoll_12 : decode cX6_cutDoll 12 = .ok (.ireturn, 1) := by decide +kernel
theorem dX6_cutDoll_13 : decode cX6_cutDoll 13 = .ok (.aload_n 0, 1) := by decide +kernel
theorem dX6_cutDoll_14 : decode cX6_cutDoll 14 = .ok (.getfield 12, 3) := by decide +kernel
theorem dX6_cutDoll_17 : decode cX6_cutDoll 17 = .ok (.invokevirtual 104, 3) := by decide +kernel
theorem dX6_cutDoll_20 : decode cX6_cutDoll 20 = .ok (.istore_n 3, 1) := by decide +kernel
theorem dX6_cutDoll_21 : decode cX6_cutDoll 21 = .ok (.iload_n 3, 1) := by decide +kernel
theorem dX6_cutDoll_22 : decode cX6_cutDoll 22 = .ok (.iconst (-1), 1) := by decide +kernel
theorem dX6_cutDoll_23 : decode cX6_cutDoll 23 = .ok (.if_icmp .ne 6, 3) := by decide +kernel
theorem dX6_cutDoll_26 : decode cX6_cutDoll 26 = .ok (.bipush (-3), 2) := by decide +kernel
theorem dX6_cutDoll_28 : decode cX6_cutDoll 28 = .ok (.ireturn, 1) := by decide +kernel
theorem dX6_cutDoll_29 : decode cX6_cutDoll 29 = .ok (.aload_n 0, 1) := by decide +kernel
theorem dX6_cutDoll_30 : decode cX6_cutDoll 30 = .ok (.getfield 35, 3) := by decide +kernel
theorem dX6_cutDoll_33 : decode cX6_cutDoll 33 = .ok (.aload_n 0, 1) := by decide +kernel
theorem dX6_cutDoll_34 : decode cX6_cutDoll 34 = .ok (.getfield 12, 3) := by decide +kernel
theorem dX6_cutDoll_37 : decode cX6_cutDoll 37 = .ok (.invokevirtual 85, 3) := by decide +kernel
theorem dX6_cutDoll_40 : decode cX6_cutDoll 40 = .ok (.aload_n 0, 1) := by decide +kernel
theorem dX6_cutDoll_41 : decode cX6_cutDoll 41 = .ok (.getfield 12, 3) := by decide +kernel
theorem dX6_cutDoll_44 : decode cX6_cutDoll 44 = .ok (.iload_n 3, 1) := by decide +kernel
theorem dX6_cutDoll_45 : decode cX6_cutDoll 45 = .ok (.iconst 0, 1) := by decide +kernel
theorem dX6_cutDoll_46 : decode cX6_cutDoll 46 = .ok (.iload_n 1, 1) := by decide +kernel
theorem dX6_cutDoll_47 : decode cX6_cutDoll 47 = .ok (.iload_n 2, 1) := by decide +kernel
theorem dX6_cutDoll_48 : decode cX6_cutDoll 48 = .ok (.invokestatic 107, 3) := by decide +kernel
theorem dX6_cutDoll_51 : decode cX6_cutDoll 51 = .ok (.invokevirtual 111, 3) := by decide +kernel
theorem dX6_cutDoll_54 : decode cX6_cutDoll 54 = .ok (.aload_n 0, 1) := by decide +kernel
theorem dX6_cutDoll_55 : decode cX6_cutDoll 55 = .ok (.getfield 12, 3) := by decide +kernel
theorem dX6_cutDoll_58 : decode cX6_cutDoll 58 = .ok (.iload_n 3, 1) := by decide +kernel
theorem dX6_cutDoll_59 : decode cX6_cutDoll 59 = .ok (.iconst 1, 1) := by decide +kernel
theorem dX6_cutDoll_60 : decode cX6_cutDoll 60 = .ok (.invokevirtual 114, 3) := by decide +kernel
theorem dX6_cutDoll_63 : decode cX6_cutDoll 63 = .ok (.iload_n 3, 1) := by decide +kernel
theorem dX6_cutDoll_64 : decode cX6_cutDoll 64 = .ok (.ireturn, 1) := by decide +kernel
set_option maxRecDepth 20000 in
theorem ggX6_join_X4_hasGarland : GoodIn wsX6_join wsX4_hasGarland := goodIn_r _ [7, 8, 9, 10, 11, 12, 13, 6, 14, 15, 16, 17, 18, 19, 20, 21, 103, 104] (by decide +kernel) (by decide +kernel)
set_option maxRecDepth 20000 in
theorem gX6_join_X4_hasGarland : GoodIn wsX6_join (wsV RX6 118 RX4 yX4_hasGarland wsX4_hasGarland) := goodIn_app (goodIn_of _ (by decide +kernel)) ggX6_join_X4_hasGarland
set_option maxRecDepth 20000 in
theorem ggX6_join_X4_lastDoll : GoodIn wsX6_join wsX4_lastDoll := goodIn_r _ [25, 11, 12, 13, 6, 14, 15, 16, 17, 18, 19, 20, 21, 26, 27, 28, 29, 30, 31, 32, 33, 103, 104] (by decide +kernel) (by decide +kernel)
set_option maxRecDepth 20000 in
theorem gX6_join_X4_lastDoll : GoodIn wsX6_join (wsV RX6 121 RX4 yX4_lastDoll wsX4_lastDoll) := goodIn_app (goodIn_of _ (by decide +kernel)) ggX6_join_X4_lastDoll
set_option maxRecDepth 20000 in
theorem ggX6_join_X4_firstDoll : GoodIn wsX6_join wsX4_firstDoll := goodIn_r _ [37, 26, 27, 28, 6, 29, 15, 30, 31, 32, 33, 16, 17, 18, 19, 20, 21, 103, 104] (by decide +kernel) (by decide +kernel)
set_option maxRecDepth 20000 in
theorem gX6_join_X4_firstDoll : GoodIn wsX6_join (wsV RX6 124 RX4 yX4_firstDoll wsX4_firstDoll) := goodIn_app (goodIn_of _ (by decide +kernel)) ggX6_join_X4_firstDoll
set_option maxRecDepth 20000 in
theorem ggX6_join_X4_clash : GoodIn wsX6_join wsX4_clash := goodIn_r _ [41, 42, 43, 44, 6, 45, 15, 46, 9, 47, 48, 49, 16, 17, 18, 19, 20, 21, 50, 51, 52, 53, 54, 55, 56, 57, 103, 104] (by decide +kernel) (by decide +kernel)
set_option maxRecDepth 20000 in
theorem gX6_join_X4_clash : GoodIn wsX6_join (wsV RX6 127 RX4 yX4_clash wsX4_clash) := goodIn_app (goodIn_of _ (by decide +kernel)) ggX6_join_X4_clash
set_option maxRecDepth 20000 in
theorem ggX6_join_X4_lengthOf : GoodIn wsX6_join wsX4_lengthOf := goodIn_r _ [14, 15, 16, 17, 18, 19, 20, 21, 103, 104] (by decide +kernel) (by decide +kernel)
set_option maxRecDepth 20000 in
theorem gX6_join_X4_lengthOf : GoodIn wsX6_join (wsV RX6 130 RX4 yX4_lengthOf wsX4_lengthOf) := goodIn_app (goodIn_of _ (by decide +kernel)) ggX6_join_X4_lengthOf
set_option maxRecDepth 20000 in
theorem ggX6_join_X1_remember : GoodIn wsX6_join wsX1_remember := goodIn_r _ [63, 64, 65, 66, 67, 68, 69, 62, 70, 71, 72, 73, 6, 74, 15, 75, 76, 77, 19, 78, 21, 79, 80, 81, 82, 105, 106, 107, 103, 104] (by decide +kernel) (by decide +kernel)
set_option maxRecDepth 20000 in
theorem gX6_join_X1_remember : GoodIn wsX6_join (wsV RX6 85 RX1 yX1_remember wsX1_remember) := goodIn_app (goodIn_of _ (by decide +kernel)) ggX6_join_X1_remember
set_option maxRecDepth 20000 in
theorem ggX6_join_X4_copyDolls : GoodIn wsX6_join wsX4_copyDolls := goodIn_r _ [86, 15, 30, 31, 32, 6, 33, 75, 76, 77, 19, 78, 21, 79, 80, 81, 82, 103, 104] (by decide +kernel) (by decide +kernel)
set_option maxRecDepth 20000 in
theorem gX6_join_X4_copyDolls : GoodIn wsX6_join (wsV RX6 133 RX4 yX4_copyDolls wsX4_copyDolls) := goodIn_app (goodIn_of _ (by decide +kernel)) ggX6_join_X4_copyDolls
set_option maxRecDepth 20000 in
theorem ggX6_join_X4_putLength : GoodIn wsX6_join wsX4_putLength := goodIn_r _ [90, 15, 91, 92, 93, 19, 94, 21, 103, 104] (by decide +kernel) (by decide +kernel)
set_option maxRecDepth 20000 in
theorem gX6_join_X4_putLength : GoodIn wsX6_join (wsV RX6 114 RX4 yX4_putLength wsX4_putLength) := goodIn_app (goodIn_of _ (by decide +kernel)) ggX6_join_X4_putLength
theorem dX6_join_0 : decode cX6_join 0 = .ok (.aload_n 0, 1) := by decide +kernel
theorem dX6_join_1 : decode cX6_join 1 = .ok (.getfield 12, 3) := by decide +kernel
theorem dX6_join_4 : decode cX6_join 4 = .ok (.iload_n 1, 1) := by decide +kernel
theorem dX6_join_5 : decode cX6_join 5 = .ok (.invokevirtual 118, 3) := by decide +kernel
theorem dX6_join_8 : decode cX6_join 8 = .ok (.ifCond .eq 14, 3) := by decide +kernel
theorem dX6_join_11 : decode cX6_join 11 = .ok (.aload_n 0, 1) := by decide +kernel
theorem dX6_join_12 : decode cX6_join 12 = .ok (.getfield 12, 3) := by decide +kernel
theorem dX6_join_15 : decode cX6_join 15 = .ok (.iload_n 2, 1) := by decide +kernel
theorem dX6_join_16 : decode cX6_join 16 = .ok (.invokevirtual 118, 3) := by decide +kernel
theorem dX6_join_19 : decode cX6_join 19 = .ok (.ifCond .ne 5, 3) := by decide +kernel
theorem dX6_join_22 : decode cX6_join 22 = .ok (.iconst (-1), 1) := by decide +kernel
theorem dX6_join_23 : decode cX6_join 23 = .ok (.ireturn, 1) := by decide +kernel
theorem dX6_join_24 : decode cX6_join 24 = .ok (.iload_n 1, 1) := by decide +kernel
theorem dX6_join_25 : decode cX6_join 25 = .ok (.iload_n 2, 1) := by decide +kernel
theorem dX6_join_26 : decode cX6_join 26 = .ok (.if_icmp .ne 6, 3) := by decide +kernel
theorem dX6_join_29 : decode cX6_join 29 = .ok (.bipush (-2), 2) := by decide +kernel
theorem dX6_join_31 : decode cX6_join 31 = .ok (.ireturn, 1) := by decide +kernel
theorem dX6_join_32 : decode cX6_join 32 = .ok (.aload_n 0, 1) := by decide +kernel
theorem dX6_join_33 : decode cX6_join 33 = .ok (.getfield 12, 3) := by decide +kernel
theorem dX6_join_36 : decode cX6_join 36 = .ok (.aload_n 0, 1) := by decide +kernel
theorem dX6_join_37 : decode cX6_join 37 = .ok (.getfield 12, 3) := by decide +kernel
theorem dX6_join_40 : decode cX6_join 40 = .ok (.iload_n 1, 1) := by decide +kernel
theorem dX6_join_41 : decode cX6_join 41 = .ok (.invokevirtual 121, 3) := by decide +kernel
theorem dX6_join_44 : decode cX6_join 44 = .ok (.aload_n 0, 1) := by decide +kernel
theorem dX6_join_45 : decode cX6_join 45 = .ok (.getfield 12, 3) := by decide +kernel
theorem dX6_join_48 : decode cX6_join 48 = .ok (.iload_n 2, 1) := by decide +kernel
theorem dX6_join_49 : decode cX6_join 49 = .ok (.invokevirtual 124, 3) := by decide +kernel
theorem dX6_join_52 : decode cX6_join 52 = .ok (.invokevirtual 127, 3) := by decide +kernel
theorem dX6_join_55 : decode cX6_join 55 = .ok (.ifCond .eq 6, 3) := by decide +kernel
theorem dX6_join_58 : decode cX6_join 58 = .ok (.bipush (-4), 2) := by decide +kernel
theorem dX6_join_60 : decode cX6_join 60 = .ok (.ireturn, 1) := by decide +kernel
theorem dX6_join_61 : decode cX6_join 61 = .ok (.aload_n 0, 1) := by decide +kernel
theorem dX6_join_62 : decode cX6_join 62 = .ok (.getfield 12, 3) := by decide +kernel
theorem dX6_join_65 : decode cX6_join 65 = .ok (.iload_n 1, 1) := by decide +kernel
theorem dX6_join_66 : decode cX6_join 66 = .ok (.invokevirtual 130, 3) := by decide +kernel
theorem dX6_join_69 : decode cX6_join 69 = .ok (.istore_n 3, 1) := by decide +kernel
theorem dX6_join_70 : decode cX6_join 70 = .ok (.iload_n 3, 1) := by decide +kernel
theorem dX6_join_71 : decode cX6_join 71 = .ok (.aload_n 0, 1) := by decide +kernel
theorem dX6_join_72 : decode cX6_join 72 = .ok (.getfield 12, 3) := by decide +kernel
theorem dX6_join_75 : decode cX6_join 75 = .ok (.iload_n 2, 1) := by decide +kernel
theorem dX6_join_76 : decode cX6_join 76 = .ok (.invokevirtual 130, 3) := by decide +kernel
theorem dX6_join_79 : decode cX6_join 79 = .ok (.iadd, 1) := by decide +kernel
theorem dX6_join_80 : decode cX6_join 80 = .ok (.istore 4, 2) := by decide +kernel
theorem dX6_join_82 : decode cX6_join 82 = .ok (.iload 4, 2) := by decide +kernel
theorem dX6_join_84 : decode cX6_join 84 = .ok (.bipush 32, 2) := by decide +kernel
theorem dX6_join_86 : decode cX6_join 86 = .ok (.if_icmp .le 6, 3) := by decide +kernel
theorem dX6_join_89 : decode cX6_join 89 = .ok (.bipush (-3), 2) := by decide +kernel
theorem dX6_join_91 : decode cX6_join 91 = .ok (.ireturn, 1) := by decide +kernel
theorem dX6_join_92 : decode cX6_join 92 = .ok (.aload_n 0, 1) := by decide +kernel
theorem dX6_join_93 : decode cX6_join 93 = .ok (.getfield 35, 3) := by decide +kernel
theorem dX6_join_96 : decode cX6_join 96 = .ok (.aload_n 0, 1) := by decide +kernel
theorem dX6_join_97 : decode cX6_join 97 = .ok (.getfield 12, 3) := by decide +kernel
theorem dX6_join_100 : decode cX6_join 100 = .ok (.invokevirtual 85, 3) := by decide +kernel
theorem dX6_join_103 : decode cX6_join 103 = .ok (.aload_n 0, 1) := by decide +kernel
theorem dX6_join_104 : decode cX6_join 104 = .ok (.getfield 12, 3) := by decide +kernel
theorem dX6_join_107 : decode cX6_join 107 = .ok (.iload_n 2, 1) := by decide +kernel
theorem dX6_join_108 : decode cX6_join 108 = .ok (.iconst 0, 1) := by decide +kernel
theorem dX6_join_109 : decode cX6_join 109 = .ok (.iload_n 1, 1) := by decide +kernel
theorem dX6_join_110 : decode cX6_join 110 = .ok (.iload_n 3, 1) := by decide +kernel
theorem dX6_join_111 : decode cX6_join 111 = .ok (.iload 4, 2) := by decide +kernel
theorem dX6_join_113 : decode cX6_join 113 = .ok (.iload_n 3, 1) := by decide +kernel
theorem dX6_join_114 : decode cX6_join 114 = .ok (.isub, 1) := by decide +kernel
theorem dX6_join_115 : decode cX6_join 115 = .ok (.invokevirtual 133, 3) := by decide +kernel
theorem dX6_join_118 : decode cX6_join 118 = .ok (.aload_n 0, 1) := by decide +kernel
theorem dX6_join_119 : decode cX6_join 119 = .ok (.getfield 12, 3) := by decide +kernel
theorem dX6_join_122 : decode cX6_join 122 = .ok (.iload_n 1, 1) := by decide +kernel
theorem dX6_join_123 : decode cX6_join 123 = .ok (.iload 4, 2) := by decide +kernel
theorem dX6_join_125 : decode cX6_join 125 = .ok (.invokevirtual 114, 3) := by decide +kernel
theorem dX6_join_128 : decode cX6_join 128 = .ok (.aload_n 0, 1) := by decide +kernel
theorem dX6_join_129 : decode cX6_join 129 = .ok (.getfield 12, 3) := by decide +kernel
theorem dX6_join_132 : decode cX6_join 132 = .ok (.iload_n 2, 1) := by decide +kernel
theorem dX6_join_133 : decode cX6_join 133 = .ok (.iconst 0, 1) := by decide +kernel
theorem dX6_join_134 : decode cX6_join 134 = .ok (.invokevirtual 114, 3) := by decide +kernel
theorem dX6_join_137 : decode cX6_join 137 = .ok (.iload 4, 2) := by decide +kernel
theorem dX6_join_139 : decode cX6_join 139 = .ok (.ireturn, 1) := by decide +kernel
set_option maxRecDepth 20000 in
theorem ggX6_cutApart_X4_hasGarland : GoodIn wsX6_cutApart wsX4_hasGarland := goodIn_r _ [7, 8, 9, 10, 11, 12, 13, 6, 14, 15, 16, 17, 18, 19, 20, 21, 75, 76] (by decide +kernel) (by decide +kernel)
set_option maxRecDepth 20000 in
theorem gX6_cutApart_X4_hasGarland : GoodIn wsX6_cutApart (wsV RX6 118 RX4 yX4_hasGarland wsX4_hasGarland) := goodIn_app (goodIn_of _ (by decide +kernel)) ggX6_cutApart_X4_hasGarland
set_option maxRecDepth 20000 in
theorem ggX6_cutApart_X4_lengthOf : GoodIn wsX6_cutApart wsX4_lengthOf := goodIn_r _ [14, 15, 16, 17, 18, 19, 20, 21, 75, 76] (by decide +kernel) (by decide +kernel)
set_option maxRecDepth 20000 in
theorem gX6_cutApart_X4_lengthOf : GoodIn wsX6_cutApart (wsV RX6 130 RX4 yX4_lengthOf wsX4_lengthOf) := goodIn_app (goodIn_of _ (by decide +kernel)) ggX6_cutApart_X4_lengthOf
set_option maxRecDepth 20000 in
theorem ggX6_cutApart_X4_freeNumber : GoodIn wsX6_cutApart wsX4_freeNumber := goodIn_r _ [26, 11, 12, 13, 6, 14, 15, 16, 17, 18, 19, 20, 21, 75, 76] (by decide +kernel) (by decide +kernel)
set_option maxRecDepth 20000 in
theorem gX6_cutApart_X4_freeNumber : GoodIn wsX6_cutApart (wsV RX6 104 RX4 yX4_freeNumber wsX4_freeNumber) := goodIn_app (goodIn_of _ (by decide +kernel)) ggX6_cutApart_X4_freeNumber
set_option maxRecDepth 20000 in
theorem ggX6_cutApart_X1_remember : GoodIn wsX6_cutApart wsX1_remember := goodIn_r _ [31, 32, 33, 34, 35, 36, 37, 30, 38, 39, 40, 41, 6, 42, 15, 43, 44, 45, 19, 46, 21, 47, 48, 49, 50, 77, 78, 79, 75, 76] (by decide +kernel) (by decide +kernel)
set_option maxRecDepth 20000 in
theorem gX6_cutApart_X1_remember : GoodIn wsX6_cutApart (wsV RX6 85 RX1 yX1_remember wsX1_remember) := goodIn_app (goodIn_of _ (by decide +kernel)) ggX6_cutApart_X1_remember
set_option maxRecDepth 20000 in
theorem ggX6_cutApart_X4_copyDolls : GoodIn wsX6_cutApart wsX4_copyDolls := goodIn_r _ [54, 15, 55, 56, 57, 6, 58, 43, 44, 45, 19, 46, 21, 47, 48, 49, 50, 75, 76] (by decide +kernel) (by decide +kernel)
set_option maxRecDepth 20000 in
theorem gX6_cutApart_X4_copyDolls : GoodIn wsX6_cutApart (wsV RX6 133 RX4 yX4_copyDolls wsX4_copyDolls) := goodIn_app (goodIn_of _ (by decide +kernel)) ggX6_cutApart_X4_copyDolls
set_option maxRecDepth 20000 in
theorem ggX6_cutApart_X4_putLength : GoodIn wsX6_cutApart wsX4_putLength := goodIn_r _ [62, 15, 63, 64, 65, 19, 66, 21, 75, 76] (by decide +kernel) (by decide +kernel)
set_option maxRecDepth 20000 in
theorem gX6_cutApart_X4_putLength : GoodIn wsX6_cutApart (wsV RX6 114 RX4 yX4_putLength wsX4_putLength) := goodIn_app (goodIn_of _ (by decide +kernel)) ggX6_cutApart_X4_putLength
theorem dX6_cutApart_0 : decode cX6_cutApart 0 = .ok (.aload_n 0, 1) := by decide +kernel
theorem dX6_cutApart_1 : decode cX6_cutApart 1 = .ok (.getfield 12, 3) := by decide +kernel
theorem dX6_cutApart_4 : decode cX6_cutApart 4 = .ok (.iload_n 1, 1) := by decide +kernel
theorem dX6_cutApart_5 : decode cX6_cutApart 5 = .ok (.invokevirtual 118, 3) := by decide +kernel
theorem dX6_cutApart_8 : decode cX6_cutApart 8 = .ok (.ifCond .ne 5, 3) := by decide +kernel
theorem dX6_cutApart_11 : decode cX6_cutApart 11 = .ok (.iconst (-1), 1) := by decide +kernel
theorem dX6_cutApart_12 : decode cX6_cutApart 12 = .ok (.ireturn, 1) := by decide +kernel
theorem dX6_cutApart_13 : decode cX6_cutApart 13 = .ok (.aload_n 0, 1) := by decide +kernel
theorem dX6_cutApart_14 : decode cX6_cutApart 14 = .ok (.getfield 12, 3) := by decide +kernel
theorem dX6_cutApart_17 : decode cX6_cutApart 17 = .ok (.iload_n 1, 1) := by decide +kernel
theorem dX6_cutApart_18 : decode cX6_cutApart 18 = .ok (.invokevirtual 130, 3) := by decide +kernel
theorem dX6_cutApart_21 : decode cX6_cutApart 21 = .ok (.istore_n 3, 1) := by decide +kernel
theorem dX6_cutApart_22 : decode cX6_cutApart 22 = .ok (.iload_n 2, 1) := by decide +kernel
theorem dX6_cutApart_23 : decode cX6_cutApart 23 = .ok (.iconst 1, 1) := by decide +kernel
theorem dX6_cutApart_24 : decode cX6_cutApart 24 = .ok (.if_icmp .lt 8, 3) := by decide +kernel
theorem dX6_cutApart_27 : decode cX6_cutApart 27 = .ok (.iload_n 2, 1) := by decide +kernel
theorem dX6_cutApart_28 : decode cX6_cutApart 28 = .ok (.iload_n 3, 1) := by decide +kernel
theorem dX6_cutApart_29 : decode cX6_cutApart 29 = .ok (.if_icmp .lt 6, 3) := by decide +kernel
theorem dX6_cutApart_32 : decode cX6_cutApart 32 = .ok (.bipush (-2), 2) := by decide +kernel
theorem dX6_cutApart_34 : decode cX6_cutApart 34 = .ok (.ireturn, 1) := by decide +kernel
theorem dX6_cutApart_35 : decode cX6_cutApart 35 = .ok (.aload_n 0, 1) := by decide +kernel
theorem dX6_cutApart_36 : decode cX6_cutApart 36 = .ok (.getfield 12, 3) := by decide +kernel
theorem dX6_cutApart_39 : decode cX6_cutApart 39 = .ok (.invokevirtual 104, 3) := by decide +kernel
theorem dX6_cutApart_42 : decode cX6_cutApart 42 = .ok (.istore 4, 2) := by decide +kernel
theorem dX6_cutApart_44 : decode cX6_cutApart 44 = .ok (.iload 4, 2) := by decide +kernel
theorem dX6_cutApart_46 : decode cX6_cutApart 46 = .ok (.iconst (-1), 1) := by decide +kernel
theorem dX6_cutApart_47 : decode cX6_cutApart 47 = .ok (.if_icmp .ne 6, 3) := by decide +kernel
theorem dX6_cutApart_50 : decode cX6_cutApart 50 = .ok (.bipush (-3), 2) := by decide +kernel
theorem dX6_cutApart_52 : decode cX6_cutApart 52 = .ok (.ireturn, 1) := by decide +kernel
theorem dX6_cutApart_53 : decode cX6_cutApart 53 = .ok (.aload_n 0, 1) := by decide +kernel
theorem dX6_cutApart_54 : decode cX6_cutApart 54 = .ok (.getfield 35, 3) := by decide +kernel
theorem dX6_cutApart_57 : decode cX6_cutApart 57 = .ok (.aload_n 0, 1) := by decide +kernel
theorem dX6_cutApart_58 : decode cX6_cutApart 58 = .ok (.getfield 12, 3) := by decide +kernel
theorem dX6_cutApart_61 : decode cX6_cutApart 61 = .ok (.invokevirtual 85, 3) := by decide +kernel
theorem dX6_cutApart_64 : decode cX6_cutApart 64 = .ok (.aload_n 0, 1) := by decide +kernel
theorem dX6_cutApart_65 : decode cX6_cutApart 65 = .ok (.getfield 12, 3) := by decide +kernel
theorem dX6_cutApart_68 : decode cX6_cutApart 68 = .ok (.iload_n 1, 1) := by decide +kernel
theorem dX6_cutApart_69 : decode cX6_cutApart 69 = .ok (.iload_n 2, 1) := by decide +kernel
theorem dX6_cutApart_70 : decode cX6_cutApart 70 = .ok (.iload 4, 2) := by decide +kernel
theorem dX6_cutApart_72 : decode cX6_cutApart 72 = .ok (.iconst 0, 1) := by decide +kernel
theorem dX6_cutApart_73 : decode cX6_cutApart 73 = .ok (.iload_n 3, 1) := by decide +kernel
theorem dX6_cutApart_74 : decode cX6_cutApart 74 = .ok (.iload_n 2, 1) := by decide +kernel
theorem dX6_cutApart_75 : decode cX6_cutApart 75 = .ok (.isub, 1) := by decide +kernel
theorem dX6_cutApart_76 : decode cX6_cutApart 76 = .ok (.invokevirtual 133, 3) := by decide +kernel
theorem dX6_cutApart_79 : decode cX6_cutApart 79 = .ok (.aload_n 0, 1) := by decide +kernel
theorem dX6_cutApart_80 : decode cX6_cutApart 80 = .ok (.getfield 12, 3) := by decide +kernel
theorem dX6_cutApart_83 : decode cX6_cutApart 83 = .ok (.iload 4, 2) := by decide +kernel
theorem dX6_cutApart_85 : decode cX6_cutApart 85 = .ok (.iload_n 3, 1) := by decide +kernel
theorem dX6_cutApart_86 : decode cX6_cutApart 86 = .ok (.iload_n 2, 1) := by decide +kernel
theorem dX6_cutApart_87 : decode cX6_cutApart 87 = .ok (.isub, 1) := by decide +kernel
theorem dX6_cutApart_88 : decode cX6_cutApart 88 = .ok (.invokevirtual 114, 3) := by decide +kernel
theorem dX6_cutApart_91 : decode cX6_cutApart 91 = .ok (.aload_n 0, 1) := by decide +kernel
theorem dX6_cutApart_92 : decode cX6_cutApart 92 = .ok (.getfield 12, 3) := by decide +kernel
theorem dX6_cutApart_95 : decode cX6_cutApart 95 = .ok (.iload_n 1, 1) := by decide +kernel
theorem dX6_cutApart_96 : decode cX6_cutApart 96 = .ok (.iload_n 2, 1) := by decide +kernel
theorem dX6_cutApart_97 : decode cX6_cutApart 97 = .ok (.invokevirtual 114, 3) := by decide +kernel
theorem dX6_cutApart_100 : decode cX6_cutApart 100 = .ok (.iload 4, 2) := by decide +kernel
theorem dX6_cutApart_102 : decode cX6_cutApart 102 = .ok (.ireturn, 1) := by decide +kernel
set_option maxRecDepth 20000 in
theorem ggX6_turn_X4_hasGarland : GoodIn wsX6_turn wsX4_hasGarland := goodIn_r _ [8, 9, 10, 11, 12, 13, 14, 7, 15, 16, 17, 18, 19, 20, 21, 22, 97, 98] (by decide +kernel) (by decide +kernel)
set_option maxRecDepth 20000 in
theorem gX6_turn_X4_hasGarland : GoodIn wsX6_turn (wsV RX6 118 RX4 yX4_hasGarland wsX4_hasGarland) := goodIn_app (goodIn_of _ (by decide +kernel)) ggX6_turn_X4_hasGarland
set_option maxRecDepth 20000 in
theorem ggX6_turn_X2_isOwnMirror : GoodIn wsX6_turn wsX2_isOwnMirror := goodIn_r _ [27, 28, 29, 30, 26, 31, 32, 33, 13, 14, 7, 15, 16, 17, 18, 19, 20, 21, 22, 34, 35, 36, 37, 38, 39, 40, 41, 42, 10, 43, 99, 97, 98] (by decide +kernel) (by decide +kernel)
set_option maxRecDepth 20000 in
theorem gX6_turn_X2_isOwnMirror : GoodIn wsX6_turn (wsV RX6 137 RX2 yX2_isOwnMirror wsX2_isOwnMirror) := goodIn_app (goodIn_of _ (by decide +kernel)) ggX6_turn_X2_isOwnMirror
set_option maxRecDepth 20000 in
theorem ggX6_turn_X1_remember : GoodIn wsX6_turn wsX1_remember := goodIn_r _ [48, 49, 50, 51, 52, 53, 54, 47, 55, 56, 57, 58, 7, 59, 16, 60, 61, 62, 20, 63, 22, 64, 65, 66, 67, 100, 101, 102, 97, 98] (by decide +kernel) (by decide +kernel)
set_option maxRecDepth 20000 in
theorem gX6_turn_X1_remember : GoodIn wsX6_turn (wsV RX6 85 RX1 yX1_remember wsX1_remember) := goodIn_app (goodIn_of _ (by decide +kernel)) ggX6_turn_X1_remember
set_option maxRecDepth 20000 in
theorem ggX6_turn_X4_turnRound : GoodIn wsX6_turn wsX4_turnRound := goodIn_r _ [71, 12, 13, 14, 7, 15, 16, 17, 18, 19, 20, 21, 22, 72, 35, 36, 37, 38, 39, 40, 41, 42, 10, 43, 73, 74, 75, 76, 77, 78, 79, 80, 97, 98] (by decide +kernel) (by decide +kernel)
set_option maxRecDepth 20000 in
theorem gX6_turn_X4_turnRound : GoodIn wsX6_turn (wsV RX6 140 RX4 yX4_turnRound wsX4_turnRound) := goodIn_app (goodIn_of _ (by decide +kernel)) ggX6_turn_X4_turnRound
set_option maxRecDepth 20000 in
theorem ggX6_turn_X2_mirroredIn : GoodIn wsX6_turn wsX2_mirroredIn := goodIn_r _ [84, 32, 33, 13, 14, 7, 15, 16, 17, 18, 19, 20, 21, 22, 34, 35, 36, 37, 38, 39, 40, 41, 85, 10, 86, 87, 88, 99, 97, 98] (by decide +kernel) (by decide +kernel)
set_option maxRecDepth 20000 in
theorem gX6_turn_X2_mirroredIn : GoodIn wsX6_turn (wsV RX6 143 RX2 yX2_mirroredIn wsX2_mirroredIn) := goodIn_app (goodIn_of _ (by decide +kernel)) ggX6_turn_X2_mirroredIn
theorem dX6_turn_0 : decode cX6_turn 0 = .ok (.aload_n 0, 1) := by decide +kernel
theorem dX6_turn_1 : decode cX6_turn 1 = .ok (.getfield 12, 3) := by decide +kernel
theorem dX6_turn_4 : decode cX6_turn 4 = .ok (.iload_n 1, 1) := by decide +kernel
theorem dX6_turn_5 : decode cX6_turn 5 = .ok (.invokevirtual 118, 3) := by decide +kernel
theorem dX6_turn_8 : decode cX6_turn 8 = .ok (.ifCond .ne 5, 3) := by decide +kernel
theorem dX6_turn_11 : decode cX6_turn 11 = .ok (.iconst (-1), 1) := by decide +kernel
theorem dX6_turn_12 : decode cX6_turn 12 = .ok (.ireturn, 1) := by decide +kernel
theorem dX6_turn_13 : decode cX6_turn 13 = .ok (.aload_n 0, 1) := by decide +kernel
theorem dX6_turn_14 : decode cX6_turn 14 = .ok (.getfield 21, 3) := by decide +kernel
theorem dX6_turn_17 : decode cX6_turn 17 = .ok (.iload_n 1, 1) := by decide +kernel
theorem dX6_turn_18 : decode cX6_turn 18 = .ok (.invokevirtual 137, 3) := by decide +kernel
theorem dX6_turn_21 : decode cX6_turn 21 = .ok (.ifCond .eq 6, 3) := by decide +kernel
theorem dX6_turn_24 : decode cX6_turn 24 = .ok (.bipush (-5), 2) := by decide +kernel
theorem dX6_turn_26 : decode cX6_turn 26 = .ok (.ireturn, 1) := by decide +kernel
theorem dX6_turn_27 : decode cX6_turn 27 = .ok (.aload_n 0, 1) := by decide +kernel
theorem dX6_turn_28 : decode cX6_turn 28 = .ok (.getfield 35, 3) := by decide +kernel
theorem dX6_turn_31 : decode cX6_turn 31 = .ok (.aload_n 0, 1) := by decide +kernel
theorem dX6_turn_32 : decode cX6_turn 32 = .ok (.getfield 12, 3) := by decide +kernel
theorem dX6_turn_35 : decode cX6_turn 35 = .ok (.invokevirtual 85, 3) := by decide +kernel
theorem dX6_turn_38 : decode cX6_turn 38 = .ok (.aload_n 0, 1) := by decide +kernel
theorem dX6_turn_39 : decode cX6_turn 39 = .ok (.getfield 12, 3) := by decide +kernel
theorem dX6_turn_42 : decode cX6_turn 42 = .ok (.iload_n 1, 1) := by decide +kernel
theorem dX6_turn_43 : decode cX6_turn 43 = .ok (.invokevirtual 140, 3) := by decide +kernel
theorem dX6_turn_46 : decode cX6_turn 46 = .ok (.aload_n 0, 1) := by decide +kernel
theorem dX6_turn_47 : decode cX6_turn 47 = .ok (.getfield 21, 3) := by decide +kernel
theorem dX6_turn_50 : decode cX6_turn 50 = .ok (.iload_n 1, 1) := by decide +kernel
theorem dX6_turn_51 : decode cX6_turn 51 = .ok (.invokevirtual 143, 3) := by decide +kernel
theorem dX6_turn_54 : decode cX6_turn 54 = .ok (.ireturn, 1) := by decide +kernel
set_option maxRecDepth 20000 in
theorem ggX6_fold_X4_hasGarland : GoodIn wsX6_fold wsX4_hasGarland := goodIn_r _ [7, 8, 9, 10, 11, 12, 13, 6, 14, 15, 16, 17, 18, 19, 20, 21, 106, 107] (by decide +kernel) (by decide +kernel)
set_option maxRecDepth 20000 in
theorem gX6_fold_X4_hasGarland : GoodIn wsX6_fold (wsV RX6 118 RX4 yX4_hasGarland wsX4_hasGarland) := goodIn_app (goodIn_of _ (by decide +kernel)) ggX6_fold_X4_hasGarland
set_option maxRecDepth 20000 in
theorem ggX6_fold_X4_lastDoll : GoodIn wsX6_fold wsX4_lastDoll := goodIn_r _ [25, 11, 12, 13, 6, 14, 15, 16, 17, 18, 19, 20, 21, 26, 27, 28, 29, 30, 31, 32, 33, 106, 107] (by decide +kernel) (by decide +kernel)
set_option maxRecDepth 20000 in
theorem gX6_fold_X4_lastDoll : GoodIn wsX6_fold (wsV RX6 121 RX4 yX4_lastDoll wsX4_lastDoll) := goodIn_app (goodIn_of _ (by decide +kernel)) ggX6_fold_X4_lastDoll
set_option maxRecDepth 20000 in
theorem ggX6_fold_X6_mirrorOf : GoodIn wsX6_fold wsX6_mirrorOf := goodIn_r _ [36] (by decide +kernel) (by decide +kernel)
set_option maxRecDepth 20000 in
theorem gX6_fold_X6_mirrorOf : GoodIn wsX6_fold (va_wsS RX6 146 yX6_mirrorOf wsX6_mirrorOf) := goodIn_app (goodIn_of _ (by decide +kernel)) ggX6_fold_X6_mirrorOf
set_option maxRecDepth 20000 in
theorem ggX6_fold_X4_clash : GoodIn wsX6_fold wsX4_clash := goodIn_r _ [40, 41, 42, 43, 6, 44, 15, 45, 9, 46, 47, 48, 16, 17, 18, 19, 20, 21, 49, 50, 51, 52, 53, 54, 55, 56, 106, 107] (by decide +kernel) (by decide +kernel)
set_option maxRecDepth 20000 in
theorem gX6_fold_X4_clash : GoodIn wsX6_fold (wsV RX6 127 RX4 yX4_clash wsX4_clash) := goodIn_app (goodIn_of _ (by decide +kernel)) ggX6_fold_X4_clash
set_option maxRecDepth 20000 in
theorem ggX6_fold_X4_lengthOf : GoodIn wsX6_fold wsX4_lengthOf := goodIn_r _ [14, 15, 16, 17, 18, 19, 20, 21, 106, 107] (by decide +kernel) (by decide +kernel)
set_option maxRecDepth 20000 in
theorem gX6_fold_X4_lengthOf : GoodIn wsX6_fold (wsV RX6 130 RX4 yX4_lengthOf wsX4_lengthOf) := goodIn_app (goodIn_of _ (by decide +kernel)) ggX6_fold_X4_lengthOf
set_option maxRecDepth 20000 in
theorem ggX6_fold_X1_remember : GoodIn wsX6_fold wsX1_remember := goodIn_r _ [62, 63, 64, 65, 66, 67, 68, 61, 69, 70, 71, 72, 6, 73, 15, 74, 75, 76, 19, 77, 21, 78, 79, 80, 81, 108, 109, 110, 106, 107] (by decide +kernel) (by decide +kernel)
set_option maxRecDepth 20000 in
theorem gX6_fold_X1_remember : GoodIn wsX6_fold (wsV RX6 85 RX1 yX1_remember wsX1_remember) := goodIn_app (goodIn_of _ (by decide +kernel)) ggX6_fold_X1_remember
set_option maxRecDepth 20000 in
theorem ggX6_fold_X4_foldOut : GoodIn wsX6_fold wsX4_foldOut := goodIn_r _ [85, 11, 12, 13, 6, 14, 15, 16, 17, 18, 19, 20, 21, 26, 27, 28, 29, 30, 31, 32, 33, 35, 9, 36, 86, 87, 88, 89, 90, 91, 92, 93, 94, 95, 96, 97, 106, 107] (by decide +kernel) (by decide +kernel)
set_option maxRecDepth 20000 in
theorem gX6_fold_X4_foldOut : GoodIn wsX6_fold (wsV RX6 149 RX4 yX4_foldOut wsX4_foldOut) := goodIn_app (goodIn_of _ (by decide +kernel)) ggX6_fold_X4_foldOut
theorem dX6_fold_0 : decode cX6_fold 0 = .ok (.aload_n 0, 1) := by decide +kernel
theorem dX6_fold_1 : decode cX6_fold 1 = .ok (.getfield 12, 3) := by decide +kernel
theorem dX6_fold_4 : decode cX6_fold 4 = .ok (.iload_n 1, 1) := by decide +kernel
theorem dX6_fold_5 : decode cX6_fold 5 = .ok (.invokevirtual 118, 3) := by decide +kernel
theorem dX6_fold_8 : decode cX6_fold 8 = .ok (.ifCond .ne 5, 3) := by decide +kernel
theorem dX6_fold_11 : decode cX6_fold 11 = .ok (.iconst (-1), 1) := by decide +kernel
theorem dX6_fold_12 : decode cX6_fold 12 = .ok (.ireturn, 1) := by decide +kernel
theorem dX6_fold_13 : decode cX6_fold 13 = .ok (.aload_n 0, 1) := by decide +kernel
theorem dX6_fold_14 : decode cX6_fold 14 = .ok (.getfield 12, 3) := by decide +kernel
theorem dX6_fold_17 : decode cX6_fold 17 = .ok (.iload_n 1, 1) := by decide +kernel
theorem dX6_fold_18 : decode cX6_fold 18 = .ok (.invokevirtual 121, 3) := by decide +kernel
theorem dX6_fold_21 : decode cX6_fold 21 = .ok (.istore_n 2, 1) := by decide +kernel
theorem dX6_fold_22 : decode cX6_fold 22 = .ok (.aload_n 0, 1) := by decide +kernel
theorem dX6_fold_23 : decode cX6_fold 23 = .ok (.getfield 12, 3) := by decide +kernel
theorem dX6_fold_26 : decode cX6_fold 26 = .ok (.iload_n 2, 1) := by decide +kernel
theorem dX6_fold_27 : decode cX6_fold 27 = .ok (.iload_n 2, 1) := by decide +kernel
theorem dX6_fold_28 : decode cX6_fold 28 = .ok (.invokestatic 146, 3) := by decide +kernel
theorem dX6_fold_31 : decode cX6_fold 31 = .ok (.invokevirtual 127, 3) := by decide +kernel
theorem dX6_fold_34 : decode cX6_fold 34 = .ok (.ifCond .eq 6, 3) := by decide +kernel
theorem dX6_fold_37 : decode cX6_fold 37 = .ok (.bipush (-4), 2) := by decide +kernel
theorem dX6_fold_39 : decode cX6_fold 39 = .ok (.ireturn, 1) := by decide +kernel
theorem dX6_fold_40 : decode cX6_fold 40 = .ok (.iconst 2, 1) := by decide +kernel
theorem dX6_fold_41 : decode cX6_fold 41 = .ok (.aload_n 0, 1) := by decide +kernel
theorem dX6_fold_42 : decode cX6_fold 42 = .ok (.getfield 12, 3) := by decide +kernel
theorem dX6_fold_45 : decode cX6_fold 45 = .ok (.iload_n 1, 1) := by decide +kernel
theorem dX6_fold_46 : decode cX6_fold 46 = .ok (.invokevirtual 130, 3) := by decide +kernel
theorem dX6_fold_49 : decode cX6_fold 49 = .ok (.imul, 1) := by decide +kernel
theorem dX6_fold_50 : decode cX6_fold 50 = .ok (.istore_n 3, 1) := by decide +kernel
theorem dX6_fold_51 : decode cX6_fold 51 = .ok (.iload_n 3, 1) := by decide +kernel
theorem dX6_fold_52 : decode cX6_fold 52 = .ok (.bipush 32, 2) := by decide +kernel
theorem dX6_fold_54 : decode cX6_fold 54 = .ok (.if_icmp .le 6, 3) := by decide +kernel
theorem dX6_fold_57 : decode cX6_fold 57 = .ok (.bipush (-3), 2) := by decide +kernel
theorem dX6_fold_59 : decode cX6_fold 59 = .ok (.ireturn, 1) := by decide +kernel
theorem dX6_fold_60 : decode cX6_fold 60 = .ok (.aload_n 0, 1) := by decide +kernel
theorem dX6_fold_61 : decode cX6_fold 61 = .ok (.getfield 35, 3) := by decide +kernel
theorem dX6_fold_64 : decode cX6_fold 64 = .ok (.aload_n 0, 1) := by decide +kernel
theorem dX6_fold_65 : decode cX6_fold 65 = .ok (.getfield 12, 3) := by decide +kernel
theorem dX6_fold_68 : decode cX6_fold 68 = .ok (.invokevirtual 85, 3) := by decide +kernel
theorem dX6_fold_71 : decode cX6_fold 71 = .ok (.aload_n 0, 1) := by decide +kernel
theorem dX6_fold_72 : decode cX6_fold 72 = .ok (.getfield 12, 3) := by decide +kernel
theorem dX6_fold_75 : decode cX6_fold 75 = .ok (.iload_n 1, 1) := by decide +kernel
theorem dX6_fold_76 : decode cX6_fold 76 = .ok (.invokevirtual 149, 3) := by decide +kernel
theorem dX6_fold_79 : decode cX6_fold 79 = .ok (.iload_n 3, 1) := by decide +kernel
theorem dX6_fold_80 : decode cX6_fold 80 = .ok (.ireturn, 1) := by decide +kernel
set_option maxRecDepth 20000 in
theorem ggX6_takeAway_X4_hasGarland : GoodIn wsX6_takeAway wsX4_hasGarland := goodIn_r _ [7, 8, 9, 10, 11, 12, 13, 6, 14, 15, 16, 17, 18, 19, 20, 21, 63, 64] (by decide +kernel) (by decide +kernel)
set_option maxRecDepth 20000 in
theorem gX6_takeAway_X4_hasGarland : GoodIn wsX6_takeAway (wsV RX6 118 RX4 yX4_hasGarland wsX4_hasGarland) := goodIn_app (goodIn_of _ (by decide +kernel)) ggX6_takeAway_X4_hasGarland
set_option maxRecDepth 20000 in
theorem ggX6_takeAway_X4_lengthOf : GoodIn wsX6_takeAway wsX4_lengthOf := goodIn_r _ [14, 15, 16, 17, 18, 19, 20, 21, 63, 64] (by decide +kernel) (by decide +kernel)
set_option maxRecDepth 20000 in
theorem gX6_takeAway_X4_lengthOf : GoodIn wsX6_takeAway (wsV RX6 130 RX4 yX4_lengthOf wsX4_lengthOf) := goodIn_app (goodIn_of _ (by decide +kernel)) ggX6_takeAway_X4_lengthOf
set_option maxRecDepth 20000 in
theorem ggX6_takeAway_X1_remember : GoodIn wsX6_takeAway wsX1_remember := goodIn_r _ [27, 28, 29, 30, 31, 32, 33, 26, 34, 35, 36, 37, 6, 38, 15, 39, 40, 41, 19, 42, 21, 43, 44, 45, 46, 65, 66, 67, 63, 64] (by decide +kernel) (by decide +kernel)
set_option maxRecDepth 20000 in
theorem gX6_takeAway_X1_remember : GoodIn wsX6_takeAway (wsV RX6 85 RX1 yX1_remember wsX1_remember) := goodIn_app (goodIn_of _ (by decide +kernel)) ggX6_takeAway_X1_remember
set_option maxRecDepth 20000 in
theorem ggX6_takeAway_X4_putLength : GoodIn wsX6_takeAway wsX4_putLength := goodIn_r _ [50, 15, 51, 52, 53, 19, 54, 21, 63, 64] (by decide +kernel) (by decide +kernel)
set_option maxRecDepth 20000 in
theorem gX6_takeAway_X4_putLength : GoodIn wsX6_takeAway (wsV RX6 114 RX4 yX4_putLength wsX4_putLength) := goodIn_app (goodIn_of _ (by decide +kernel)) ggX6_takeAway_X4_putLength
theorem dX6_takeAway_0 : decode cX6_takeAway 0 = .ok (.aload_n 0, 1) := by decide +kernel
theorem dX6_takeAway_1 : decode cX6_takeAway 1 = .ok (.getfield 12, 3) := by decide +kernel
theorem dX6_takeAway_4 : decode cX6_takeAway 4 = .ok (.iload_n 1, 1) := by decide +kernel
theorem dX6_takeAway_5 : decode cX6_takeAway 5 = .ok (.invokevirtual 118, 3) := by decide +kernel
theorem dX6_takeAway_8 : decode cX6_takeAway 8 = .ok (.ifCond .ne 5, 3) := by decide +kernel
theorem dX6_takeAway_11 : decode cX6_takeAway 11 = .ok (.iconst (-1), 1) := by decide +kernel
theorem dX6_takeAway_12 : decode cX6_takeAway 12 = .ok (.ireturn, 1) := by decide +kernel
theorem dX6_takeAway_13 : decode cX6_takeAway 13 = .ok (.aload_n 0, 1) := by decide +kernel
theorem dX6_takeAway_14 : decode cX6_takeAway 14 = .ok (.getfield 12, 3) := by decide +kernel
theorem dX6_takeAway_17 : decode cX6_takeAway 17 = .ok (.iload_n 1, 1) := by decide +kernel
theorem dX6_takeAway_18 : decode cX6_takeAway 18 = .ok (.invokevirtual 130, 3) := by decide +kernel
theorem dX6_takeAway_21 : decode cX6_takeAway 21 = .ok (.istore_n 2, 1) := by decide +kernel
theorem dX6_takeAway_22 : decode cX6_takeAway 22 = .ok (.aload_n 0, 1) := by decide +kernel
theorem dX6_takeAway_23 : decode cX6_takeAway 23 = .ok (.getfield 35, 3) := by decide +kernel
theorem dX6_takeAway_26 : decode cX6_takeAway 26 = .ok (.aload_n 0, 1) := by decide +kernel
theorem dX6_takeAway_27 : decode cX6_takeAway 27 = .ok (.getfield 12, 3) := by decide +kernel
theorem dX6_takeAway_30 : decode cX6_takeAway 30 = .ok (.invokevirtual 85, 3) := by decide +kernel
theorem dX6_takeAway_33 : decode cX6_takeAway 33 = .ok (.aload_n 0, 1) := by decide +kernel
theorem dX6_takeAway_34 : decode cX6_takeAway 34 = .ok (.getfield 12, 3) := by decide +kernel
theorem dX6_takeAway_37 : decode cX6_takeAway 37 = .ok (.iload_n 1, 1) := by decide +kernel
theorem dX6_takeAway_38 : decode cX6_takeAway 38 = .ok (.iconst 0, 1) := by decide +kernel
theorem dX6_takeAway_39 : decode cX6_takeAway 39 = .ok (.invokevirtual 114, 3) := by decide +kernel
theorem dX6_takeAway_42 : decode cX6_takeAway 42 = .ok (.iload_n 2, 1) := by decide +kernel
theorem dX6_takeAway_43 : decode cX6_takeAway 43 = .ok (.ireturn, 1) := by decide +kernel
set_option maxRecDepth 20000 in
theorem ggX6_type_X5_isFull : GoodIn wsX6_type wsX5_isFull := goodIn_r _ [6, 7, 27, 28] (by decide +kernel) (by decide +kernel)
set_option maxRecDepth 20000 in
theorem gX6_type_X5_isFull : GoodIn wsX6_type (wsV RX6 152 RX5 yX5_isFull wsX5_isFull) := goodIn_app (goodIn_of _ (by decide +kernel)) ggX6_type_X5_isFull
set_option maxRecDepth 20000 in
theorem ggX6_type_X5_add : GoodIn wsX6_type wsX5_add := goodIn_r _ [11, 12, 7, 13, 14, 15, 16, 17, 18, 27, 28, 29] (by decide +kernel) (by decide +kernel)
set_option maxRecDepth 20000 in
theorem gX6_type_X5_add : GoodIn wsX6_type (wsV RX6 155 RX5 yX5_add wsX5_add) := goodIn_app (goodIn_of _ (by decide +kernel)) ggX6_type_X5_add
theorem dX6_type_0 : decode cX6_type 0 = .ok (.aload_n 0, 1) := by decide +kernel
theorem dX6_type_1 : decode cX6_type 1 = .ok (.getfield 42, 3) := by decide +kernel
theorem dX6_type_4 : decode cX6_type 4 = .ok (.invokevirtual 152, 3) := by decide +kernel
theorem dX6_type_7 : decode cX6_type 7 = .ok (.ifCond .eq 6, 3) := by decide +kernel
theorem dX6_type_10 : decode cX6_type 10 = .ok (.bipush (-3), 2) := by decide +kernel
theorem dX6_type_12 : decode cX6_type 12 = .ok (.ireturn, 1) := by decide +kernel
theorem dX6_type_13 : decode cX6_type 13 = .ok (.aload_n 0, 1) := by decide +kernel
theorem dX6_type_14 : decode cX6_type 14 = .ok (.getfield 42, 3) := by decide +kernel
theorem dX6_type_17 : decode cX6_type 17 = .ok (.iload_n 1, 1) := by decide +kernel
theorem dX6_type_18 : decode cX6_type 18 = .ok (.invokevirtual 155, 3) := by decide +kernel
theorem dX6_type_21 : decode cX6_type 21 = .ok (.ireturn, 1) := by decide +kernel
set_option maxRecDepth 20000 in
theorem ggX6_clearText_X5_empty : GoodIn wsX6_clearText wsX5_empty := goodIn_r _ [6, 7, 16, 17] (by decide +kernel) (by decide +kernel)
set_option maxRecDepth 20000 in
theorem gX6_clearText_X5_empty : GoodIn wsX6_clearText (wsV RX6 159 RX5 yX5_empty wsX5_empty) := goodIn_app (goodIn_of _ (by decide +kernel)) ggX6_clearText_X5_empty
theorem dX6_clearText_0 : decode cX6_clearText 0 = .ok (.aload_n 0, 1) := by decide +kernel
theorem dX6_clearText_1 : decode cX6_clearText 1 = .ok (.getfield 42, 3) := by decide +kernel
theorem dX6_clearText_4 : decode cX6_clearText 4 = .ok (.invokevirtual 159, 3) := by decide +kernel
theorem dX6_clearText_7 : decode cX6_clearText 7 = .ok (.ireturn, 1) := by decide +kernel
set_option maxRecDepth 20000 in
theorem ggX6_readGarland_X5_fault : GoodIn wsX6_readGarland wsX5_fault := goodIn_r _ [9, 10, 11, 12, 13, 14, 15, 16, 17, 18, 19, 8, 20, 131, 132, 133] (by decide +kernel) (by decide +kernel)
set_option maxRecDepth 20000 in
theorem gX6_readGarland_X5_fault : GoodIn wsX6_readGarland (wsV RX6 162 RX5 yX5_fault wsX5_fault) := goodIn_app (goodIn_of _ (by decide +kernel)) ggX6_readGarland_X5_fault
set_option maxRecDepth 20000 in
theorem ggX6_readGarland_X5_spellDolls : GoodIn wsX6_readGarland wsX5_spellDolls := goodIn_r _ [24, 10, 11, 12, 13, 14, 15, 16, 17, 18, 19, 8, 20, 25, 26, 27, 28, 29, 30, 31, 32, 33, 34, 35, 36, 131, 132, 133] (by decide +kernel) (by decide +kernel)
set_option maxRecDepth 20000 in
theorem gX6_readGarland_X5_spellDolls : GoodIn wsX6_readGarland (wsV RX6 165 RX5 yX5_spellDolls wsX5_spellDolls) := goodIn_app (goodIn_of _ (by decide +kernel)) ggX6_readGarland_X5_spellDolls
set_option maxRecDepth 20000 in
theorem ggX6_readGarland_X4_hasKindsOf : GoodIn wsX6_readGarland wsX4_hasKindsOf := goodIn_r _ [41, 42, 13, 14, 15, 16, 17, 43, 26, 44, 45, 46, 47, 40, 48, 49, 50, 51, 52, 53, 54, 55, 133, 134] (by decide +kernel) (by decide +kernel)
set_option maxRecDepth 20000 in
theorem gX6_readGarland_X4_hasKindsOf : GoodIn wsX6_readGarland (wsV RX6 169 RX4 yX4_hasKindsOf wsX4_hasKindsOf) := goodIn_app (goodIn_of _ (by decide +kernel)) ggX6_readGarland_X4_hasKindsOf
set_option maxRecDepth 20000 in
theorem ggX6_readGarland_X4_hasClashIn : GoodIn wsX6_readGarland wsX4_hasClashIn := goodIn_r _ [59, 42, 13, 14, 15, 16, 17, 60, 61, 62, 40, 63, 64, 65, 66, 67, 53, 68, 26, 69, 43, 44, 70, 71, 72, 73, 74, 75, 76, 77, 133, 134] (by decide +kernel) (by decide +kernel)
set_option maxRecDepth 20000 in
theorem gX6_readGarland_X4_hasClashIn : GoodIn wsX6_readGarland (wsV RX6 173 RX4 yX4_hasClashIn wsX4_hasClashIn) := goodIn_app (goodIn_of _ (by decide +kernel)) ggX6_readGarland_X4_hasClashIn
set_option maxRecDepth 20000 in
theorem ggX6_readGarland_X4_freeNumber : GoodIn wsX6_readGarland wsX4_freeNumber := goodIn_r _ [81, 82, 83, 84, 40, 85, 53, 42, 13, 14, 15, 16, 17, 134, 133] (by decide +kernel) (by decide +kernel)
end
section
set_option maxRecDepth 20000 in
theorem gX6_readGarland_X4_freeNumber : GoodIn wsX6_readGarland (wsV RX6 104 RX4 yX4_freeNumber wsX4_freeNumber) := goodIn_app (goodIn_of _ (by decide +kernel)) ggX6_readGarland_X4_freeNumber
set_option maxRecDepth 20000 in
theorem ggX6_readGarland_X1_remember : GoodIn wsX6_readGarland wsX1_remember := goodIn_r _ [90, 91, 92, 93, 94, 95, 96, 89, 97, 98, 99, 100, 40, 101, 53, 102, 103, 104, 15, 105, 17, 106, 107, 108, 109, 135, 136, 137, 134, 133] (by decide +kernel) (by decide +kernel)
set_option maxRecDepth 20000 in
theorem gX6_readGarland_X1_remember : GoodIn wsX6_readGarland (wsV RX6 85 RX1 yX1_remember wsX1_remember) := goodIn_app (goodIn_of _ (by decide +kernel)) ggX6_readGarland_X1_remember
set_option maxRecDepth 20000 in
theorem ggX6_readGarland_X4_hangUp : GoodIn wsX6_readGarland wsX4_hangUp := goodIn_r _ [113, 53, 114, 115, 116, 40, 117, 102, 103, 104, 15, 105, 17, 106, 107, 108, 109, 118, 119, 120, 121, 122, 32, 33, 34, 134, 133] (by decide +kernel) (by decide +kernel)
set_option maxRecDepth 20000 in
theorem gX6_readGarland_X4_hangUp : GoodIn wsX6_readGarland (wsV RX6 177 RX4 yX4_hangUp wsX4_hangUp) := goodIn_app (goodIn_of _ (by decide +kernel)) ggX6_readGarland_X4_hangUp
theorem dX6_readGarland_0 : decode cX6_readGarland 0 = .ok (.aload_n 0, 1) := by decide +kernel
theorem dX6_readGarland_1 : decode cX6_readGarland 1 = .ok (.getfield 42, 3) := by decide +kernel
theorem dX6_readGarland_4 : decode cX6_readGarland 4 = .ok (.invokevirtual 162, 3) := by decide +kernel
theorem dX6_readGarland_7 : decode cX6_readGarland 7 = .ok (.istore_n 1, 1) := by decide +kernel
theorem dX6_readGarland_8 : decode cX6_readGarland 8 = .ok (.iload_n 1, 1) := by decide +kernel
theorem dX6_readGarland_9 : decode cX6_readGarland 9 = .ok (.iconst (-1), 1) := by decide +kernel
theorem dX6_readGarland_10 : decode cX6_readGarland 10 = .ok (.if_icmp .eq 8, 3) := by decide +kernel
theorem dX6_readGarland_13 : decode cX6_readGarland 13 = .ok (.bipush (-100), 2) := by decide +kernel
theorem dX6_readGarland_15 : decode cX6_readGarland 15 = .ok (.iload_n 1, 1) := by decide +kernel
theorem dX6_readGarland_16 : decode cX6_readGarland 16 = .ok (.isub, 1) := by decide +kernel
theorem dX6_readGarland_17 : decode cX6_readGarland 17 = .ok (.ireturn, 1) := by decide +kernel
theorem dX6_readGarland_18 : decode cX6_readGarland 18 = .ok (.aload_n 0, 1) := by decide +kernel
theorem dX6_readGarland_19 : decode cX6_readGarland 19 = .ok (.getfield 42, 3) := by decide +kernel
theorem dX6_readGarland_22 : decode cX6_readGarland 22 = .ok (.aload_n 0, 1) := by decide +kernel
theorem dX6_readGarland_23 : decode cX6_readGarland 23 = .ok (.getfield 55, 3) := by decide +kernel
theorem dX6_readGarland_26 : decode cX6_readGarland 26 = .ok (.invokevirtual 165, 3) := by decide +kernel
theorem dX6_readGarland_29 : decode cX6_readGarland 29 = .ok (.istore_n 2, 1) := by decide +kernel
theorem dX6_readGarland_30 : decode cX6_readGarland 30 = .ok (.aload_n 0, 1) := by decide +kernel
theorem dX6_readGarland_31 : decode cX6_readGarland 31 = .ok (.getfield 12, 3) := by decide +kernel
theorem dX6_readGarland_34 : decode cX6_readGarland 34 = .ok (.aload_n 0, 1) := by decide +kernel
theorem dX6_readGarland_35 : decode cX6_readGarland 35 = .ok (.getfield 55, 3) := by decide +kernel
theorem dX6_readGarland_38 : decode cX6_readGarland 38 = .ok (.iload_n 2, 1) := by decide +kernel
theorem dX6_readGarland_39 : decode cX6_readGarland 39 = .ok (.invokevirtual 169, 3) := by decide +kernel
theorem dX6_readGarland_42 : decode cX6_readGarland 42 = .ok (.ifCond .ne 5, 3) := by decide +kernel
theorem dX6_readGarland_45 : decode cX6_readGarland 45 = .ok (.iconst (-1), 1) := by decide +kernel
theorem dX6_readGarland_46 : decode cX6_readGarland 46 = .ok (.ireturn, 1) := by decide +kernel
theorem dX6_readGarland_47 : decode cX6_readGarland 47 = .ok (.aload_n 0, 1) := by decide +kernel
theorem dX6_readGarland_48 : decode cX6_readGarland 48 = .ok (.getfield 12, 3) := by decide +kernel
theorem dX6_readGarland_51 : decode cX6_readGarland 51 = .ok (.aload_n 0, 1) := by decide +kernel
theorem dX6_readGarland_52 : decode cX6_readGarland 52 = .ok (.getfield 55, 3) := by decide +kernel
theorem dX6_readGarland_55 : decode cX6_readGarland 55 = .ok (.iconst 0, 1) := by decide +kernel
theorem dX6_readGarland_56 : decode cX6_readGarland 56 = .ok (.iload_n 2, 1) := by decide +kernel
theorem dX6_readGarland_57 : decode cX6_readGarland 57 = .ok (.invokevirtual 173, 3) := by decide +kernel
theorem dX6_readGarland_60 : decode cX6_readGarland 60 = .ok (.ifCond .eq 6, 3) := by decide +kernel
theorem dX6_readGarland_63 : decode cX6_readGarland 63 = .ok (.bipush (-4), 2) := by decide +kernel
theorem dX6_readGarland_65 : decode cX6_readGarland 65 = .ok (.ireturn, 1) := by decide +kernel
theorem dX6_readGarland_66 : decode cX6_readGarland 66 = .ok (.aload_n 0, 1) := by decide +kernel
theorem dX6_readGarland_67 : decode cX6_readGarland 67 = .ok (.getfield 12, 3) := by decide +kernel
theorem dX6_readGarland_70 : decode cX6_readGarland 70 = .ok (.invokevirtual 104, 3) := by decide +kernel
theorem dX6_readGarland_73 : decode cX6_readGarland 73 = .ok (.istore_n 3, 1) := by decide +kernel
theorem dX6_readGarland_74 : decode cX6_readGarland 74 = .ok (.iload_n 3, 1) := by decide +kernel
theorem dX6_readGarland_75 : decode cX6_readGarland 75 = .ok (.iconst (-1), 1) := by decide +kernel
theorem dX6_readGarland_76 : decode cX6_readGarland 76 = .ok (.if_icmp .ne 6, 3) := by decide +kernel
theorem dX6_readGarland_79 : decode cX6_readGarland 79 = .ok (.bipush (-3), 2) := by decide +kernel
theorem dX6_readGarland_81 : decode cX6_readGarland 81 = .ok (.ireturn, 1) := by decide +kernel
theorem dX6_readGarland_82 : decode cX6_readGarland 82 = .ok (.aload_n 0, 1) := by decide +kernel
theorem dX6_readGarland_83 : decode cX6_readGarland 83 = .ok (.getfield 35, 3) := by decide +kernel
theorem dX6_readGarland_86 : decode cX6_readGarland 86 = .ok (.aload_n 0, 1) := by decide +kernel
theorem dX6_readGarland_87 : decode cX6_readGarland 87 = .ok (.getfield 12, 3) := by decide +kernel
theorem dX6_readGarland_90 : decode cX6_readGarland 90 = .ok (.invokevirtual 85, 3) := by decide +kernel
theorem dX6_readGarland_93 : decode cX6_readGarland 93 = .ok (.aload_n 0, 1) := by decide +kernel
theorem dX6_readGarland_94 : decode cX6_readGarland 94 = .ok (.getfield 12, 3) := by decide +kernel
theorem dX6_readGarland_97 : decode cX6_readGarland 97 = .ok (.iload_n 3, 1) := by decide +kernel
theorem dX6_readGarland_98 : decode cX6_readGarland 98 = .ok (.aload_n 0, 1) := by decide +kernel
theorem dX6_readGarland_99 : decode cX6_readGarland 99 = .ok (.getfield 55, 3) := by decide +kernel
theorem dX6_readGarland_102 : decode cX6_readGarland 102 = .ok (.iload_n 2, 1) := by decide +kernel
theorem dX6_readGarland_103 : decode cX6_readGarland 103 = .ok (.invokevirtual 177, 3) := by decide +kernel
theorem dX6_readGarland_106 : decode cX6_readGarland 106 = .ok (.iload_n 3, 1) := by decide +kernel
theorem dX6_readGarland_107 : decode cX6_readGarland 107 = .ok (.ireturn, 1) := by decide +kernel
set_option maxRecDepth 20000 in
theorem ggX6_undo_X1_size : GoodIn wsX6_undo wsX1_size := goodIn_r _ [7, 8, 43, 44, 45] (by decide +kernel) (by decide +kernel)
set_option maxRecDepth 20000 in
theorem gX6_undo_X1_size : GoodIn wsX6_undo (wsV RX6 181 RX1 yX1_size wsX1_size) := goodIn_app (goodIn_of _ (by decide +kernel)) ggX6_undo_X1_size
set_option maxRecDepth 20000 in
theorem ggX6_undo_X1_goBack : GoodIn wsX6_undo wsX1_goBack := goodIn_r _ [12, 8, 13, 14, 15, 16, 6, 17, 18, 19, 20, 21, 22, 23, 24, 25, 26, 27, 28, 29, 30, 31, 32, 33, 34, 43, 44, 45, 46, 47] (by decide +kernel) (by decide +kernel)
set_option maxRecDepth 20000 in
theorem gX6_undo_X1_goBack : GoodIn wsX6_undo (wsV RX6 184 RX1 yX1_goBack wsX1_goBack) := goodIn_app (goodIn_of _ (by decide +kernel)) ggX6_undo_X1_goBack
theorem dX6_undo_0 : decode cX6_undo 0 = .ok (.aload_n 0, 1) := by decide +kernel
theorem dX6_undo_1 : decode cX6_undo 1 = .ok (.getfield 35, 3) := by decide +kernel
theorem dX6_undo_4 : decode cX6_undo 4 = .ok (.invokevirtual 181, 3) := by decide +kernel
theorem dX6_undo_7 : decode cX6_undo 7 = .ok (.ifCond .ne 6, 3) := by decide +kernel
theorem dX6_undo_10 : decode cX6_undo 10 = .ok (.bipush (-5), 2) := by decide +kernel
theorem dX6_undo_12 : decode cX6_undo 12 = .ok (.ireturn, 1) := by decide +kernel
theorem dX6_undo_13 : decode cX6_undo 13 = .ok (.aload_n 0, 1) := by decide +kernel
theorem dX6_undo_14 : decode cX6_undo 14 = .ok (.getfield 35, 3) := by decide +kernel
theorem dX6_undo_17 : decode cX6_undo 17 = .ok (.aload_n 0, 1) := by decide +kernel
theorem dX6_undo_18 : decode cX6_undo 18 = .ok (.getfield 12, 3) := by decide +kernel
theorem dX6_undo_21 : decode cX6_undo 21 = .ok (.invokevirtual 184, 3) := by decide +kernel
theorem dX6_undo_24 : decode cX6_undo 24 = .ok (.aload_n 0, 1) := by decide +kernel
theorem dX6_undo_25 : decode cX6_undo 25 = .ok (.getfield 35, 3) := by decide +kernel
theorem dX6_undo_28 : decode cX6_undo 28 = .ok (.invokevirtual 181, 3) := by decide +kernel
theorem dX6_undo_31 : decode cX6_undo 31 = .ok (.ireturn, 1) := by decide +kernel
set_option maxRecDepth 20000 in
theorem ggX6_keep_X4_saveTo : GoodIn wsX6_keep wsX4_saveTo := goodIn_r _ [9, 10, 11, 12, 13, 14, 15, 16, 17, 18, 19, 20, 52, 53] (by decide +kernel) (by decide +kernel)
set_option maxRecDepth 20000 in
theorem gX6_keep_X4_saveTo : GoodIn wsX6_keep (wsV RX6 187 RX4 yX4_saveTo wsX4_saveTo) := goodIn_app (goodIn_of _ (by decide +kernel)) ggX6_keep_X4_saveTo
set_option maxRecDepth 20000 in
theorem ggX6_keep_X2_garlands : GoodIn wsX6_keep wsX2_garlands := goodIn_r _ [25, 26, 27, 28, 29, 8, 30, 31, 32, 33, 34, 35, 36, 37, 10, 38, 39, 40, 14, 41, 16, 42, 43, 54, 52, 53] (by decide +kernel) (by decide +kernel)
set_option maxRecDepth 20000 in
theorem gX6_keep_X2_garlands : GoodIn wsX6_keep (wsV RX6 191 RX2 yX2_garlands wsX2_garlands) := goodIn_app (goodIn_of _ (by decide +kernel)) ggX6_keep_X2_garlands
theorem dX6_keep_0 : decode cX6_keep 0 = .ok (.aload_n 0, 1) := by decide +kernel
theorem dX6_keep_1 : decode cX6_keep 1 = .ok (.getfield 12, 3) := by decide +kernel
theorem dX6_keep_4 : decode cX6_keep 4 = .ok (.aload_n 0, 1) := by decide +kernel
theorem dX6_keep_5 : decode cX6_keep 5 = .ok (.getfield 51, 3) := by decide +kernel
theorem dX6_keep_8 : decode cX6_keep 8 = .ok (.iconst 0, 1) := by decide +kernel
theorem dX6_keep_9 : decode cX6_keep 9 = .ok (.invokevirtual 187, 3) := by decide +kernel
theorem dX6_keep_12 : decode cX6_keep 12 = .ok (.aload_n 0, 1) := by decide +kernel
theorem dX6_keep_13 : decode cX6_keep 13 = .ok (.iconst 1, 1) := by decide +kernel
theorem dX6_keep_14 : decode cX6_keep 14 = .ok (.putfield 58, 3) := by decide +kernel
theorem dX6_keep_17 : decode cX6_keep 17 = .ok (.aload_n 0, 1) := by decide +kernel
theorem dX6_keep_18 : decode cX6_keep 18 = .ok (.getfield 21, 3) := by decide +kernel
theorem dX6_keep_21 : decode cX6_keep 21 = .ok (.invokevirtual 191, 3) := by decide +kernel
theorem dX6_keep_24 : decode cX6_keep 24 = .ok (.ireturn, 1) := by decide +kernel
set_option maxRecDepth 20000 in
theorem ggX6_restore_X1_remember : GoodIn wsX6_restore wsX1_remember := goodIn_r _ [10, 11, 12, 13, 14, 15, 16, 9, 17, 18, 19, 20, 21, 22, 23, 24, 25, 26, 27, 28, 29, 30, 31, 32, 33, 69, 70, 71, 72, 73] (by decide +kernel) (by decide +kernel)
set_option maxRecDepth 20000 in
theorem gX6_restore_X1_remember : GoodIn wsX6_restore (wsV RX6 85 RX1 yX1_remember wsX1_remember) := goodIn_app (goodIn_of _ (by decide +kernel)) ggX6_restore_X1_remember
set_option maxRecDepth 20000 in
theorem ggX6_restore_X4_loadFrom : GoodIn wsX6_restore wsX4_loadFrom := goodIn_r _ [37, 23, 24, 25, 26, 27, 28, 29, 30, 31, 32, 33, 72, 73] (by decide +kernel) (by decide +kernel)
set_option maxRecDepth 20000 in
theorem gX6_restore_X4_loadFrom : GoodIn wsX6_restore (wsV RX6 194 RX4 yX4_loadFrom wsX4_loadFrom) := goodIn_app (goodIn_of _ (by decide +kernel)) ggX6_restore_X4_loadFrom
set_option maxRecDepth 20000 in
theorem ggX6_restore_X2_garlands : GoodIn wsX6_restore wsX2_garlands := goodIn_r _ [42, 43, 44, 45, 46, 21, 47, 48, 49, 50, 51, 52, 53, 54, 23, 55, 56, 57, 27, 58, 29, 59, 60, 74, 72, 73] (by decide +kernel) (by decide +kernel)
set_option maxRecDepth 20000 in
theorem gX6_restore_X2_garlands : GoodIn wsX6_restore (wsV RX6 191 RX2 yX2_garlands wsX2_garlands) := goodIn_app (goodIn_of _ (by decide +kernel)) ggX6_restore_X2_garlands
theorem dX6_restore_0 : decode cX6_restore 0 = .ok (.aload_n 0, 1) := by decide +kernel
theorem dX6_restore_1 : decode cX6_restore 1 = .ok (.getfield 58, 3) := by decide +kernel
theorem dX6_restore_4 : decode cX6_restore 4 = .ok (.ifCond .ne 6, 3) := by decide +kernel
theorem dX6_restore_7 : decode cX6_restore 7 = .ok (.bipush (-5), 2) := by decide +kernel
theorem dX6_restore_9 : decode cX6_restore 9 = .ok (.ireturn, 1) := by decide +kernel
theorem dX6_restore_10 : decode cX6_restore 10 = .ok (.aload_n 0, 1) := by decide +kernel
theorem dX6_restore_11 : decode cX6_restore 11 = .ok (.getfield 35, 3) := by decide +kernel
theorem dX6_restore_14 : decode cX6_restore 14 = .ok (.aload_n 0, 1) := by decide +kernel
theorem dX6_restore_15 : decode cX6_restore 15 = .ok (.getfield 12, 3) := by decide +kernel
theorem dX6_restore_18 : decode cX6_restore 18 = .ok (.invokevirtual 85, 3) := by decide +kernel
theorem dX6_restore_21 : decode cX6_restore 21 = .ok (.aload_n 0, 1) := by decide +kernel
theorem dX6_restore_22 : decode cX6_restore 22 = .ok (.getfield 12, 3) := by decide +kernel
theorem dX6_restore_25 : decode cX6_restore 25 = .ok (.aload_n 0, 1) := by decide +kernel
theorem dX6_restore_26 : decode cX6_restore 26 = .ok (.getfield 51, 3) := by decide +kernel
theorem dX6_restore_29 : decode cX6_restore 29 = .ok (.iconst 0, 1) := by decide +kernel
theorem dX6_restore_30 : decode cX6_restore 30 = .ok (.invokevirtual 194, 3) := by decide +kernel
theorem dX6_restore_33 : decode cX6_restore 33 = .ok (.aload_n 0, 1) := by decide +kernel
theorem dX6_restore_34 : decode cX6_restore 34 = .ok (.getfield 21, 3) := by decide +kernel
theorem dX6_restore_37 : decode cX6_restore 37 = .ok (.invokevirtual 191, 3) := by decide +kernel
theorem dX6_restore_40 : decode cX6_restore 40 = .ok (.ireturn, 1) := by decide +kernel
set_option maxRecDepth 20000 in
theorem ggX6_kind_X4_hasKind : GoodIn wsX6_kind wsX4_hasKind := goodIn_r _ [7, 8, 9, 10, 6, 11, 12, 13, 14, 15, 16, 17, 18, 19, 20, 21, 62, 63] (by decide +kernel) (by decide +kernel)
set_option maxRecDepth 20000 in
theorem gX6_kind_X4_hasKind : GoodIn wsX6_kind (wsV RX6 62 RX4 yX4_hasKind wsX4_hasKind) := goodIn_app (goodIn_of _ (by decide +kernel)) ggX6_kind_X4_hasKind
set_option maxRecDepth 20000 in
theorem ggX6_kind_X4_leftHand : GoodIn wsX6_kind wsX4_leftHand := goodIn_r _ [25, 12, 13, 14, 15, 16, 17, 18, 62, 63] (by decide +kernel) (by decide +kernel)
set_option maxRecDepth 20000 in
theorem gX6_kind_X4_leftHand : GoodIn wsX6_kind (wsV RX6 70 RX4 yX4_leftHand wsX4_leftHand) := goodIn_app (goodIn_of _ (by decide +kernel)) ggX6_kind_X4_leftHand
set_option maxRecDepth 20000 in
theorem ggX6_kind_X4_rightHand : GoodIn wsX6_kind wsX4_rightHand := goodIn_r _ [29, 12, 13, 14, 15, 16, 17, 18, 62, 63] (by decide +kernel) (by decide +kernel)
set_option maxRecDepth 20000 in
theorem gX6_kind_X4_rightHand : GoodIn wsX6_kind (wsV RX6 74 RX4 yX4_rightHand wsX4_rightHand) := goodIn_app (goodIn_of _ (by decide +kernel)) ggX6_kind_X4_rightHand
set_option maxRecDepth 20000 in
theorem ggX6_kind_X6_dollOf : GoodIn wsX6_kind wsX6_dollOf := goodIn_r _ [32, 33, 34, 20, 35] (by decide +kernel) (by decide +kernel)
set_option maxRecDepth 20000 in
theorem gX6_kind_X6_dollOf : GoodIn wsX6_kind (va_wsS RX6 107 yX6_dollOf wsX6_dollOf) := goodIn_app (goodIn_of _ (by decide +kernel)) ggX6_kind_X6_dollOf
set_option maxRecDepth 20000 in
theorem ggX6_kind_X2_dollsLike : GoodIn wsX6_kind wsX2_dollsLike := goodIn_r _ [40, 41, 42, 43, 44, 6, 45, 12, 13, 14, 15, 16, 17, 18, 46, 47, 48, 49, 50, 51, 52, 53, 34, 20, 35, 64, 62, 63] (by decide +kernel) (by decide +kernel)
set_option maxRecDepth 20000 in
theorem gX6_kind_X2_dollsLike : GoodIn wsX6_kind (wsV RX6 197 RX2 yX2_dollsLike wsX2_dollsLike) := goodIn_app (goodIn_of _ (by decide +kernel)) ggX6_kind_X2_dollsLike
set_option maxRecDepth 20000 in
theorem ggX6_kind_X6_oneIf : GoodIn wsX6_kind wsX6_oneIf := goodIn_r _ [35] (by decide +kernel) (by decide +kernel)
set_option maxRecDepth 20000 in
theorem gX6_kind_X6_oneIf : GoodIn wsX6_kind (va_wsS RX6 200 yX6_oneIf wsX6_oneIf) := goodIn_app (goodIn_of _ (by decide +kernel)) ggX6_kind_X6_oneIf
theorem dX6_kind_0 : decode cX6_kind 0 = .ok (.aload_n 0, 1) := by decide +kernel
theorem dX6_kind_1 : decode cX6_kind 1 = .ok (.getfield 12, 3) := by decide +kernel
theorem dX6_kind_4 : decode cX6_kind 4 = .ok (.iload_n 1, 1) := by decide +kernel
theorem dX6_kind_5 : decode cX6_kind 5 = .ok (.invokevirtual 62, 3) := by decide +kernel
theorem dX6_kind_8 : decode cX6_kind 8 = .ok (.ifCond .ne 5, 3) := by decide +kernel
theorem dX6_kind_11 : decode cX6_kind 11 = .ok (.iconst (-1), 1) := by decide +kernel
theorem dX6_kind_12 : decode cX6_kind 12 = .ok (.ireturn, 1) := by decide +kernel
theorem dX6_kind_13 : decode cX6_kind 13 = .ok (.iload_n 2, 1) := by decide +kernel
theorem dX6_kind_14 : decode cX6_kind 14 = .ok (.tableswitch 119 0 4 #[34, 43, 52, 78, 91], 34) := by decide +kernel
theorem dX6_kind_48 : decode cX6_kind 48 = .ok (.aload_n 0, 1) := by decide +kernel
theorem dX6_kind_49 : decode cX6_kind 49 = .ok (.getfield 12, 3) := by decide +kernel
theorem dX6_kind_52 : decode cX6_kind 52 = .ok (.iload_n 1, 1) := by decide +kernel
theorem dX6_kind_53 : decode cX6_kind 53 = .ok (.invokevirtual 70, 3) := by decide +kernel
theorem dX6_kind_56 : decode cX6_kind 56 = .ok (.ireturn, 1) := by decide +kernel
theorem dX6_kind_57 : decode cX6_kind 57 = .ok (.aload_n 0, 1) := by decide +kernel
theorem dX6_kind_58 : decode cX6_kind 58 = .ok (.getfield 12, 3) := by decide +kernel
theorem dX6_kind_61 : decode cX6_kind 61 = .ok (.iload_n 1, 1) := by decide +kernel
theorem dX6_kind_62 : decode cX6_kind 62 = .ok (.invokevirtual 74, 3) := by decide +kernel
theorem dX6_kind_65 : decode cX6_kind 65 = .ok (.ireturn, 1) := by decide +kernel
theorem dX6_kind_66 : decode cX6_kind 66 = .ok (.aload_n 0, 1) := by decide +kernel
theorem dX6_kind_67 : decode cX6_kind 67 = .ok (.getfield 21, 3) := by decide +kernel
theorem dX6_kind_70 : decode cX6_kind 70 = .ok (.iload_n 1, 1) := by decide +kernel
theorem dX6_kind_71 : decode cX6_kind 71 = .ok (.iconst 0, 1) := by decide +kernel
theorem dX6_kind_72 : decode cX6_kind 72 = .ok (.invokestatic 107, 3) := by decide +kernel
theorem dX6_kind_75 : decode cX6_kind 75 = .ok (.invokevirtual 197, 3) := by decide +kernel
theorem dX6_kind_78 : decode cX6_kind 78 = .ok (.aload_n 0, 1) := by decide +kernel
theorem dX6_kind_79 : decode cX6_kind 79 = .ok (.getfield 21, 3) := by decide +kernel
theorem dX6_kind_82 : decode cX6_kind 82 = .ok (.iload_n 1, 1) := by decide +kernel
theorem dX6_kind_83 : decode cX6_kind 83 = .ok (.iconst 1, 1) := by decide +kernel
theorem dX6_kind_84 : decode cX6_kind 84 = .ok (.invokestatic 107, 3) := by decide +kernel
theorem dX6_kind_87 : decode cX6_kind 87 = .ok (.invokevirtual 197, 3) := by decide +kernel
theorem dX6_kind_90 : decode cX6_kind 90 = .ok (.iadd, 1) := by decide +kernel
theorem dX6_kind_91 : decode cX6_kind 91 = .ok (.ireturn, 1) := by decide +kernel
theorem dX6_kind_92 : decode cX6_kind 92 = .ok (.aload_n 0, 1) := by decide +kernel
theorem dX6_kind_93 : decode cX6_kind 93 = .ok (.getfield 21, 3) := by decide +kernel
theorem dX6_kind_96 : decode cX6_kind 96 = .ok (.iload_n 1, 1) := by decide +kernel
theorem dX6_kind_97 : decode cX6_kind 97 = .ok (.iconst 1, 1) := by decide +kernel
theorem dX6_kind_98 : decode cX6_kind 98 = .ok (.invokestatic 107, 3) := by decide +kernel
theorem dX6_kind_101 : decode cX6_kind 101 = .ok (.invokevirtual 197, 3) := by decide +kernel
theorem dX6_kind_104 : decode cX6_kind 104 = .ok (.ireturn, 1) := by decide +kernel
theorem dX6_kind_105 : decode cX6_kind 105 = .ok (.aload_n 0, 1) := by decide +kernel
theorem dX6_kind_106 : decode cX6_kind 106 = .ok (.getfield 12, 3) := by decide +kernel
theorem dX6_kind_109 : decode cX6_kind 109 = .ok (.iload_n 1, 1) := by decide +kernel
theorem dX6_kind_110 : decode cX6_kind 110 = .ok (.invokevirtual 70, 3) := by decide +kernel
theorem dX6_kind_113 : decode cX6_kind 113 = .ok (.aload_n 0, 1) := by decide +kernel
theorem dX6_kind_114 : decode cX6_kind 114 = .ok (.getfield 12, 3) := by decide +kernel
theorem dX6_kind_117 : decode cX6_kind 117 = .ok (.iload_n 1, 1) := by decide +kernel
theorem dX6_kind_118 : decode cX6_kind 118 = .ok (.invokevirtual 74, 3) := by decide +kernel
theorem dX6_kind_121 : decode cX6_kind 121 = .ok (.if_icmp .ne 7, 3) := by decide +kernel
theorem dX6_kind_124 : decode cX6_kind 124 = .ok (.iconst 1, 1) := by decide +kernel
theorem dX6_kind_125 : decode cX6_kind 125 = .ok (.goto 4, 3) := by decide +kernel
theorem dX6_kind_128 : decode cX6_kind 128 = .ok (.iconst 0, 1) := by decide +kernel
theorem dX6_kind_129 : decode cX6_kind 129 = .ok (.invokestatic 200, 3) := by decide +kernel
theorem dX6_kind_132 : decode cX6_kind 132 = .ok (.ireturn, 1) := by decide +kernel
theorem dX6_kind_133 : decode cX6_kind 133 = .ok (.bipush (-2), 2) := by decide +kernel
theorem dX6_kind_135 : decode cX6_kind 135 = .ok (.ireturn, 1) := by decide +kernel
set_option maxRecDepth 20000 in
theorem ggX6_garland_X4_hasGarland : GoodIn wsX6_garland wsX4_hasGarland := goodIn_r _ [7, 8, 9, 10, 11, 12, 13, 6, 14, 15, 16, 17, 18, 19, 20, 21, 100, 101] (by decide +kernel) (by decide +kernel)
set_option maxRecDepth 20000 in
theorem gX6_garland_X4_hasGarland : GoodIn wsX6_garland (wsV RX6 118 RX4 yX4_hasGarland wsX4_hasGarland) := goodIn_app (goodIn_of _ (by decide +kernel)) ggX6_garland_X4_hasGarland
set_option maxRecDepth 20000 in
theorem ggX6_garland_X4_lengthOf : GoodIn wsX6_garland wsX4_lengthOf := goodIn_r _ [14, 15, 16, 17, 18, 19, 20, 21, 100, 101] (by decide +kernel) (by decide +kernel)
set_option maxRecDepth 20000 in
theorem gX6_garland_X4_lengthOf : GoodIn wsX6_garland (wsV RX6 130 RX4 yX4_lengthOf wsX4_lengthOf) := goodIn_app (goodIn_of _ (by decide +kernel)) ggX6_garland_X4_lengthOf
set_option maxRecDepth 20000 in
theorem ggX6_garland_X4_firstDoll : GoodIn wsX6_garland wsX4_firstDoll := goodIn_r _ [26, 27, 28, 29, 6, 30, 15, 31, 32, 33, 34, 16, 17, 18, 19, 20, 21, 100, 101] (by decide +kernel) (by decide +kernel)
set_option maxRecDepth 20000 in
theorem gX6_garland_X4_firstDoll : GoodIn wsX6_garland (wsV RX6 124 RX4 yX4_firstDoll wsX4_firstDoll) := goodIn_app (goodIn_of _ (by decide +kernel)) ggX6_garland_X4_firstDoll
set_option maxRecDepth 20000 in
theorem ggX6_garland_X4_leftOf : GoodIn wsX6_garland wsX4_leftOf := goodIn_r _ [38, 15, 39, 9, 40, 41, 42, 16, 17, 18, 19, 20, 21, 100, 101] (by decide +kernel) (by decide +kernel)
set_option maxRecDepth 20000 in
theorem gX6_garland_X4_leftOf : GoodIn wsX6_garland (wsV RX6 204 RX4 yX4_leftOf wsX4_leftOf) := goodIn_app (goodIn_of _ (by decide +kernel)) ggX6_garland_X4_leftOf
set_option maxRecDepth 20000 in
theorem ggX6_garland_X4_lastDoll : GoodIn wsX6_garland wsX4_lastDoll := goodIn_r _ [46, 11, 12, 13, 6, 14, 15, 16, 17, 18, 19, 20, 21, 27, 28, 29, 30, 31, 32, 33, 34, 100, 101] (by decide +kernel) (by decide +kernel)
set_option maxRecDepth 20000 in
theorem gX6_garland_X4_lastDoll : GoodIn wsX6_garland (wsV RX6 121 RX4 yX4_lastDoll wsX4_lastDoll) := goodIn_app (goodIn_of _ (by decide +kernel)) ggX6_garland_X4_lastDoll
set_option maxRecDepth 20000 in
theorem ggX6_garland_X4_rightOf : GoodIn wsX6_garland wsX4_rightOf := goodIn_r _ [50, 15, 39, 9, 40, 41, 42, 16, 17, 18, 19, 20, 21, 100, 101] (by decide +kernel) (by decide +kernel)
set_option maxRecDepth 20000 in
theorem gX6_garland_X4_rightOf : GoodIn wsX6_garland (wsV RX6 207 RX4 yX4_rightOf wsX4_rightOf) := goodIn_app (goodIn_of _ (by decide +kernel)) ggX6_garland_X4_rightOf
set_option maxRecDepth 20000 in
theorem ggX6_garland_X2_mirroredIn : GoodIn wsX6_garland wsX2_mirroredIn := goodIn_r _ [55, 56, 57, 12, 13, 6, 14, 15, 16, 17, 18, 19, 20, 21, 58, 28, 29, 30, 31, 32, 33, 34, 39, 9, 40, 59, 60, 102, 100, 101] (by decide +kernel) (by decide +kernel)
set_option maxRecDepth 20000 in
theorem gX6_garland_X2_mirroredIn : GoodIn wsX6_garland (wsV RX6 143 RX2 yX2_mirroredIn wsX2_mirroredIn) := goodIn_app (goodIn_of _ (by decide +kernel)) ggX6_garland_X2_mirroredIn
set_option maxRecDepth 20000 in
theorem ggX6_garland_X2_kindsIn : GoodIn wsX6_garland wsX2_kindsIn := goodIn_r _ [64, 56, 57, 12, 13, 6, 14, 15, 16, 17, 18, 19, 20, 21, 58, 28, 29, 30, 31, 32, 33, 34, 41, 9, 42, 102, 100, 101] (by decide +kernel) (by decide +kernel)
set_option maxRecDepth 20000 in
theorem gX6_garland_X2_kindsIn : GoodIn wsX6_garland (wsV RX6 210 RX2 yX2_kindsIn wsX2_kindsIn) := goodIn_app (goodIn_of _ (by decide +kernel)) ggX6_garland_X2_kindsIn
set_option maxRecDepth 20000 in
theorem ggX6_garland_X2_isOwnMirror : GoodIn wsX6_garland wsX2_isOwnMirror := goodIn_r _ [68, 69, 70, 71, 54, 72, 56, 57, 12, 13, 6, 14, 15, 16, 17, 18, 19, 20, 21, 58, 28, 29, 30, 31, 32, 33, 34, 73, 9, 74, 102, 100, 101] (by decide +kernel) (by decide +kernel)
set_option maxRecDepth 20000 in
theorem gX6_garland_X2_isOwnMirror : GoodIn wsX6_garland (wsV RX6 137 RX2 yX2_isOwnMirror wsX2_isOwnMirror) := goodIn_app (goodIn_of _ (by decide +kernel)) ggX6_garland_X2_isOwnMirror
set_option maxRecDepth 20000 in
theorem ggX6_garland_X6_oneIf : GoodIn wsX6_garland wsX6_oneIf := goodIn_r _ [60] (by decide +kernel) (by decide +kernel)
set_option maxRecDepth 20000 in
theorem gX6_garland_X6_oneIf : GoodIn wsX6_garland (va_wsS RX6 200 yX6_oneIf wsX6_oneIf) := goodIn_app (goodIn_of _ (by decide +kernel)) ggX6_garland_X6_oneIf
set_option maxRecDepth 20000 in
theorem ggX6_garland_X2_repeatOf : GoodIn wsX6_garland wsX2_repeatOf := goodIn_r _ [79, 56, 57, 12, 13, 6, 14, 15, 16, 17, 18, 19, 20, 21, 80, 81, 82, 54, 83, 58, 28, 29, 30, 31, 32, 33, 34, 102, 100, 101] (by decide +kernel) (by decide +kernel)
set_option maxRecDepth 20000 in
theorem gX6_garland_X2_repeatOf : GoodIn wsX6_garland (wsV RX6 213 RX2 yX2_repeatOf wsX2_repeatOf) := goodIn_app (goodIn_of _ (by decide +kernel)) ggX6_garland_X2_repeatOf
set_option maxRecDepth 20000 in
theorem ggX6_garland_X2_lowestAlike : GoodIn wsX6_garland wsX2_lowestAlike := goodIn_r _ [87, 88, 89, 90, 54, 91, 56, 57, 12, 13, 6, 14, 15, 16, 17, 18, 19, 20, 21, 58, 28, 29, 30, 31, 32, 33, 34, 69, 70, 71, 72, 73, 9, 74, 102, 100, 101] (by decide +kernel) (by decide +kernel)
set_option maxRecDepth 20000 in
theorem gX6_garland_X2_lowestAlike : GoodIn wsX6_garland (wsV RX6 216 RX2 yX2_lowestAlike wsX2_lowestAlike) := goodIn_app (goodIn_of _ (by decide +kernel)) ggX6_garland_X2_lowestAlike
theorem dX6_garland_0 : decode cX6_garland 0 = .ok (.aload_n 0, 1) := by decide +kernel
theorem dX6_garland_1 : decode cX6_garland 1 = .ok (.getfield 12, 3) := by decide +kernel
theorem dX6_garland_4 : decode cX6_garland 4 = .ok (.iload_n 1, 1) := by decide +kernel
theorem dX6_garland_5 : decode cX6_garland 5 = .ok (.invokevirtual 118, 3) := by decide +kernel
theorem dX6_garland_8 : decode cX6_garland 8 = .ok (.ifCond .ne 5, 3) := by decide +kernel
theorem dX6_garland_11 : decode cX6_garland 11 = .ok (.iconst (-1), 1) := by decide +kernel
theorem dX6_garland_12 : decode cX6_garland 12 = .ok (.ireturn, 1) := by decide +kernel
theorem dX6_garland_13 : decode cX6_garland 13 = .ok (.iload_n 2, 1) := by decide +kernel
theorem dX6_garland_14 : decode cX6_garland 14 = .ok (.tableswitch 135 0 7 #[46, 55, 71, 87, 96, 105, 117, 126], 46) := by decide +kernel
theorem dX6_garland_60 : decode cX6_garland 60 = .ok (.aload_n 0, 1) := by decide +kernel
theorem dX6_garland_61 : decode cX6_garland 61 = .ok (.getfield 12, 3) := by decide +kernel
theorem dX6_garland_64 : decode cX6_garland 64 = .ok (.iload_n 1, 1) := by decide +kernel
theorem dX6_garland_65 : decode cX6_garland 65 = .ok (.invokevirtual 130, 3) := by decide +kernel
theorem dX6_garland_68 : decode cX6_garland 68 = .ok (.ireturn, 1) := by decide +kernel
theorem dX6_garland_69 : decode cX6_garland 69 = .ok (.aload_n 0, 1) := by decide +kernel
theorem dX6_garland_70 : decode cX6_garland 70 = .ok (.getfield 12, 3) := by decide +kernel
theorem dX6_garland_73 : decode cX6_garland 73 = .ok (.aload_n 0, 1) := by decide +kernel
theorem dX6_garland_74 : decode cX6_garland 74 = .ok (.getfield 12, 3) := by decide +kernel
theorem dX6_garland_77 : decode cX6_garland 77 = .ok (.iload_n 1, 1) := by decide +kernel
theorem dX6_garland_78 : decode cX6_garland 78 = .ok (.invokevirtual 124, 3) := by decide +kernel
theorem dX6_garland_81 : decode cX6_garland 81 = .ok (.invokevirtual 204, 3) := by decide +kernel
theorem dX6_garland_84 : decode cX6_garland 84 = .ok (.ireturn, 1) := by decide +kernel
theorem dX6_garland_85 : decode cX6_garland 85 = .ok (.aload_n 0, 1) := by decide +kernel
theorem dX6_garland_86 : decode cX6_garland 86 = .ok (.getfield 12, 3) := by decide +kernel
theorem dX6_garland_89 : decode cX6_garland 89 = .ok (.aload_n 0, 1) := by decide +kernel
theorem dX6_garland_90 : decode cX6_garland 90 = .ok (.getfield 12, 3) := by decide +kernel
theorem dX6_garland_93 : decode cX6_garland 93 = .ok (.iload_n 1, 1) := by decide +kernel
theorem dX6_garland_94 : decode cX6_garland 94 = .ok (.invokevirtual 121, 3) := by decide +kernel
theorem dX6_garland_97 : decode cX6_garland 97 = .ok (.invokevirtual 207, 3) := by decide +kernel
theorem dX6_garland_100 : decode cX6_garland 100 = .ok (.ireturn, 1) := by decide +kernel
theorem dX6_garland_101 : decode cX6_garland 101 = .ok (.aload_n 0, 1) := by decide +kernel
theorem dX6_garland_102 : decode cX6_garland 102 = .ok (.getfield 21, 3) := by decide +kernel
theorem dX6_garland_105 : decode cX6_garland 105 = .ok (.iload_n 1, 1) := by decide +kernel
theorem dX6_garland_106 : decode cX6_garland 106 = .ok (.invokevirtual 143, 3) := by decide +kernel
theorem dX6_garland_109 : decode cX6_garland 109 = .ok (.ireturn, 1) := by decide +kernel
theorem dX6_garland_110 : decode cX6_garland 110 = .ok (.aload_n 0, 1) := by decide +kernel
theorem dX6_garland_111 : decode cX6_garland 111 = .ok (.getfield 21, 3) := by decide +kernel
theorem dX6_garland_114 : decode cX6_garland 114 = .ok (.iload_n 1, 1) := by decide +kernel
theorem dX6_garland_115 : decode cX6_garland 115 = .ok (.invokevirtual 210, 3) := by decide +kernel
theorem dX6_garland_118 : decode cX6_garland 118 = .ok (.ireturn, 1) := by decide +kernel
theorem dX6_garland_119 : decode cX6_garland 119 = .ok (.aload_n 0, 1) := by decide +kernel
theorem dX6_garland_120 : decode cX6_garland 120 = .ok (.getfield 21, 3) := by decide +kernel
theorem dX6_garland_123 : decode cX6_garland 123 = .ok (.iload_n 1, 1) := by decide +kernel
theorem dX6_garland_124 : decode cX6_garland 124 = .ok (.invokevirtual 137, 3) := by decide +kernel
theorem dX6_garland_127 : decode cX6_garland 127 = .ok (.invokestatic 200, 3) := by decide +kernel
theorem dX6_garland_130 : decode cX6_garland 130 = .ok (.ireturn, 1) := by decide +kernel
theorem dX6_garland_131 : decode cX6_garland 131 = .ok (.aload_n 0, 1) := by decide +kernel
theorem dX6_garland_132 : decode cX6_garland 132 = .ok (.getfield 21, 3) := by decide +kernel
theorem dX6_garland_135 : decode cX6_garland 135 = .ok (.iload_n 1, 1) := by decide +kernel
theorem dX6_garland_136 : decode cX6_garland 136 = .ok (.invokevirtual 213, 3) := by decide +kernel
theorem dX6_garland_139 : decode cX6_garland 139 = .ok (.ireturn, 1) := by decide +kernel
theorem dX6_garland_140 : decode cX6_garland 140 = .ok (.aload_n 0, 1) := by decide +kernel
theorem dX6_garland_141 : decode cX6_garland 141 = .ok (.getfield 21, 3) := by decide +kernel
theorem dX6_garland_144 : decode cX6_garland 144 = .ok (.iload_n 1, 1) := by decide +kernel
theorem dX6_garland_145 : decode cX6_garland 145 = .ok (.invokevirtual 216, 3) := by decide +kernel
theorem dX6_garland_148 : decode cX6_garland 148 = .ok (.ireturn, 1) := by decide +kernel
theorem dX6_garland_149 : decode cX6_garland 149 = .ok (.bipush (-2), 2) := by decide +kernel
theorem dX6_garland_151 : decode cX6_garland 151 = .ok (.ireturn, 1) := by decide +kernel
set_option maxRecDepth 20000 in
theorem ggX6_doll_X4_hasGarland : GoodIn wsX6_doll wsX4_hasGarland := goodIn_r _ [6, 7, 8, 9, 10, 11, 12, 5, 13, 14, 15, 16, 17, 18, 19, 20, 56, 57] (by decide +kernel) (by decide +kernel)
set_option maxRecDepth 20000 in
theorem gX6_doll_X4_hasGarland : GoodIn wsX6_doll (wsV RX6 118 RX4 yX4_hasGarland wsX4_hasGarland) := goodIn_app (goodIn_of _ (by decide +kernel)) ggX6_doll_X4_hasGarland
set_option maxRecDepth 20000 in
theorem ggX6_doll_X4_lengthOf : GoodIn wsX6_doll wsX4_lengthOf := goodIn_r _ [13, 14, 15, 16, 17, 18, 19, 20, 56, 57] (by decide +kernel) (by decide +kernel)
set_option maxRecDepth 20000 in
theorem gX6_doll_X4_lengthOf : GoodIn wsX6_doll (wsV RX6 130 RX4 yX4_lengthOf wsX4_lengthOf) := goodIn_app (goodIn_of _ (by decide +kernel)) ggX6_doll_X4_lengthOf
set_option maxRecDepth 20000 in
theorem ggX6_doll_X6_isBelow : GoodIn wsX6_doll wsX6_isBelow := goodIn_r _ [9] (by decide +kernel) (by decide +kernel)
set_option maxRecDepth 20000 in
theorem gX6_doll_X6_isBelow : GoodIn wsX6_doll (va_wsS RX6 66 yX6_isBelow wsX6_isBelow) := goodIn_app (goodIn_of _ (by decide +kernel)) ggX6_doll_X6_isBelow
set_option maxRecDepth 20000 in
theorem ggX6_doll_X4_dollAt : GoodIn wsX6_doll wsX4_dollAt := goodIn_r _ [26, 14, 27, 28, 29, 5, 30, 15, 16, 17, 18, 19, 20, 56, 57] (by decide +kernel) (by decide +kernel)
set_option maxRecDepth 20000 in
theorem gX6_doll_X4_dollAt : GoodIn wsX6_doll (wsV RX6 219 RX4 yX4_dollAt wsX4_dollAt) := goodIn_app (goodIn_of _ (by decide +kernel)) ggX6_doll_X4_dollAt
set_option maxRecDepth 20000 in
theorem ggX6_doll_X6_kindOf : GoodIn wsX6_doll wsX6_kindOf := goodIn_r _ [33] (by decide +kernel) (by decide +kernel)
set_option maxRecDepth 20000 in
theorem gX6_doll_X6_kindOf : GoodIn wsX6_doll (va_wsS RX6 223 yX6_kindOf wsX6_kindOf) := goodIn_app (goodIn_of _ (by decide +kernel)) ggX6_doll_X6_kindOf
set_option maxRecDepth 20000 in
theorem ggX6_doll_X6_isMirrored : GoodIn wsX6_doll wsX6_isMirrored := goodIn_r _ [36] (by decide +kernel) (by decide +kernel)
set_option maxRecDepth 20000 in
theorem gX6_doll_X6_isMirrored : GoodIn wsX6_doll (va_wsS RX6 226 yX6_isMirrored wsX6_isMirrored) := goodIn_app (goodIn_of _ (by decide +kernel)) ggX6_doll_X6_isMirrored
set_option maxRecDepth 20000 in
theorem ggX6_doll_X6_oneIf : GoodIn wsX6_doll wsX6_oneIf := goodIn_r _ [39] (by decide +kernel) (by decide +kernel)
set_option maxRecDepth 20000 in
theorem gX6_doll_X6_oneIf : GoodIn wsX6_doll (va_wsS RX6 200 yX6_oneIf wsX6_oneIf) := goodIn_app (goodIn_of _ (by decide +kernel)) ggX6_doll_X6_oneIf
set_option maxRecDepth 20000 in
theorem ggX6_doll_X4_leftOf : GoodIn wsX6_doll wsX4_leftOf := goodIn_r _ [43, 14, 35, 8, 36, 32, 33, 15, 16, 17, 18, 19, 20, 56, 57] (by decide +kernel) (by decide +kernel)
set_option maxRecDepth 20000 in
theorem gX6_doll_X4_leftOf : GoodIn wsX6_doll (wsV RX6 204 RX4 yX4_leftOf wsX4_leftOf) := goodIn_app (goodIn_of _ (by decide +kernel)) ggX6_doll_X4_leftOf
set_option maxRecDepth 20000 in
theorem ggX6_doll_X4_rightOf : GoodIn wsX6_doll wsX4_rightOf := goodIn_r _ [47, 14, 35, 8, 36, 32, 33, 15, 16, 17, 18, 19, 20, 56, 57] (by decide +kernel) (by decide +kernel)
set_option maxRecDepth 20000 in
theorem gX6_doll_X4_rightOf : GoodIn wsX6_doll (wsV RX6 207 RX4 yX4_rightOf wsX4_rightOf) := goodIn_app (goodIn_of _ (by decide +kernel)) ggX6_doll_X4_rightOf
theorem dX6_doll_0 : decode cX6_doll 0 = .ok (.aload_n 0, 1) := by decide +kernel
theorem dX6_doll_1 : decode cX6_doll 1 = .ok (.getfield 12, 3) := by decide +kernel
theorem dX6_doll_4 : decode cX6_doll 4 = .ok (.iload_n 1, 1) := by decide +kernel
theorem dX6_doll_5 : decode cX6_doll 5 = .ok (.invokevirtual 118, 3) := by decide +kernel
theorem dX6_doll_8 : decode cX6_doll 8 = .ok (.ifCond .eq 18, 3) := by decide +kernel
theorem dX6_doll_11 : decode cX6_doll 11 = .ok (.iload_n 2, 1) := by decide +kernel
theorem dX6_doll_12 : decode cX6_doll 12 = .ok (.aload_n 0, 1) := by decide +kernel
theorem dX6_doll_13 : decode cX6_doll 13 = .ok (.getfield 12, 3) := by decide +kernel
theorem dX6_doll_16 : decode cX6_doll 16 = .ok (.iload_n 1, 1) := by decide +kernel
theorem dX6_doll_17 : decode cX6_doll 17 = .ok (.invokevirtual 130, 3) := by decide +kernel
theorem dX6_doll_20 : decode cX6_doll 20 = .ok (.invokestatic 66, 3) := by decide +kernel
theorem dX6_doll_23 : decode cX6_doll 23 = .ok (.ifCond .ne 5, 3) := by decide +kernel
theorem dX6_doll_26 : decode cX6_doll 26 = .ok (.iconst (-1), 1) := by decide +kernel
theorem dX6_doll_27 : decode cX6_doll 27 = .ok (.ireturn, 1) := by decide +kernel
theorem dX6_doll_28 : decode cX6_doll 28 = .ok (.aload_n 0, 1) := by decide +kernel
theorem dX6_doll_29 : decode cX6_doll 29 = .ok (.getfield 12, 3) := by decide +kernel
theorem dX6_doll_32 : decode cX6_doll 32 = .ok (.iload_n 1, 1) := by decide +kernel
theorem dX6_doll_33 : decode cX6_doll 33 = .ok (.iload_n 2, 1) := by decide +kernel
theorem dX6_doll_34 : decode cX6_doll 34 = .ok (.invokevirtual 219, 3) := by decide +kernel
theorem dX6_doll_37 : decode cX6_doll 37 = .ok (.istore 4, 2) := by decide +kernel
theorem dX6_doll_39 : decode cX6_doll 39 = .ok (.iload_n 3, 1) := by decide +kernel
theorem dX6_doll_40 : decode cX6_doll 40 = .ok (.tableswitch 67 0 3 #[32, 38, 47, 57], 32) := by decide +kernel
theorem dX6_doll_72 : decode cX6_doll 72 = .ok (.iload 4, 2) := by decide +kernel
theorem dX6_doll_74 : decode cX6_doll 74 = .ok (.invokestatic 223, 3) := by decide +kernel
theorem dX6_doll_77 : decode cX6_doll 77 = .ok (.ireturn, 1) := by decide +kernel
theorem dX6_doll_78 : decode cX6_doll 78 = .ok (.iload 4, 2) := by decide +kernel
theorem dX6_doll_80 : decode cX6_doll 80 = .ok (.invokestatic 226, 3) := by decide +kernel
theorem dX6_doll_83 : decode cX6_doll 83 = .ok (.invokestatic 200, 3) := by decide +kernel
theorem dX6_doll_86 : decode cX6_doll 86 = .ok (.ireturn, 1) := by decide +kernel
theorem dX6_doll_87 : decode cX6_doll 87 = .ok (.aload_n 0, 1) := by decide +kernel
theorem dX6_doll_88 : decode cX6_doll 88 = .ok (.getfield 12, 3) := by decide +kernel
theorem dX6_doll_91 : decode cX6_doll 91 = .ok (.iload 4, 2) := by decide +kernel
theorem dX6_doll_93 : decode cX6_doll 93 = .ok (.invokevirtual 204, 3) := by decide +kernel
theorem dX6_doll_96 : decode cX6_doll 96 = .ok (.ireturn, 1) := by decide +kernel
theorem dX6_doll_97 : decode cX6_doll 97 = .ok (.aload_n 0, 1) := by decide +kernel
theorem dX6_doll_98 : decode cX6_doll 98 = .ok (.getfield 12, 3) := by decide +kernel
theorem dX6_doll_101 : decode cX6_doll 101 = .ok (.iload 4, 2) := by decide +kernel
theorem dX6_doll_103 : decode cX6_doll 103 = .ok (.invokevirtual 207, 3) := by decide +kernel
theorem dX6_doll_106 : decode cX6_doll 106 = .ok (.ireturn, 1) := by decide +kernel
theorem dX6_doll_107 : decode cX6_doll 107 = .ok (.bipush (-2), 2) := by decide +kernel
theorem dX6_doll_109 : decode cX6_doll 109 = .ok (.ireturn, 1) := by decide +kernel
set_option maxRecDepth 20000 in
theorem ggX6_reason_X4_hasGarland : GoodIn wsX6_reason wsX4_hasGarland := goodIn_r _ [6, 7, 8, 9, 10, 11, 12, 5, 13, 14, 15, 16, 17, 18, 19, 20, 66, 67] (by decide +kernel) (by decide +kernel)
set_option maxRecDepth 20000 in
theorem gX6_reason_X4_hasGarland : GoodIn wsX6_reason (wsV RX6 118 RX4 yX4_hasGarland wsX4_hasGarland) := goodIn_app (goodIn_of _ (by decide +kernel)) ggX6_reason_X4_hasGarland
set_option maxRecDepth 20000 in
theorem ggX6_reason_X4_lastDoll : GoodIn wsX6_reason wsX4_lastDoll := goodIn_r _ [24, 10, 11, 12, 5, 13, 14, 15, 16, 17, 18, 19, 20, 25, 26, 27, 28, 29, 30, 31, 32, 66, 67] (by decide +kernel) (by decide +kernel)
set_option maxRecDepth 20000 in
theorem gX6_reason_X4_lastDoll : GoodIn wsX6_reason (wsV RX6 121 RX4 yX4_lastDoll wsX4_lastDoll) := goodIn_app (goodIn_of _ (by decide +kernel)) ggX6_reason_X4_lastDoll
set_option maxRecDepth 20000 in
theorem ggX6_reason_X4_firstDoll : GoodIn wsX6_reason wsX4_firstDoll := goodIn_r _ [36, 25, 26, 27, 5, 28, 14, 29, 30, 31, 32, 15, 16, 17, 18, 19, 20, 66, 67] (by decide +kernel) (by decide +kernel)
set_option maxRecDepth 20000 in
theorem gX6_reason_X4_firstDoll : GoodIn wsX6_reason (wsV RX6 124 RX4 yX4_firstDoll wsX4_firstDoll) := goodIn_app (goodIn_of _ (by decide +kernel)) ggX6_reason_X4_firstDoll
set_option maxRecDepth 20000 in
theorem ggX6_reason_X4_clash : GoodIn wsX6_reason wsX4_clash := goodIn_r _ [40, 41, 42, 43, 5, 44, 14, 45, 8, 46, 47, 48, 15, 16, 17, 18, 19, 20, 49, 50, 51, 52, 53, 54, 55, 56, 66, 67] (by decide +kernel) (by decide +kernel)
set_option maxRecDepth 20000 in
theorem gX6_reason_X4_clash : GoodIn wsX6_reason (wsV RX6 127 RX4 yX4_clash wsX4_clash) := goodIn_app (goodIn_of _ (by decide +kernel)) ggX6_reason_X4_clash
set_option maxRecDepth 20000 in
theorem ggX6_reason_X4_lengthOf : GoodIn wsX6_reason wsX4_lengthOf := goodIn_r _ [13, 14, 15, 16, 17, 18, 19, 20, 66, 67] (by decide +kernel) (by decide +kernel)
set_option maxRecDepth 20000 in
theorem gX6_reason_X4_lengthOf : GoodIn wsX6_reason (wsV RX6 130 RX4 yX4_lengthOf wsX4_lengthOf) := goodIn_app (goodIn_of _ (by decide +kernel)) ggX6_reason_X4_lengthOf
theorem dX6_reason_0 : decode cX6_reason 0 = .ok (.aload_n 0, 1) := by decide +kernel
theorem dX6_reason_1 : decode cX6_reason 1 = .ok (.getfield 12, 3) := by decide +kernel
theorem dX6_reason_4 : decode cX6_reason 4 = .ok (.iload_n 1, 1) := by decide +kernel
theorem dX6_reason_5 : decode cX6_reason 5 = .ok (.invokevirtual 118, 3) := by decide +kernel
theorem dX6_reason_8 : decode cX6_reason 8 = .ok (.ifCond .eq 14, 3) := by decide +kernel
theorem dX6_reason_11 : decode cX6_reason 11 = .ok (.aload_n 0, 1) := by decide +kernel
theorem dX6_reason_12 : decode cX6_reason 12 = .ok (.getfield 12, 3) := by decide +kernel
theorem dX6_reason_15 : decode cX6_reason 15 = .ok (.iload_n 2, 1) := by decide +kernel
theorem dX6_reason_16 : decode cX6_reason 16 = .ok (.invokevirtual 118, 3) := by decide +kernel
theorem dX6_reason_19 : decode cX6_reason 19 = .ok (.ifCond .ne 5, 3) := by decide +kernel
theorem dX6_reason_22 : decode cX6_reason 22 = .ok (.iconst (-1), 1) := by decide +kernel
theorem dX6_reason_23 : decode cX6_reason 23 = .ok (.ireturn, 1) := by decide +kernel
theorem dX6_reason_24 : decode cX6_reason 24 = .ok (.iload_n 1, 1) := by decide +kernel
theorem dX6_reason_25 : decode cX6_reason 25 = .ok (.iload_n 2, 1) := by decide +kernel
theorem dX6_reason_26 : decode cX6_reason 26 = .ok (.if_icmp .ne 5, 3) := by decide +kernel
theorem dX6_reason_29 : decode cX6_reason 29 = .ok (.iconst 1, 1) := by decide +kernel
theorem dX6_reason_30 : decode cX6_reason 30 = .ok (.ireturn, 1) := by decide +kernel
theorem dX6_reason_31 : decode cX6_reason 31 = .ok (.aload_n 0, 1) := by decide +kernel
theorem dX6_reason_32 : decode cX6_reason 32 = .ok (.getfield 12, 3) := by decide +kernel
theorem dX6_reason_35 : decode cX6_reason 35 = .ok (.aload_n 0, 1) := by decide +kernel
theorem dX6_reason_36 : decode cX6_reason 36 = .ok (.getfield 12, 3) := by decide +kernel
theorem dX6_reason_39 : decode cX6_reason 39 = .ok (.iload_n 1, 1) := by decide +kernel
theorem dX6_reason_40 : decode cX6_reason 40 = .ok (.invokevirtual 121, 3) := by decide +kernel
theorem dX6_reason_43 : decode cX6_reason 43 = .ok (.aload_n 0, 1) := by decide +kernel
theorem dX6_reason_44 : decode cX6_reason 44 = .ok (.getfield 12, 3) := by decide +kernel
theorem dX6_reason_47 : decode cX6_reason 47 = .ok (.iload_n 2, 1) := by decide +kernel
theorem dX6_reason_48 : decode cX6_reason 48 = .ok (.invokevirtual 124, 3) := by decide +kernel
theorem dX6_reason_51 : decode cX6_reason 51 = .ok (.invokevirtual 127, 3) := by decide +kernel
theorem dX6_reason_54 : decode cX6_reason 54 = .ok (.ifCond .eq 5, 3) := by decide +kernel
theorem dX6_reason_57 : decode cX6_reason 57 = .ok (.iconst 2, 1) := by decide +kernel
theorem dX6_reason_58 : decode cX6_reason 58 = .ok (.ireturn, 1) := by decide +kernel
theorem dX6_reason_59 : decode cX6_reason 59 = .ok (.aload_n 0, 1) := by decide +kernel
theorem dX6_reason_60 : decode cX6_reason 60 = .ok (.getfield 12, 3) := by decide +kernel
theorem dX6_reason_63 : decode cX6_reason 63 = .ok (.iload_n 1, 1) := by decide +kernel
theorem dX6_reason_64 : decode cX6_reason 64 = .ok (.invokevirtual 130, 3) := by decide +kernel
theorem dX6_reason_67 : decode cX6_reason 67 = .ok (.aload_n 0, 1) := by decide +kernel
theorem dX6_reason_68 : decode cX6_reason 68 = .ok (.getfield 12, 3) := by decide +kernel
theorem dX6_reason_71 : decode cX6_reason 71 = .ok (.iload_n 2, 1) := by decide +kernel
theorem dX6_reason_72 : decode cX6_reason 72 = .ok (.invokevirtual 130, 3) := by decide +kernel
theorem dX6_reason_75 : decode cX6_reason 75 = .ok (.iadd, 1) := by decide +kernel
theorem dX6_reason_76 : decode cX6_reason 76 = .ok (.bipush 32, 2) := by decide +kernel
theorem dX6_reason_78 : decode cX6_reason 78 = .ok (.if_icmp .le 7, 3) := by decide +kernel
theorem dX6_reason_81 : decode cX6_reason 81 = .ok (.iconst 3, 1) := by decide +kernel
theorem dX6_reason_82 : decode cX6_reason 82 = .ok (.goto 4, 3) := by decide +kernel
theorem dX6_reason_85 : decode cX6_reason 85 = .ok (.iconst 0, 1) := by decide +kernel
theorem dX6_reason_86 : decode cX6_reason 86 = .ok (.ireturn, 1) := by decide +kernel
set_option maxRecDepth 20000 in
theorem ggX6_between_X4_hasGarland : GoodIn wsX6_between wsX4_hasGarland := goodIn_r _ [7, 8, 9, 10, 11, 12, 13, 6, 14, 15, 16, 17, 18, 19, 20, 21, 95, 96] (by decide +kernel) (by decide +kernel)
set_option maxRecDepth 20000 in
theorem gX6_between_X4_hasGarland : GoodIn wsX6_between (wsV RX6 118 RX4 yX4_hasGarland wsX4_hasGarland) := goodIn_app (goodIn_of _ (by decide +kernel)) ggX6_between_X4_hasGarland
set_option maxRecDepth 20000 in
theorem ggX6_between_X4_lastDoll : GoodIn wsX6_between wsX4_lastDoll := goodIn_r _ [25, 11, 12, 13, 6, 14, 15, 16, 17, 18, 19, 20, 21, 26, 27, 28, 29, 30, 31, 32, 33, 95, 96] (by decide +kernel) (by decide +kernel)
set_option maxRecDepth 20000 in
theorem gX6_between_X4_lastDoll : GoodIn wsX6_between (wsV RX6 121 RX4 yX4_lastDoll wsX4_lastDoll) := goodIn_app (goodIn_of _ (by decide +kernel)) ggX6_between_X4_lastDoll
set_option maxRecDepth 20000 in
theorem ggX6_between_X4_firstDoll : GoodIn wsX6_between wsX4_firstDoll := goodIn_r _ [37, 26, 27, 28, 6, 29, 15, 30, 31, 32, 33, 16, 17, 18, 19, 20, 21, 95, 96] (by decide +kernel) (by decide +kernel)
set_option maxRecDepth 20000 in
theorem gX6_between_X4_firstDoll : GoodIn wsX6_between (wsV RX6 124 RX4 yX4_firstDoll wsX4_firstDoll) := goodIn_app (goodIn_of _ (by decide +kernel)) ggX6_between_X4_firstDoll
set_option maxRecDepth 20000 in
theorem ggX6_between_X0_fewestBetween : GoodIn wsX6_between wsX0_fewestBetween := goodIn_r _ [42, 43, 44, 45, 46, 6, 47, 48, 49, 50, 51, 15, 52, 9, 53, 54, 55, 16, 17, 18, 19, 20, 21, 56, 57, 58, 59, 60, 61, 62, 63, 64, 65, 66, 41, 67, 68, 69, 70, 71, 72, 73, 74, 75, 76, 77, 78, 79, 80, 81, 82, 83, 84, 85, 86, 97, 98, 99, 100, 95, 96] (by decide +kernel) (by decide +kernel)
set_option maxRecDepth 20000 in
theorem gX6_between_X0_fewestBetween : GoodIn wsX6_between (wsV RX6 229 RX0 yX0_fewestBetween wsX0_fewestBetween) := goodIn_app (goodIn_of _ (by decide +kernel)) ggX6_between_X0_fewestBetween
theorem dX6_between_0 : decode cX6_between 0 = .ok (.aload_n 0, 1) := by decide +kernel
theorem dX6_between_1 : decode cX6_between 1 = .ok (.getfield 12, 3) := by decide +kernel
theorem dX6_between_4 : decode cX6_between 4 = .ok (.iload_n 1, 1) := by decide +kernel
theorem dX6_between_5 : decode cX6_between 5 = .ok (.invokevirtual 118, 3) := by decide +kernel
theorem dX6_between_8 : decode cX6_between 8 = .ok (.ifCond .eq 14, 3) := by decide +kernel
theorem dX6_between_11 : decode cX6_between 11 = .ok (.aload_n 0, 1) := by decide +kernel
theorem dX6_between_12 : decode cX6_between 12 = .ok (.getfield 12, 3) := by decide +kernel
theorem dX6_between_15 : decode cX6_between 15 = .ok (.iload_n 2, 1) := by decide +kernel
theorem dX6_between_16 : decode cX6_between 16 = .ok (.invokevirtual 118, 3) := by decide +kernel
theorem dX6_between_19 : decode cX6_between 19 = .ok (.ifCond .ne 5, 3) := by decide +kernel
theorem dX6_between_22 : decode cX6_between 22 = .ok (.iconst (-1), 1) := by decide +kernel
theorem dX6_between_23 : decode cX6_between 23 = .ok (.ireturn, 1) := by decide +kernel
theorem dX6_between_24 : decode cX6_between 24 = .ok (.aload_n 0, 1) := by decide +kernel
theorem dX6_between_25 : decode cX6_between 25 = .ok (.getfield 28, 3) := by decide +kernel
theorem dX6_between_28 : decode cX6_between 28 = .ok (.aload_n 0, 1) := by decide +kernel
theorem dX6_between_29 : decode cX6_between 29 = .ok (.getfield 12, 3) := by decide +kernel
theorem dX6_between_32 : decode cX6_between 32 = .ok (.iload_n 1, 1) := by decide +kernel
theorem dX6_between_33 : decode cX6_between 33 = .ok (.invokevirtual 121, 3) := by decide +kernel
theorem dX6_between_36 : decode cX6_between 36 = .ok (.aload_n 0, 1) := by decide +kernel
theorem dX6_between_37 : decode cX6_between 37 = .ok (.getfield 12, 3) := by decide +kernel
theorem dX6_between_40 : decode cX6_between 40 = .ok (.iload_n 2, 1) := by decide +kernel
theorem dX6_between_41 : decode cX6_between 41 = .ok (.invokevirtual 124, 3) := by decide +kernel
theorem dX6_between_44 : decode cX6_between 44 = .ok (.invokevirtual 229, 3) := by decide +kernel
theorem dX6_between_47 : decode cX6_between 47 = .ok (.ireturn, 1) := by decide +kernel
set_option maxRecDepth 20000 in
theorem ggX6_ways_X0_garlandsOf : GoodIn wsX6_ways wsX0_garlandsOf := goodIn_r _ [6, 7, 8, 9, 10, 11, 5, 12, 13, 14, 15, 16, 17, 18, 19, 20, 21, 22, 23, 24, 25, 26, 27, 28, 29, 30, 31, 32, 33, 34, 35, 36, 37, 38, 39, 40, 41, 42, 43, 44, 45, 46, 47, 48, 49, 50, 51, 52, 53, 54, 55, 56, 57, 58, 59, 60, 61, 62, 63, 64, 65, 66, 67, 68, 69, 70, 71, 72, 73, 74, 75, 90, 91, 92, 93, 94, 95] (by decide +kernel) (by decide +kernel)
set_option maxRecDepth 20000 in
theorem gX6_ways_X0_garlandsOf : GoodIn wsX6_ways (wsV RX6 232 RX0 yX0_garlandsOf wsX0_garlandsOf) := goodIn_app (goodIn_of _ (by decide +kernel)) ggX6_ways_X0_garlandsOf
set_option maxRecDepth 20000 in
theorem ggX6_ways_X0_ownMirrorsOf : GoodIn wsX6_ways wsX0_ownMirrorsOf := goodIn_r _ [79, 7, 13, 8, 9, 10, 11, 5, 12, 14, 15, 16, 17, 18, 19, 20, 21, 22, 23, 24, 25, 26, 27, 28, 29, 30, 31, 32, 33, 34, 35, 36, 37, 38, 39, 40, 41, 42, 43, 44, 45, 46, 47, 48, 49, 50, 51, 52, 53, 54, 55, 56, 57, 58, 59, 60, 61, 62, 63, 64, 65, 66, 67, 68, 69, 70, 71, 72, 73, 74, 75, 80, 81, 90, 91, 92, 93, 94, 95] (by decide +kernel) (by decide +kernel)
set_option maxRecDepth 20000 in
theorem gX6_ways_X0_ownMirrorsOf : GoodIn wsX6_ways (wsV RX6 235 RX0 yX0_ownMirrorsOf wsX0_ownMirrorsOf) := goodIn_app (goodIn_of _ (by decide +kernel)) ggX6_ways_X0_ownMirrorsOf
theorem dX6_ways_0 : decode cX6_ways 0 = .ok (.iload_n 1, 1) := by decide +kernel
theorem dX6_ways_1 : decode cX6_ways 1 = .ok (.iconst 1, 1) := by decide +kernel
theorem dX6_ways_2 : decode cX6_ways 2 = .ok (.if_icmp .lt 9, 3) := by decide +kernel
theorem dX6_ways_5 : decode cX6_ways 5 = .ok (.iload_n 1, 1) := by decide +kernel
theorem dX6_ways_6 : decode cX6_ways 6 = .ok (.bipush 6, 2) := by decide +kernel
theorem dX6_ways_8 : decode cX6_ways 8 = .ok (.if_icmp .le 6, 3) := by decide +kernel
theorem dX6_ways_11 : decode cX6_ways 11 = .ok (.bipush (-2), 2) := by decide +kernel
theorem dX6_ways_13 : decode cX6_ways 13 = .ok (.ireturn, 1) := by decide +kernel
theorem dX6_ways_14 : decode cX6_ways 14 = .ok (.iload_n 2, 1) := by decide +kernel
theorem dX6_ways_15 : decode cX6_ways 15 = .ok (.tableswitch 63 0 2 #[25, 34, 43], 25) := by decide +kernel
theorem dX6_ways_40 : decode cX6_ways 40 = .ok (.aload_n 0, 1) := by decide +kernel
theorem dX6_ways_41 : decode cX6_ways 41 = .ok (.getfield 28, 3) := by decide +kernel
theorem dX6_ways_44 : decode cX6_ways 44 = .ok (.iload_n 1, 1) := by decide +kernel
theorem dX6_ways_45 : decode cX6_ways 45 = .ok (.invokevirtual 232, 3) := by decide +kernel
theorem dX6_ways_48 : decode cX6_ways 48 = .ok (.ireturn, 1) := by decide +kernel
theorem dX6_ways_49 : decode cX6_ways 49 = .ok (.aload_n 0, 1) := by decide +kernel
theorem dX6_ways_50 : decode cX6_ways 50 = .ok (.getfield 28, 3) := by decide +kernel
theorem dX6_ways_53 : decode cX6_ways 53 = .ok (.iload_n 1, 1) := by decide +kernel
theorem dX6_ways_54 : decode cX6_ways 54 = .ok (.invokevirtual 235, 3) := by decide +kernel
theorem dX6_ways_57 : decode cX6_ways 57 = .ok (.ireturn, 1) := by decide +kernel
theorem dX6_ways_58 : decode cX6_ways 58 = .ok (.aload_n 0, 1) := by decide +kernel
theorem dX6_ways_59 : decode cX6_ways 59 = .ok (.getfield 28, 3) := by decide +kernel
theorem dX6_ways_62 : decode cX6_ways 62 = .ok (.iload_n 1, 1) := by decide +kernel
theorem dX6_ways_63 : decode cX6_ways 63 = .ok (.invokevirtual 232, 3) := by decide +kernel
theorem dX6_ways_66 : decode cX6_ways 66 = .ok (.aload_n 0, 1) := by decide +kernel
theorem dX6_ways_67 : decode cX6_ways 67 = .ok (.getfield 28, 3) := by decide +kernel
theorem dX6_ways_70 : decode cX6_ways 70 = .ok (.iload_n 1, 1) := by decide +kernel
theorem dX6_ways_71 : decode cX6_ways 71 = .ok (.invokevirtual 235, 3) := by decide +kernel
theorem dX6_ways_74 : decode cX6_ways 74 = .ok (.iadd, 1) := by decide +kernel
theorem dX6_ways_75 : decode cX6_ways 75 = .ok (.iconst 2, 1) := by decide +kernel
theorem dX6_ways_76 : decode cX6_ways 76 = .ok (.idiv, 1) := by decide +kernel
theorem dX6_ways_77 : decode cX6_ways 77 = .ok (.ireturn, 1) := by decide +kernel
theorem dX6_ways_78 : decode cX6_ways 78 = .ok (.bipush (-2), 2) := by decide +kernel
theorem dX6_ways_80 : decode cX6_ways 80 = .ok (.ireturn, 1) := by decide +kernel
set_option maxRecDepth 20000 in
theorem ggX6_longest_X4_lengthOf : GoodIn wsX6_longest wsX4_lengthOf := goodIn_r _ [6, 7, 8, 9, 10, 11, 12, 13, 22, 23] (by decide +kernel) (by decide +kernel)
set_option maxRecDepth 20000 in
theorem gX6_longest_X4_lengthOf : GoodIn wsX6_longest (wsV RX6 130 RX4 yX4_lengthOf wsX4_lengthOf) := goodIn_app (goodIn_of _ (by decide +kernel)) ggX6_longest_X4_lengthOf
theorem dX6_longest_0 : decode cX6_longest 0 = .ok (.bipush (-5), 2) := by decide +kernel
theorem dX6_longest_2 : decode cX6_longest 2 = .ok (.istore_n 1, 1) := by decide +kernel
theorem dX6_longest_3 : decode cX6_longest 3 = .ok (.iconst 0, 1) := by decide +kernel
theorem dX6_longest_4 : decode cX6_longest 4 = .ok (.istore_n 2, 1) := by decide +kernel
theorem dX6_longest_5 : decode cX6_longest 5 = .ok (.iconst 0, 1) := by decide +kernel
theorem dX6_longest_6 : decode cX6_longest 6 = .ok (.istore_n 3, 1) := by decide +kernel
theorem dX6_longest_7 : decode cX6_longest 7 = .ok (.iload_n 3, 1) := by decide +kernel
theorem dX6_longest_8 : decode cX6_longest 8 = .ok (.bipush 8, 2) := by decide +kernel
theorem dX6_longest_10 : decode cX6_longest 10 = .ok (.if_icmp .ge 32, 3) := by decide +kernel
theorem dX6_longest_13 : decode cX6_longest 13 = .ok (.aload_n 0, 1) := by decide +kernel
theorem dX6_longest_14 : decode cX6_longest 14 = .ok (.getfield 12, 3) := by decide +kernel
theorem dX6_longest_17 : decode cX6_longest 17 = .ok (.iload_n 3, 1) := by decide +kernel
theorem dX6_longest_18 : decode cX6_longest 18 = .ok (.invokevirtual 130, 3) := by decide +kernel
theorem dX6_longest_21 : decode cX6_longest 21 = .ok (.iload_n 2, 1) := by decide +kernel
theorem dX6_longest_22 : decode cX6_longest 22 = .ok (.if_icmp .le 14, 3) := by decide +kernel
theorem dX6_longest_25 : decode cX6_longest 25 = .ok (.aload_n 0, 1) := by decide +kernel
theorem dX6_longest_26 : decode cX6_longest 26 = .ok (.getfield 12, 3) := by decide +kernel
theorem dX6_longest_29 : decode cX6_longest 29 = .ok (.iload_n 3, 1) := by decide +kernel
theorem dX6_longest_30 : decode cX6_longest 30 = .ok (.invokevirtual 130, 3) := by decide +kernel
theorem dX6_longest_33 : decode cX6_longest 33 = .ok (.istore_n 2, 1) := by decide +kernel
theorem dX6_longest_34 : decode cX6_longest 34 = .ok (.iload_n 3, 1) := by decide +kernel
theorem dX6_longest_35 : decode cX6_longest 35 = .ok (.istore_n 1, 1) := by decide +kernel
theorem dX6_longest_36 : decode cX6_longest 36 = .ok (.iinc 3 1, 3) := by decide +kernel
theorem dX6_longest_39 : decode cX6_longest 39 = .ok (.goto (-32), 3) := by decide +kernel
theorem dX6_longest_42 : decode cX6_longest 42 = .ok (.iload_n 1, 1) := by decide +kernel
theorem dX6_longest_43 : decode cX6_longest 43 = .ok (.ireturn, 1) := by decide +kernel
set_option maxRecDepth 20000 in
theorem ggX6_count_X2_garlands : GoodIn wsX6_count wsX2_garlands := goodIn_r _ [9, 10, 11, 12, 13, 14, 15, 16, 17, 18, 19, 20, 21, 22, 23, 24, 25, 26, 27, 28, 29, 30, 31, 123, 124, 125] (by decide +kernel) (by decide +kernel)
set_option maxRecDepth 20000 in
theorem gX6_count_X2_garlands : GoodIn wsX6_count (wsV RX6 191 RX2 yX2_garlands wsX2_garlands) := goodIn_app (goodIn_of _ (by decide +kernel)) ggX6_count_X2_garlands
set_option maxRecDepth 20000 in
theorem ggX6_count_X2_dolls : GoodIn wsX6_count wsX2_dolls := goodIn_r _ [35, 10, 36, 20, 21, 14, 22, 23, 24, 25, 26, 27, 28, 29, 123, 124, 125] (by decide +kernel) (by decide +kernel)
set_option maxRecDepth 20000 in
theorem gX6_count_X2_dolls : GoodIn wsX6_count (wsV RX6 238 RX2 yX2_dolls wsX2_dolls) := goodIn_app (goodIn_of _ (by decide +kernel)) ggX6_count_X2_dolls
set_option maxRecDepth 20000 in
theorem ggX6_count_X2_mirroredDolls : GoodIn wsX6_count wsX2_mirroredDolls := goodIn_r _ [40, 41, 42, 43, 8, 44, 10, 36, 20, 21, 14, 22, 23, 24, 25, 26, 27, 28, 29, 45, 46, 47, 48, 49, 50, 51, 52, 53, 17, 54, 30, 31, 123, 124, 125] (by decide +kernel) (by decide +kernel)
set_option maxRecDepth 20000 in
theorem gX6_count_X2_mirroredDolls : GoodIn wsX6_count (wsV RX6 241 RX2 yX2_mirroredDolls wsX2_mirroredDolls) := goodIn_app (goodIn_of _ (by decide +kernel)) ggX6_count_X2_mirroredDolls
set_option maxRecDepth 20000 in
theorem ggX6_count_X2_ownMirrors : GoodIn wsX6_count wsX2_ownMirrors := goodIn_r _ [58, 10, 11, 12, 13, 14, 15, 16, 17, 18, 19, 20, 21, 22, 23, 24, 25, 26, 27, 28, 29, 59, 60, 61, 8, 62, 63, 64, 65, 66, 36, 45, 46, 47, 48, 49, 50, 51, 52, 67, 68, 30, 31, 123, 124, 125] (by decide +kernel) (by decide +kernel)
set_option maxRecDepth 20000 in
theorem gX6_count_X2_ownMirrors : GoodIn wsX6_count (wsV RX6 244 RX2 yX2_ownMirrors wsX2_ownMirrors) := goodIn_app (goodIn_of _ (by decide +kernel)) ggX6_count_X2_ownMirrors
set_option maxRecDepth 20000 in
theorem ggX6_count_X4_ruleNow : GoodIn wsX6_count wsX4_ruleNow := goodIn_r _ [72, 23, 24, 25, 26, 27, 28, 29, 124, 125] (by decide +kernel) (by decide +kernel)
set_option maxRecDepth 20000 in
theorem gX6_count_X4_ruleNow : GoodIn wsX6_count (wsV RX6 88 RX4 yX4_ruleNow wsX4_ruleNow) := goodIn_app (goodIn_of _ (by decide +kernel)) ggX6_count_X4_ruleNow
set_option maxRecDepth 20000 in
theorem ggX6_count_X4_kindsNow : GoodIn wsX6_count wsX4_kindsNow := goodIn_r _ [76, 23, 24, 25, 26, 27, 28, 29, 124, 125] (by decide +kernel) (by decide +kernel)
set_option maxRecDepth 20000 in
theorem gX6_count_X4_kindsNow : GoodIn wsX6_count (wsV RX6 98 RX4 yX4_kindsNow wsX4_kindsNow) := goodIn_app (goodIn_of _ (by decide +kernel)) ggX6_count_X4_kindsNow
set_option maxRecDepth 20000 in
theorem ggX6_count_X2_handsThatMeet : GoodIn wsX6_count wsX2_handsThatMeet := goodIn_r _ [80, 10, 36, 20, 21, 14, 22, 23, 24, 25, 26, 27, 28, 29, 45, 46, 47, 48, 49, 50, 51, 52, 81, 82, 83, 84, 53, 17, 54, 85, 86, 87, 88, 89, 90, 30, 31, 123, 124, 125] (by decide +kernel) (by decide +kernel)
set_option maxRecDepth 20000 in
theorem gX6_count_X2_handsThatMeet : GoodIn wsX6_count (wsV RX6 247 RX2 yX2_handsThatMeet wsX2_handsThatMeet) := goodIn_app (goodIn_of _ (by decide +kernel)) ggX6_count_X2_handsThatMeet
set_option maxRecDepth 20000 in
theorem ggX6_count_X2_differentGarlands : GoodIn wsX6_count wsX2_differentGarlands := goodIn_r _ [94, 10, 11, 12, 13, 14, 15, 16, 17, 18, 19, 20, 21, 22, 23, 24, 25, 26, 27, 28, 29, 95, 96, 97, 8, 98, 99, 100, 101, 102, 36, 45, 46, 47, 48, 49, 50, 51, 52, 63, 64, 65, 66, 67, 68, 30, 31, 123, 124, 125] (by decide +kernel) (by decide +kernel)
set_option maxRecDepth 20000 in
theorem gX6_count_X2_differentGarlands : GoodIn wsX6_count (wsV RX6 250 RX2 yX2_differentGarlands wsX2_differentGarlands) := goodIn_app (goodIn_of _ (by decide +kernel)) ggX6_count_X2_differentGarlands
set_option maxRecDepth 20000 in
theorem ggX6_count_X1_size : GoodIn wsX6_count wsX1_size := goodIn_r _ [107, 108, 126, 127, 128] (by decide +kernel) (by decide +kernel)
set_option maxRecDepth 20000 in
theorem gX6_count_X1_size : GoodIn wsX6_count (wsV RX6 181 RX1 yX1_size wsX1_size) := goodIn_app (goodIn_of _ (by decide +kernel)) ggX6_count_X1_size
set_option maxRecDepth 20000 in
theorem ggX6_count_X5_size : GoodIn wsX6_count wsX5_size := goodIn_r _ [113, 114, 129, 130] (by decide +kernel) (by decide +kernel)
set_option maxRecDepth 20000 in
theorem gX6_count_X5_size : GoodIn wsX6_count (wsV RX6 253 RX5 yX5_size wsX5_size) := goodIn_app (goodIn_of _ (by decide +kernel)) ggX6_count_X5_size
theorem dX6_count_0 : decode cX6_count 0 = .ok (.iload_n 1, 1) := by decide +kernel
theorem dX6_count_1 : decode cX6_count 1 = .ok (.tableswitch 135 0 9 #[55, 63, 71, 79, 87, 95, 103, 111, 119, 127], 55) := by decide +kernel
theorem dX6_count_56 : decode cX6_count 56 = .ok (.aload_n 0, 1) := by decide +kernel
theorem dX6_count_57 : decode cX6_count 57 = .ok (.getfield 21, 3) := by decide +kernel
theorem dX6_count_60 : decode cX6_count 60 = .ok (.invokevirtual 191, 3) := by decide +kernel
theorem dX6_count_63 : decode cX6_count 63 = .ok (.ireturn, 1) := by decide +kernel
theorem dX6_count_64 : decode cX6_count 64 = .ok (.aload_n 0, 1) := by decide +kernel
theorem dX6_count_65 : decode cX6_count 65 = .ok (.getfield 21, 3) := by decide +kernel
theorem dX6_count_68 : decode cX6_count 68 = .ok (.invokevirtual 238, 3) := by decide +kernel
theorem dX6_count_71 : decode cX6_count 71 = .ok (.ireturn, 1) := by decide +kernel
theorem dX6_count_72 : decode cX6_count 72 = .ok (.aload_n 0, 1) := by decide +kernel
theorem dX6_count_73 : decode cX6_count 73 = .ok (.getfield 21, 3) := by decide +kernel
theorem dX6_count_76 : decode cX6_count 76 = .ok (.invokevirtual 241, 3) := by decide +kernel
theorem dX6_count_79 : decode cX6_count 79 = .ok (.ireturn, 1) := by decide +kernel
theorem dX6_count_80 : decode cX6_count 80 = .ok (.aload_n 0, 1) := by decide +kernel
theorem dX6_count_81 : decode cX6_count 81 = .ok (.getfield 21, 3) := by decide +kernel
theorem dX6_count_84 : decode cX6_count 84 = .ok (.invokevirtual 244, 3) := by decide +kernel
theorem dX6_count_87 : decode cX6_count 87 = .ok (.ireturn, 1) := by decide +kernel
theorem dX6_count_88 : decode cX6_count 88 = .ok (.aload_n 0, 1) := by decide +kernel
theorem dX6_count_89 : decode cX6_count 89 = .ok (.getfield 12, 3) := by decide +kernel
theorem dX6_count_92 : decode cX6_count 92 = .ok (.invokevirtual 88, 3) := by decide +kernel
theorem dX6_count_95 : decode cX6_count 95 = .ok (.ireturn, 1) := by decide +kernel
theorem dX6_count_96 : decode cX6_count 96 = .ok (.aload_n 0, 1) := by decide +kernel
theorem dX6_count_97 : decode cX6_count 97 = .ok (.getfield 12, 3) := by decide +kernel
theorem dX6_count_100 : decode cX6_count 100 = .ok (.invokevirtual 98, 3) := by decide +kernel
theorem dX6_count_103 : decode cX6_count 103 = .ok (.ireturn, 1) := by decide +kernel
theorem dX6_count_104 : decode cX6_count 104 = .ok (.aload_n 0, 1) := by decide +kernel
theorem dX6_count_105 : decode cX6_count 105 = .ok (.getfield 21, 3) := by decide +kernel
theorem dX6_count_108 : decode cX6_count 108 = .ok (.invokevirtual 247, 3) := by decide +kernel
theorem dX6_count_111 : decode cX6_count 111 = .ok (.ireturn, 1) := by decide +kernel
theorem dX6_count_112 : decode cX6_count 112 = .ok (.aload_n 0, 1) := by decide +kernel
theorem dX6_count_113 : decode cX6_count 113 = .ok (.getfield 21, 3) := by decide +kernel
theorem dX6_count_116 : decode cX6_count 116 = .ok (.invokevirtual 250, 3) := by decide +kernel
theorem dX6_count_119 : decode cX6_count 119 = .ok (.ireturn, 1) := by decide +kernel
theorem dX6_count_120 : decode cX6_count 120 = .ok (.aload_n 0, 1) := by decide +kernel
theorem dX6_count_121 : decode cX6_count 121 = .ok (.getfield 35, 3) := by decide +kernel
theorem dX6_count_124 : decode cX6_count 124 = .ok (.invokevirtual 181, 3) := by decide +kernel
theorem dX6_count_127 : decode cX6_count 127 = .ok (.ireturn, 1) := by decide +kernel
theorem dX6_count_128 : decode cX6_count 128 = .ok (.aload_n 0, 1) := by decide +kernel
theorem dX6_count_129 : decode cX6_count 129 = .ok (.getfield 42, 3) := by decide +kernel
theorem dX6_count_132 : decode cX6_count 132 = .ok (.invokevirtual 253, 3) := by decide +kernel
theorem dX6_count_135 : decode cX6_count 135 = .ok (.ireturn, 1) := by decide +kernel
theorem dX6_count_136 : decode cX6_count 136 = .ok (.bipush (-2), 2) := by decide +kernel
theorem dX6_count_138 : decode cX6_count 138 = .ok (.ireturn, 1) := by decide +kernel
theorem dX6_isBelow_0 : decode cX6_isBelow 0 = .ok (.iload_n 0, 1) := by decide +kernel
theorem dX6_isBelow_1 : decode cX6_isBelow 1 = .ok (.ifCond .lt 12, 3) := by decide +kernel
theorem dX6_isBelow_4 : decode cX6_isBelow 4 = .ok (.iload_n 0, 1) := by decide +kernel
theorem dX6_isBelow_5 : decode cX6_isBelow 5 = .ok (.iload_n 1, 1) := by decide +kernel
theorem dX6_isBelow_6 : decode cX6_isBelow 6 = .ok (.if_icmp .ge 7, 3) := by decide +kernel
theorem dX6_isBelow_9 : decode cX6_isBelow 9 = .ok (.iconst 1, 1) := by decide +kernel
theorem dX6_isBelow_10 : decode cX6_isBelow 10 = .ok (.goto 4, 3) := by decide +kernel
theorem dX6_isBelow_13 : decode cX6_isBelow 13 = .ok (.iconst 0, 1) := by decide +kernel
theorem dX6_isBelow_14 : decode cX6_isBelow 14 = .ok (.ireturn, 1) := by decide +kernel
theorem dX6_oneIf_0 : decode cX6_oneIf 0 = .ok (.iload_n 0, 1) := by decide +kernel
theorem dX6_oneIf_1 : decode cX6_oneIf 1 = .ok (.ifCond .eq 7, 3) := by decide +kernel
theorem dX6_oneIf_4 : decode cX6_oneIf 4 = .ok (.iconst 1, 1) := by decide +kernel
theorem dX6_oneIf_5 : decode cX6_oneIf 5 = .ok (.goto 4, 3) := by decide +kernel
theorem dX6_oneIf_8 : decode cX6_oneIf 8 = .ok (.iconst 0, 1) := by decide +kernel
theorem dX6_oneIf_9 : decode cX6_oneIf 9 = .ok (.ireturn, 1) := by decide +kernel
set_option maxRecDepth 20000 in
theorem ggX6_dollOf_X6_oneIf : GoodIn wsX6_dollOf wsX6_oneIf := goodIn_r _ [4] (by decide +kernel) (by decide +kernel)
set_option maxRecDepth 20000 in
theorem gX6_dollOf_X6_oneIf : GoodIn wsX6_dollOf (va_wsS RX6 200 yX6_oneIf wsX6_oneIf) := goodIn_app (goodIn_of _ (by decide +kernel)) ggX6_dollOf_X6_oneIf
theorem dX6_dollOf_0 : decode cX6_dollOf 0 = .ok (.iconst 2, 1) := by decide +kernel
theorem dX6_dollOf_1 : decode cX6_dollOf 1 = .ok (.iload_n 0, 1) := by decide +kernel
theorem dX6_dollOf_2 : decode cX6_dollOf 2 = .ok (.imul, 1) := by decide +kernel
theorem dX6_dollOf_3 : decode cX6_dollOf 3 = .ok (.iload_n 1, 1) := by decide +kernel
theorem dX6_dollOf_4 : decode cX6_dollOf 4 = .ok (.invokestatic 200, 3) := by decide +kernel
theorem dX6_dollOf_7 : decode cX6_dollOf 7 = .ok (.iadd, 1) := by decide +kernel
theorem dX6_dollOf_8 : decode cX6_dollOf 8 = .ok (.ireturn, 1) := by decide +kernel
theorem dX6_kindOf_0 : decode cX6_kindOf 0 = .ok (.iload_n 0, 1) := by decide +kernel
theorem dX6_kindOf_1 : decode cX6_kindOf 1 = .ok (.iconst 1, 1) := by decide +kernel
theorem dX6_kindOf_2 : decode cX6_kindOf 2 = .ok (.ishr, 1) := by decide +kernel
theorem dX6_kindOf_3 : decode cX6_kindOf 3 = .ok (.ireturn, 1) := by decide +kernel
theorem dX6_isMirrored_0 : decode cX6_isMirrored 0 = .ok (.iload_n 0, 1) := by decide +kernel
theorem dX6_isMirrored_1 : decode cX6_isMirrored 1 = .ok (.iconst 1, 1) := by decide +kernel
theorem dX6_isMirrored_2 : decode cX6_isMirrored 2 = .ok (.iand, 1) := by decide +kernel
theorem dX6_isMirrored_3 : decode cX6_isMirrored 3 = .ok (.iconst 1, 1) := by decide +kernel
theorem dX6_isMirrored_4 : decode cX6_isMirrored 4 = .ok (.if_icmp .ne 7, 3) := by decide +kernel
theorem dX6_isMirrored_7 : decode cX6_isMirrored 7 = .ok (.iconst 1, 1) := by decide +kernel
theorem dX6_isMirrored_8 : decode cX6_isMirrored 8 = .ok (.goto 4, 3) := by decide +kernel
theorem dX6_isMirrored_11 : decode cX6_isMirrored 11 = .ok (.iconst 0, 1) := by decide +kernel
theorem dX6_isMirrored_12 : decode cX6_isMirrored 12 = .ok (.ireturn, 1) := by decide +kernel
theorem dX6_mirrorOf_0 : decode cX6_mirrorOf 0 = .ok (.iload_n 0, 1) := by decide +kernel
theorem dX6_mirrorOf_1 : decode cX6_mirrorOf 1 = .ok (.iconst 1, 1) := by decide +kernel
theorem dX6_mirrorOf_2 : decode cX6_mirrorOf 2 = .ok (.ixor, 1) := by decide +kernel
theorem dX6_mirrorOf_3 : decode cX6_mirrorOf 3 = .ok (.ireturn, 1) := by decide +kernel
end
section
theorem dX7_init_0 : decode cX7_init 0 = .ok (.aload_n 0, 1) := by decide +kernel
theorem dX7_init_1 : decode cX7_init 1 = .ok (.invokespecial 1, 3) := by decide +kernel
theorem dX7_init_4 : decode cX7_init 4 = .ok (.aload_n 0, 1) := by decide +kernel
theorem dX7_init_5 : decode cX7_init 5 = .ok (.sipush 286, 3) := by decide +kernel
theorem dX7_init_8 : decode cX7_init 8 = .ok (.newarray .int, 2) := by decide +kernel
theorem dX7_init_10 : decode cX7_init 10 = .ok (.putfield 7, 3) := by decide +kernel
theorem dX7_init_13 : decode cX7_init 13 = .ok (.aload_n 0, 1) := by decide +kernel
theorem dX7_init_14 : decode cX7_init 14 = .ok (.sipush 286, 3) := by decide +kernel
theorem dX7_init_17 : decode cX7_init 17 = .ok (.newarray .int, 2) := by decide +kernel
theorem dX7_init_19 : decode cX7_init 19 = .ok (.putfield 13, 3) := by decide +kernel
theorem dX7_init_22 : decode cX7_init 22 = .ok (.aload_n 0, 1) := by decide +kernel
theorem dX7_init_23 : decode cX7_init 23 = .ok (.sipush 1144, 3) := by decide +kernel
theorem dX7_init_26 : decode cX7_init 26 = .ok (.newarray .int, 2) := by decide +kernel
theorem dX7_init_28 : decode cX7_init 28 = .ok (.putfield 16, 3) := by decide +kernel
theorem dX7_init_31 : decode cX7_init 31 = .ok (.aload_n 0, 1) := by decide +kernel
theorem dX7_init_32 : decode cX7_init 32 = .ok (.sipush 286, 3) := by decide +kernel
theorem dX7_init_35 : decode cX7_init 35 = .ok (.newarray .int, 2) := by decide +kernel
theorem dX7_init_37 : decode cX7_init 37 = .ok (.putfield 19, 3) := by decide +kernel
theorem dX7_init_40 : decode cX7_init 40 = .ok (.aload_n 0, 1) := by decide +kernel
theorem dX7_init_41 : decode cX7_init 41 = .ok (.bipush 32, 2) := by decide +kernel
theorem dX7_init_43 : decode cX7_init 43 = .ok (.newarray .int, 2) := by decide +kernel
theorem dX7_init_45 : decode cX7_init 45 = .ok (.putfield 22, 3) := by decide +kernel
theorem dX7_init_48 : decode cX7_init 48 = .ok (.aload_n 0, 1) := by decide +kernel
theorem dX7_init_49 : decode cX7_init 49 = .ok (.bipush 80, 2) := by decide +kernel
theorem dX7_init_51 : decode cX7_init 51 = .ok (.newarray .int, 2) := by decide +kernel
theorem dX7_init_53 : decode cX7_init 53 = .ok (.putfield 25, 3) := by decide +kernel
theorem dX7_init_56 : decode cX7_init 56 = .ok (.aload_n 0, 1) := by decide +kernel
theorem dX7_init_57 : decode cX7_init 57 = .ok (.bipush 20, 2) := by decide +kernel
theorem dX7_init_59 : decode cX7_init 59 = .ok (.newarray .int, 2) := by decide +kernel
theorem dX7_init_61 : decode cX7_init 61 = .ok (.putfield 28, 3) := by decide +kernel
theorem dX7_init_64 : decode cX7_init 64 = .ok (.aload_n 0, 1) := by decide +kernel
theorem dX7_init_65 : decode cX7_init 65 = .ok (.bipush 20, 2) := by decide +kernel
theorem dX7_init_67 : decode cX7_init 67 = .ok (.newarray .int, 2) := by decide +kernel
theorem dX7_init_69 : decode cX7_init 69 = .ok (.putfield 31, 3) := by decide +kernel
theorem dX7_init_72 : decode cX7_init 72 = .ok (.aload_n 0, 1) := by decide +kernel
theorem dX7_init_73 : decode cX7_init 73 = .ok (.bipush 20, 2) := by decide +kernel
theorem dX7_init_75 : decode cX7_init 75 = .ok (.newarray .int, 2) := by decide +kernel
theorem dX7_init_77 : decode cX7_init 77 = .ok (.putfield 34, 3) := by decide +kernel
theorem dX7_init_80 : decode cX7_init 80 = .ok (.aload_n 0, 1) := by decide +kernel
theorem dX7_init_81 : decode cX7_init 81 = .ok (.getfield 7, 3) := by decide +kernel
theorem dX7_init_84 : decode cX7_init 84 = .ok (.iconst 1, 1) := by decide +kernel
theorem dX7_init_85 : decode cX7_init 85 = .ok (.iconst 3, 1) := by decide +kernel
theorem dX7_init_86 : decode cX7_init 86 = .ok (.iastore, 1) := by decide +kernel
theorem dX7_init_87 : decode cX7_init 87 = .ok (.iconst 0, 1) := by decide +kernel
theorem dX7_init_88 : decode cX7_init 88 = .ok (.istore_n 1, 1) := by decide +kernel
theorem dX7_init_89 : decode cX7_init 89 = .ok (.iload_n 1, 1) := by decide +kernel
theorem dX7_init_90 : decode cX7_init 90 = .ok (.bipush 10, 2) := by decide +kernel
theorem dX7_init_92 : decode cX7_init 92 = .ok (.if_icmp .ge 41, 3) := by decide +kernel
theorem dX7_init_95 : decode cX7_init 95 = .ok (.aload_n 0, 1) := by decide +kernel
theorem dX7_init_96 : decode cX7_init 96 = .ok (.getfield 7, 3) := by decide +kernel
theorem dX7_init_99 : decode cX7_init 99 = .ok (.iconst 2, 1) := by decide +kernel
theorem dX7_init_100 : decode cX7_init 100 = .ok (.iconst 2, 1) := by decide +kernel
theorem dX7_init_101 : decode cX7_init 101 = .ok (.iload_n 1, 1) := by decide +kernel
theorem dX7_init_102 : decode cX7_init 102 = .ok (.imul, 1) := by decide +kernel
theorem dX7_init_103 : decode cX7_init 103 = .ok (.iadd, 1) := by decide +kernel
theorem dX7_init_104 : decode cX7_init 104 = .ok (.iload_n 1, 1) := by decide +kernel
theorem dX7_init_105 : decode cX7_init 105 = .ok (.bipush 6, 2) := by decide +kernel
theorem dX7_init_107 : decode cX7_init 107 = .ok (.irem, 1) := by decide +kernel
theorem dX7_init_108 : decode cX7_init 108 = .ok (.iastore, 1) := by decide +kernel
theorem dX7_init_109 : decode cX7_init 109 = .ok (.aload_n 0, 1) := by decide +kernel
theorem dX7_init_110 : decode cX7_init 110 = .ok (.getfield 7, 3) := by decide +kernel
theorem dX7_init_113 : decode cX7_init 113 = .ok (.iconst 2, 1) := by decide +kernel
theorem dX7_init_114 : decode cX7_init 114 = .ok (.iconst 2, 1) := by decide +kernel
theorem dX7_init_115 : decode cX7_init 115 = .ok (.iload_n 1, 1) := by decide +kernel
theorem dX7_init_116 : decode cX7_init 116 = .ok (.imul, 1) := by decide +kernel
theorem dX7_init_117 : decode cX7_init 117 = .ok (.iadd, 1) := by decide +kernel
theorem dX7_init_118 : decode cX7_init 118 = .ok (.iconst 1, 1) := by decide +kernel
theorem dX7_init_119 : decode cX7_init 119 = .ok (.iadd, 1) := by decide +kernel
theorem dX7_init_120 : decode cX7_init 120 = .ok (.iload_n 1, 1) := by decide +kernel
theorem dX7_init_121 : decode cX7_init 121 = .ok (.iconst 1, 1) := by decide +kernel
theorem dX7_init_122 : decode cX7_init 122 = .ok (.iadd, 1) := by decide +kernel
theorem dX7_init_123 : decode cX7_init 123 = .ok (.bipush 6, 2) := by decide +kernel
theorem dX7_init_125 : decode cX7_init 125 = .ok (.irem, 1) := by decide +kernel
theorem dX7_init_126 : decode cX7_init 126 = .ok (.iastore, 1) := by decide +kernel
theorem dX7_init_127 : decode cX7_init 127 = .ok (.iinc 1 1, 3) := by decide +kernel
theorem dX7_init_130 : decode cX7_init 130 = .ok (.goto (-41), 3) := by decide +kernel
theorem dX7_init_133 : decode cX7_init 133 = .ok (.return_, 1) := by decide +kernel
theorem dX7_in_0 : decode cX7_in 0 = .ok (.lload_n 0, 1) := by decide +kernel
theorem dX7_in_1 : decode cX7_in 1 = .ok (.lload_n 2, 1) := by decide +kernel
theorem dX7_in_2 : decode cX7_in 2 = .ok (.lcmp, 1) := by decide +kernel
theorem dX7_in_3 : decode cX7_in 3 = .ok (.ifCond .lt 14, 3) := by decide +kernel
theorem dX7_in_6 : decode cX7_in 6 = .ok (.lload_n 0, 1) := by decide +kernel
theorem dX7_in_7 : decode cX7_in 7 = .ok (.lload 4, 2) := by decide +kernel
theorem dX7_in_9 : decode cX7_in 9 = .ok (.lcmp, 1) := by decide +kernel
theorem dX7_in_10 : decode cX7_in 10 = .ok (.ifCond .gt 7, 3) := by decide +kernel
theorem dX7_in_13 : decode cX7_in 13 = .ok (.iconst 1, 1) := by decide +kernel
theorem dX7_in_14 : decode cX7_in 14 = .ok (.goto 4, 3) := by decide +kernel
theorem dX7_in_17 : decode cX7_in 17 = .ok (.iconst 0, 1) := by decide +kernel
theorem dX7_in_18 : decode cX7_in 18 = .ok (.ireturn, 1) := by decide +kernel
theorem dX7_keeps_0 : decode cX7_keeps 0 = .ok (.iconst 0, 1) := by decide +kernel
theorem dX7_keeps_1 : decode cX7_keeps 1 = .ok (.istore_n 1, 1) := by decide +kernel
theorem dX7_keeps_2 : decode cX7_keeps 2 = .ok (.iload_n 1, 1) := by decide +kernel
theorem dX7_keeps_3 : decode cX7_keeps 3 = .ok (.sipush 286, 3) := by decide +kernel
theorem dX7_keeps_6 : decode cX7_keeps 6 = .ok (.if_icmp .ge 21, 3) := by decide +kernel
theorem dX7_keeps_9 : decode cX7_keeps 9 = .ok (.aload_n 0, 1) := by decide +kernel
theorem dX7_keeps_10 : decode cX7_keeps 10 = .ok (.getfield 13, 3) := by decide +kernel
theorem dX7_keeps_13 : decode cX7_keeps 13 = .ok (.iload_n 1, 1) := by decide +kernel
theorem dX7_keeps_14 : decode cX7_keeps 14 = .ok (.aload_n 0, 1) := by decide +kernel
theorem dX7_keeps_15 : decode cX7_keeps 15 = .ok (.getfield 7, 3) := by decide +kernel
theorem dX7_keeps_18 : decode cX7_keeps 18 = .ok (.iload_n 1, 1) := by decide +kernel
theorem dX7_keeps_19 : decode cX7_keeps 19 = .ok (.iaload, 1) := by decide +kernel
theorem dX7_keeps_20 : decode cX7_keeps 20 = .ok (.iastore, 1) := by decide +kernel
theorem dX7_keeps_21 : decode cX7_keeps 21 = .ok (.iinc 1 1, 3) := by decide +kernel
theorem dX7_keeps_24 : decode cX7_keeps 24 = .ok (.goto (-22), 3) := by decide +kernel
theorem dX7_keeps_27 : decode cX7_keeps 27 = .ok (.return_, 1) := by decide +kernel
theorem dX7_comesBack_0 : decode cX7_comesBack 0 = .ok (.iconst 0, 1) := by decide +kernel
theorem dX7_comesBack_1 : decode cX7_comesBack 1 = .ok (.istore_n 1, 1) := by decide +kernel
theorem dX7_comesBack_2 : decode cX7_comesBack 2 = .ok (.iload_n 1, 1) := by decide +kernel
theorem dX7_comesBack_3 : decode cX7_comesBack 3 = .ok (.sipush 286, 3) := by decide +kernel
theorem dX7_comesBack_6 : decode cX7_comesBack 6 = .ok (.if_icmp .ge 21, 3) := by decide +kernel
theorem dX7_comesBack_9 : decode cX7_comesBack 9 = .ok (.aload_n 0, 1) := by decide +kernel
theorem dX7_comesBack_10 : decode cX7_comesBack 10 = .ok (.getfield 7, 3) := by decide +kernel
theorem dX7_comesBack_13 : decode cX7_comesBack 13 = .ok (.iload_n 1, 1) := by decide +kernel
theorem dX7_comesBack_14 : decode cX7_comesBack 14 = .ok (.aload_n 0, 1) := by decide +kernel
theorem dX7_comesBack_15 : decode cX7_comesBack 15 = .ok (.getfield 13, 3) := by decide +kernel
theorem dX7_comesBack_18 : decode cX7_comesBack 18 = .ok (.iload_n 1, 1) := by decide +kernel
theorem dX7_comesBack_19 : decode cX7_comesBack 19 = .ok (.iaload, 1) := by decide +kernel
theorem dX7_comesBack_20 : decode cX7_comesBack 20 = .ok (.iastore, 1) := by decide +kernel
theorem dX7_comesBack_21 : decode cX7_comesBack 21 = .ok (.iinc 1 1, 3) := by decide +kernel
theorem dX7_comesBack_24 : decode cX7_comesBack 24 = .ok (.goto (-22), 3) := by decide +kernel
theorem dX7_comesBack_27 : decode cX7_comesBack 27 = .ok (.return_, 1) := by decide +kernel
theorem dX7_records_0 : decode cX7_records 0 = .ok (.aload_n 0, 1) := by decide +kernel
theorem dX7_records_1 : decode cX7_records 1 = .ok (.getfield 37, 3) := by decide +kernel
theorem dX7_records_4 : decode cX7_records 4 = .ok (.iconst 4, 1) := by decide +kernel
theorem dX7_records_5 : decode cX7_records 5 = .ok (.if_icmp .ne 44, 3) := by decide +kernel
theorem dX7_records_8 : decode cX7_records 8 = .ok (.iconst 0, 1) := by decide +kernel
theorem dX7_records_9 : decode cX7_records 9 = .ok (.istore_n 1, 1) := by decide +kernel
theorem dX7_records_10 : decode cX7_records 10 = .ok (.iload_n 1, 1) := by decide +kernel
theorem dX7_records_11 : decode cX7_records 11 = .ok (.sipush 858, 3) := by decide +kernel
theorem dX7_records_14 : decode cX7_records 14 = .ok (.if_icmp .ge 25, 3) := by decide +kernel
theorem dX7_records_17 : decode cX7_records 17 = .ok (.aload_n 0, 1) := by decide +kernel
theorem dX7_records_18 : decode cX7_records 18 = .ok (.getfield 16, 3) := by decide +kernel
theorem dX7_records_21 : decode cX7_records 21 = .ok (.iload_n 1, 1) := by decide +kernel
theorem dX7_records_22 : decode cX7_records 22 = .ok (.aload_n 0, 1) := by decide +kernel
theorem dX7_records_23 : decode cX7_records 23 = .ok (.getfield 16, 3) := by decide +kernel
theorem dX7_records_26 : decode cX7_records 26 = .ok (.iload_n 1, 1) := by decide +kernel
theorem dX7_records_27 : decode cX7_records 27 = .ok (.sipush 286, 3) := by decide +kernel
theorem dX7_records_30 : decode cX7_records 30 = .ok (.iadd, 1) := by decide +kernel
theorem dX7_records_31 : decode cX7_records 31 = .ok (.iaload, 1) := by decide +kernel
theorem dX7_records_32 : decode cX7_records 32 = .ok (.iastore, 1) := by decide +kernel
theorem dX7_records_33 : decode cX7_records 33 = .ok (.iinc 1 1, 3) := by decide +kernel
theorem dX7_records_36 : decode cX7_records 36 = .ok (.goto (-26), 3) := by decide +kernel
theorem dX7_records_39 : decode cX7_records 39 = .ok (.aload_n 0, 1) := by decide +kernel
theorem dX7_records_40 : decode cX7_records 40 = .ok (.dup, 1) := by decide +kernel
theorem dX7_records_41 : decode cX7_records 41 = .ok (.getfield 37, 3) := by decide +kernel
theorem dX7_records_44 : decode cX7_records 44 = .ok (.iconst 1, 1) := by decide +kernel
theorem dX7_records_45 : decode cX7_records 45 = .ok (.isub, 1) := by decide +kernel
theorem dX7_records_46 : decode cX7_records 46 = .ok (.putfield 37, 3) := by decide +kernel
theorem dX7_records_49 : decode cX7_records 49 = .ok (.iconst 0, 1) := by decide +kernel
theorem dX7_records_50 : decode cX7_records 50 = .ok (.istore_n 1, 1) := by decide +kernel
theorem dX7_records_51 : decode cX7_records 51 = .ok (.iload_n 1, 1) := by decide +kernel
theorem dX7_records_52 : decode cX7_records 52 = .ok (.sipush 286, 3) := by decide +kernel
theorem dX7_records_55 : decode cX7_records 55 = .ok (.if_icmp .ge 30, 3) := by decide +kernel
theorem dX7_records_58 : decode cX7_records 58 = .ok (.aload_n 0, 1) := by decide +kernel
theorem dX7_records_59 : decode cX7_records 59 = .ok (.getfield 16, 3) := by decide +kernel
theorem dX7_records_62 : decode cX7_records 62 = .ok (.sipush 286, 3) := by decide +kernel
theorem dX7_records_65 : decode cX7_records 65 = .ok (.aload_n 0, 1) := by decide +kernel
theorem dX7_records_66 : decode cX7_records 66 = .ok (.getfield 37, 3) := by decide +kernel
theorem dX7_records_69 : decode cX7_records 69 = .ok (.imul, 1) := by decide +kernel
theorem dX7_records_70 : decode cX7_records 70 = .ok (.iload_n 1, 1) := by decide +kernel
theorem dX7_records_71 : decode cX7_records 71 = .ok (.iadd, 1) := by decide +kernel
theorem dX7_records_72 : decode cX7_records 72 = .ok (.aload_n 0, 1) := by decide +kernel
theorem dX7_records_73 : decode cX7_records 73 = .ok (.getfield 13, 3) := by decide +kernel
theorem dX7_records_76 : decode cX7_records 76 = .ok (.iload_n 1, 1) := by decide +kernel
theorem dX7_records_77 : decode cX7_records 77 = .ok (.iaload, 1) := by decide +kernel
theorem dX7_records_78 : decode cX7_records 78 = .ok (.iastore, 1) := by decide +kernel
theorem dX7_records_79 : decode cX7_records 79 = .ok (.iinc 1 1, 3) := by decide +kernel
theorem dX7_records_82 : decode cX7_records 82 = .ok (.goto (-31), 3) := by decide +kernel
theorem dX7_records_85 : decode cX7_records 85 = .ok (.aload_n 0, 1) := by decide +kernel
theorem dX7_records_86 : decode cX7_records 86 = .ok (.dup, 1) := by decide +kernel
theorem dX7_records_87 : decode cX7_records 87 = .ok (.getfield 37, 3) := by decide +kernel
theorem dX7_records_90 : decode cX7_records 90 = .ok (.iconst 1, 1) := by decide +kernel
theorem dX7_records_91 : decode cX7_records 91 = .ok (.iadd, 1) := by decide +kernel
theorem dX7_records_92 : decode cX7_records 92 = .ok (.putfield 37, 3) := by decide +kernel
theorem dX7_records_95 : decode cX7_records 95 = .ok (.return_, 1) := by decide +kernel
set_option maxRecDepth 20000 in
theorem ggX7_ends_X7_comesBack : GoodIn wsX7_ends wsX7_comesBack := goodIn_r _ [5, 6, 7, 14, 15, 16, 17, 18, 19, 20, 21, 22, 23, 24, 25, 26, 27] (by decide +kernel) (by decide +kernel)
set_option maxRecDepth 20000 in
theorem gX7_ends_X7_comesBack : GoodIn wsX7_ends (wsV RX7 41 RX7 yX7_comesBack wsX7_comesBack) := goodIn_app (goodIn_of _ (by decide +kernel)) ggX7_ends_X7_comesBack
set_option maxRecDepth 20000 in
theorem ggX7_ends_X7_records : GoodIn wsX7_ends wsX7_records := goodIn_r _ [11, 12, 13, 7, 14, 15, 16, 17, 18, 19, 20, 21, 22, 23, 24, 25, 26, 27] (by decide +kernel) (by decide +kernel)
set_option maxRecDepth 20000 in
theorem gX7_ends_X7_records : GoodIn wsX7_ends (wsV RX7 44 RX7 yX7_records wsX7_records) := goodIn_app (goodIn_of _ (by decide +kernel)) ggX7_ends_X7_records
theorem dX7_ends_0 : decode cX7_ends 0 = .ok (.iload_n 1, 1) := by decide +kernel
theorem dX7_ends_1 : decode cX7_ends 1 = .ok (.ifCond .ge 10, 3) := by decide +kernel
theorem dX7_ends_4 : decode cX7_ends 4 = .ok (.aload_n 0, 1) := by decide +kernel
theorem dX7_ends_5 : decode cX7_ends 5 = .ok (.invokevirtual 41, 3) := by decide +kernel
theorem dX7_ends_8 : decode cX7_ends 8 = .ok (.goto 7, 3) := by decide +kernel
theorem dX7_ends_11 : decode cX7_ends 11 = .ok (.aload_n 0, 1) := by decide +kernel
theorem dX7_ends_12 : decode cX7_ends 12 = .ok (.invokevirtual 44, 3) := by decide +kernel
theorem dX7_ends_15 : decode cX7_ends 15 = .ok (.iload_n 1, 1) := by decide +kernel
theorem dX7_ends_16 : decode cX7_ends 16 = .ok (.ireturn, 1) := by decide +kernel
set_option maxRecDepth 20000 in
theorem ggX7_isKind_X7_in : GoodIn wsX7_isKind wsX7_in := goodIn_r _ [5] (by decide +kernel) (by decide +kernel)
set_option maxRecDepth 20000 in
theorem gX7_isKind_X7_in : GoodIn wsX7_isKind (va_wsS RX7 47 yX7_in wsX7_in) := goodIn_app (goodIn_of _ (by decide +kernel)) ggX7_isKind_X7_in
theorem dX7_isKind_0 : decode cX7_isKind 0 = .ok (.iload_n 1, 1) := by decide +kernel
theorem dX7_isKind_1 : decode cX7_isKind 1 = .ok (.i2l, 1) := by decide +kernel
theorem dX7_isKind_2 : decode cX7_isKind 2 = .ok (.lconst 0, 1) := by decide +kernel
theorem dX7_isKind_3 : decode cX7_isKind 3 = .ok (.aload_n 0, 1) := by decide +kernel
theorem dX7_isKind_4 : decode cX7_isKind 4 = .ok (.getfield 7, 3) := by decide +kernel
theorem dX7_isKind_7 : decode cX7_isKind 7 = .ok (.iconst 1, 1) := by decide +kernel
theorem dX7_isKind_8 : decode cX7_isKind 8 = .ok (.iaload, 1) := by decide +kernel
theorem dX7_isKind_9 : decode cX7_isKind 9 = .ok (.i2l, 1) := by decide +kernel
theorem dX7_isKind_10 : decode cX7_isKind 10 = .ok (.lconst 1, 1) := by decide +kernel
theorem dX7_isKind_11 : decode cX7_isKind 11 = .ok (.lsub, 1) := by decide +kernel
theorem dX7_isKind_12 : decode cX7_isKind 12 = .ok (.invokestatic 47, 3) := by decide +kernel
theorem dX7_isKind_15 : decode cX7_isKind 15 = .ok (.ireturn, 1) := by decide +kernel
theorem dX7_handOf_0 : decode cX7_handOf 0 = .ok (.aload_n 0, 1) := by decide +kernel
theorem dX7_handOf_1 : decode cX7_handOf 1 = .ok (.getfield 7, 3) := by decide +kernel
theorem dX7_handOf_4 : decode cX7_handOf 4 = .ok (.iconst 2, 1) := by decide +kernel
theorem dX7_handOf_5 : decode cX7_handOf 5 = .ok (.iload_n 1, 1) := by decide +kernel
theorem dX7_handOf_6 : decode cX7_handOf 6 = .ok (.iconst 2, 1) := by decide +kernel
theorem dX7_handOf_7 : decode cX7_handOf 7 = .ok (.idiv, 1) := by decide +kernel
theorem dX7_handOf_8 : decode cX7_handOf 8 = .ok (.iconst 2, 1) := by decide +kernel
theorem dX7_handOf_9 : decode cX7_handOf 9 = .ok (.imul, 1) := by decide +kernel
theorem dX7_handOf_10 : decode cX7_handOf 10 = .ok (.iadd, 1) := by decide +kernel
theorem dX7_handOf_11 : decode cX7_handOf 11 = .ok (.iload_n 2, 1) := by decide +kernel
theorem dX7_handOf_12 : decode cX7_handOf 12 = .ok (.iload_n 1, 1) := by decide +kernel
theorem dX7_handOf_13 : decode cX7_handOf 13 = .ok (.iadd, 1) := by decide +kernel
theorem dX7_handOf_14 : decode cX7_handOf 14 = .ok (.iconst 2, 1) := by decide +kernel
theorem dX7_handOf_15 : decode cX7_handOf 15 = .ok (.irem, 1) := by decide +kernel
theorem dX7_handOf_16 : decode cX7_handOf 16 = .ok (.iadd, 1) := by decide +kernel
theorem dX7_handOf_17 : decode cX7_handOf 17 = .ok (.iaload, 1) := by decide +kernel
theorem dX7_handOf_18 : decode cX7_handOf 18 = .ok (.ireturn, 1) := by decide +kernel
set_option maxRecDepth 20000 in
theorem ggX7_clash_X7_handOf : GoodIn wsX7_clash wsX7_handOf := goodIn_r _ [6, 1, 7, 8, 9, 10, 11, 12, 13, 14, 15, 16, 17, 18, 19, 20] (by decide +kernel) (by decide +kernel)
set_option maxRecDepth 20000 in
theorem gX7_clash_X7_handOf : GoodIn wsX7_clash (wsV RX7 51 RX7 yX7_handOf wsX7_handOf) := goodIn_app (goodIn_of _ (by decide +kernel)) ggX7_clash_X7_handOf
theorem dX7_clash_0 : decode cX7_clash 0 = .ok (.aload_n 0, 1) := by decide +kernel
theorem dX7_clash_1 : decode cX7_clash 1 = .ok (.iload_n 1, 1) := by decide +kernel
theorem dX7_clash_2 : decode cX7_clash 2 = .ok (.iconst 1, 1) := by decide +kernel
theorem dX7_clash_3 : decode cX7_clash 3 = .ok (.invokevirtual 51, 3) := by decide +kernel
theorem dX7_clash_6 : decode cX7_clash 6 = .ok (.istore_n 3, 1) := by decide +kernel
theorem dX7_clash_7 : decode cX7_clash 7 = .ok (.aload_n 0, 1) := by decide +kernel
theorem dX7_clash_8 : decode cX7_clash 8 = .ok (.iload_n 2, 1) := by decide +kernel
theorem dX7_clash_9 : decode cX7_clash 9 = .ok (.iconst 0, 1) := by decide +kernel
theorem dX7_clash_10 : decode cX7_clash 10 = .ok (.invokevirtual 51, 3) := by decide +kernel
theorem dX7_clash_13 : decode cX7_clash 13 = .ok (.istore 4, 2) := by decide +kernel
theorem dX7_clash_15 : decode cX7_clash 15 = .ok (.iload_n 3, 1) := by decide +kernel
theorem dX7_clash_16 : decode cX7_clash 16 = .ok (.ifCond .eq 8, 3) := by decide +kernel
theorem dX7_clash_19 : decode cX7_clash 19 = .ok (.iload 4, 2) := by decide +kernel
theorem dX7_clash_21 : decode cX7_clash 21 = .ok (.ifCond .ne 5, 3) := by decide +kernel
theorem dX7_clash_24 : decode cX7_clash 24 = .ok (.iconst 0, 1) := by decide +kernel
theorem dX7_clash_25 : decode cX7_clash 25 = .ok (.ireturn, 1) := by decide +kernel
theorem dX7_clash_26 : decode cX7_clash 26 = .ok (.aload_n 0, 1) := by decide +kernel
theorem dX7_clash_27 : decode cX7_clash 27 = .ok (.getfield 7, 3) := by decide +kernel
theorem dX7_clash_30 : decode cX7_clash 30 = .ok (.iconst 0, 1) := by decide +kernel
theorem dX7_clash_31 : decode cX7_clash 31 = .ok (.iaload, 1) := by decide +kernel
theorem dX7_clash_32 : decode cX7_clash 32 = .ok (.iconst 2, 1) := by decide +kernel
theorem dX7_clash_33 : decode cX7_clash 33 = .ok (.if_icmp .ne 17, 3) := by decide +kernel
theorem dX7_clash_36 : decode cX7_clash 36 = .ok (.iload_n 3, 1) := by decide +kernel
theorem dX7_clash_37 : decode cX7_clash 37 = .ok (.iload 4, 2) := by decide +kernel
theorem dX7_clash_39 : decode cX7_clash 39 = .ok (.if_icmp .eq 7, 3) := by decide +kernel
theorem dX7_clash_42 : decode cX7_clash 42 = .ok (.iconst 1, 1) := by decide +kernel
theorem dX7_clash_43 : decode cX7_clash 43 = .ok (.goto 37, 3) := by decide +kernel
theorem dX7_clash_46 : decode cX7_clash 46 = .ok (.iconst 0, 1) := by decide +kernel
theorem dX7_clash_47 : decode cX7_clash 47 = .ok (.goto 33, 3) := by decide +kernel
theorem dX7_clash_50 : decode cX7_clash 50 = .ok (.iload_n 3, 1) := by decide +kernel
theorem dX7_clash_51 : decode cX7_clash 51 = .ok (.iload 4, 2) := by decide +kernel
theorem dX7_clash_53 : decode cX7_clash 53 = .ok (.if_icmp .ne 26, 3) := by decide +kernel
theorem dX7_clash_56 : decode cX7_clash 56 = .ok (.aload_n 0, 1) := by decide +kernel
theorem dX7_clash_57 : decode cX7_clash 57 = .ok (.getfield 7, 3) := by decide +kernel
theorem dX7_clash_60 : decode cX7_clash 60 = .ok (.iconst 0, 1) := by decide +kernel
theorem dX7_clash_61 : decode cX7_clash 61 = .ok (.iaload, 1) := by decide +kernel
theorem dX7_clash_62 : decode cX7_clash 62 = .ok (.iconst 1, 1) := by decide +kernel
theorem dX7_clash_63 : decode cX7_clash 63 = .ok (.if_icmp .eq 12, 3) := by decide +kernel
theorem dX7_clash_66 : decode cX7_clash 66 = .ok (.iload_n 1, 1) := by decide +kernel
theorem dX7_clash_67 : decode cX7_clash 67 = .ok (.iload_n 2, 1) := by decide +kernel
theorem dX7_clash_68 : decode cX7_clash 68 = .ok (.iadd, 1) := by decide +kernel
theorem dX7_clash_69 : decode cX7_clash 69 = .ok (.iconst 2, 1) := by decide +kernel
theorem dX7_clash_70 : decode cX7_clash 70 = .ok (.irem, 1) := by decide +kernel
theorem dX7_clash_71 : decode cX7_clash 71 = .ok (.iconst 1, 1) := by decide +kernel
theorem dX7_clash_72 : decode cX7_clash 72 = .ok (.if_icmp .ne 7, 3) := by decide +kernel
theorem dX7_clash_75 : decode cX7_clash 75 = .ok (.iconst 1, 1) := by decide +kernel
theorem dX7_clash_76 : decode cX7_clash 76 = .ok (.goto 4, 3) := by decide +kernel
theorem dX7_clash_79 : decode cX7_clash 79 = .ok (.iconst 0, 1) := by decide +kernel
theorem dX7_clash_80 : decode cX7_clash 80 = .ok (.ireturn, 1) := by decide +kernel
set_option maxRecDepth 20000 in
theorem ggX7_isGarland_X7_in : GoodIn wsX7_isGarland wsX7_in := goodIn_r _ [6] (by decide +kernel) (by decide +kernel)
set_option maxRecDepth 20000 in
theorem gX7_isGarland_X7_in : GoodIn wsX7_isGarland (va_wsS RX7 47 yX7_in wsX7_in) := goodIn_app (goodIn_of _ (by decide +kernel)) ggX7_isGarland_X7_in
theorem dX7_isGarland_0 : decode cX7_isGarland 0 = .ok (.iload_n 1, 1) := by decide +kernel
theorem dX7_isGarland_1 : decode cX7_isGarland 1 = .ok (.i2l, 1) := by decide +kernel
theorem dX7_isGarland_2 : decode cX7_isGarland 2 = .ok (.lconst 0, 1) := by decide +kernel
theorem dX7_isGarland_3 : decode cX7_isGarland 3 = .ok (.ldc2_w 55, 3) := by decide +kernel
theorem dX7_isGarland_6 : decode cX7_isGarland 6 = .ok (.invokestatic 47, 3) := by decide +kernel
theorem dX7_isGarland_9 : decode cX7_isGarland 9 = .ok (.ifCond .eq 19, 3) := by decide +kernel
theorem dX7_isGarland_12 : decode cX7_isGarland 12 = .ok (.aload_n 0, 1) := by decide +kernel
theorem dX7_isGarland_13 : decode cX7_isGarland 13 = .ok (.getfield 7, 3) := by decide +kernel
theorem dX7_isGarland_16 : decode cX7_isGarland 16 = .ok (.bipush 22, 2) := by decide +kernel
theorem dX7_isGarland_18 : decode cX7_isGarland 18 = .ok (.iload_n 1, 1) := by decide +kernel
theorem dX7_isGarland_19 : decode cX7_isGarland 19 = .ok (.iadd, 1) := by decide +kernel
theorem dX7_isGarland_20 : decode cX7_isGarland 20 = .ok (.iaload, 1) := by decide +kernel
theorem dX7_isGarland_21 : decode cX7_isGarland 21 = .ok (.ifCond .le 7, 3) := by decide +kernel
theorem dX7_isGarland_24 : decode cX7_isGarland 24 = .ok (.iconst 1, 1) := by decide +kernel
theorem dX7_isGarland_25 : decode cX7_isGarland 25 = .ok (.goto 4, 3) := by decide +kernel
theorem dX7_isGarland_28 : decode cX7_isGarland 28 = .ok (.iconst 0, 1) := by decide +kernel
theorem dX7_isGarland_29 : decode cX7_isGarland 29 = .ok (.ireturn, 1) := by decide +kernel
theorem dX7_dollAt_0 : decode cX7_dollAt 0 = .ok (.aload_n 0, 1) := by decide +kernel
theorem dX7_dollAt_1 : decode cX7_dollAt 1 = .ok (.getfield 7, 3) := by decide +kernel
theorem dX7_dollAt_4 : decode cX7_dollAt 4 = .ok (.bipush 30, 2) := by decide +kernel
theorem dX7_dollAt_6 : decode cX7_dollAt 6 = .ok (.bipush 32, 2) := by decide +kernel
theorem dX7_dollAt_8 : decode cX7_dollAt 8 = .ok (.iload_n 1, 1) := by decide +kernel
theorem dX7_dollAt_9 : decode cX7_dollAt 9 = .ok (.imul, 1) := by decide +kernel
theorem dX7_dollAt_10 : decode cX7_dollAt 10 = .ok (.iadd, 1) := by decide +kernel
theorem dX7_dollAt_11 : decode cX7_dollAt 11 = .ok (.iload_n 2, 1) := by decide +kernel
theorem dX7_dollAt_12 : decode cX7_dollAt 12 = .ok (.iadd, 1) := by decide +kernel
theorem dX7_dollAt_13 : decode cX7_dollAt 13 = .ok (.iaload, 1) := by decide +kernel
theorem dX7_dollAt_14 : decode cX7_dollAt 14 = .ok (.ireturn, 1) := by decide +kernel
set_option maxRecDepth 20000 in
theorem ggX7_last_X7_dollAt : GoodIn wsX7_last wsX7_dollAt := goodIn_r _ [6, 1, 7, 8, 9, 10, 11, 12, 13, 14, 15, 16, 17, 18, 19, 20] (by decide +kernel) (by decide +kernel)
set_option maxRecDepth 20000 in
theorem gX7_last_X7_dollAt : GoodIn wsX7_last (wsV RX7 57 RX7 yX7_dollAt wsX7_dollAt) := goodIn_app (goodIn_of _ (by decide +kernel)) ggX7_last_X7_dollAt
theorem dX7_last_0 : decode cX7_last 0 = .ok (.aload_n 0, 1) := by decide +kernel
theorem dX7_last_1 : decode cX7_last 1 = .ok (.iload_n 1, 1) := by decide +kernel
theorem dX7_last_2 : decode cX7_last 2 = .ok (.aload_n 0, 1) := by decide +kernel
theorem dX7_last_3 : decode cX7_last 3 = .ok (.getfield 7, 3) := by decide +kernel
theorem dX7_last_6 : decode cX7_last 6 = .ok (.bipush 22, 2) := by decide +kernel
theorem dX7_last_8 : decode cX7_last 8 = .ok (.iload_n 1, 1) := by decide +kernel
theorem dX7_last_9 : decode cX7_last 9 = .ok (.iadd, 1) := by decide +kernel
theorem dX7_last_10 : decode cX7_last 10 = .ok (.iaload, 1) := by decide +kernel
theorem dX7_last_11 : decode cX7_last 11 = .ok (.iconst 1, 1) := by decide +kernel
theorem dX7_last_12 : decode cX7_last 12 = .ok (.isub, 1) := by decide +kernel
theorem dX7_last_13 : decode cX7_last 13 = .ok (.invokevirtual 57, 3) := by decide +kernel
theorem dX7_last_16 : decode cX7_last 16 = .ok (.ireturn, 1) := by decide +kernel
theorem dX7_lays_0 : decode cX7_lays 0 = .ok (.aload_n 0, 1) := by decide +kernel
theorem dX7_lays_1 : decode cX7_lays 1 = .ok (.getfield 7, 3) := by decide +kernel
theorem dX7_lays_4 : decode cX7_lays 4 = .ok (.bipush 30, 2) := by decide +kernel
theorem dX7_lays_6 : decode cX7_lays 6 = .ok (.bipush 32, 2) := by decide +kernel
theorem dX7_lays_8 : decode cX7_lays 8 = .ok (.iload_n 1, 1) := by decide +kernel
theorem dX7_lays_9 : decode cX7_lays 9 = .ok (.imul, 1) := by decide +kernel
theorem dX7_lays_10 : decode cX7_lays 10 = .ok (.iadd, 1) := by decide +kernel
theorem dX7_lays_11 : decode cX7_lays 11 = .ok (.iload_n 2, 1) := by decide +kernel
theorem dX7_lays_12 : decode cX7_lays 12 = .ok (.iadd, 1) := by decide +kernel
theorem dX7_lays_13 : decode cX7_lays 13 = .ok (.iload_n 3, 1) := by decide +kernel
theorem dX7_lays_14 : decode cX7_lays 14 = .ok (.iastore, 1) := by decide +kernel
theorem dX7_lays_15 : decode cX7_lays 15 = .ok (.return_, 1) := by decide +kernel
theorem dX7_freeNumber_0 : decode cX7_freeNumber 0 = .ok (.iconst 0, 1) := by decide +kernel
theorem dX7_freeNumber_1 : decode cX7_freeNumber 1 = .ok (.istore_n 1, 1) := by decide +kernel
theorem dX7_freeNumber_2 : decode cX7_freeNumber 2 = .ok (.iload_n 1, 1) := by decide +kernel
theorem dX7_freeNumber_3 : decode cX7_freeNumber 3 = .ok (.bipush 8, 2) := by decide +kernel
theorem dX7_freeNumber_5 : decode cX7_freeNumber 5 = .ok (.if_icmp .ge 23, 3) := by decide +kernel
theorem dX7_freeNumber_8 : decode cX7_freeNumber 8 = .ok (.aload_n 0, 1) := by decide +kernel
theorem dX7_freeNumber_9 : decode cX7_freeNumber 9 = .ok (.getfield 7, 3) := by decide +kernel
theorem dX7_freeNumber_12 : decode cX7_freeNumber 12 = .ok (.bipush 22, 2) := by decide +kernel
theorem dX7_freeNumber_14 : decode cX7_freeNumber 14 = .ok (.iload_n 1, 1) := by decide +kernel
theorem dX7_freeNumber_15 : decode cX7_freeNumber 15 = .ok (.iadd, 1) := by decide +kernel
theorem dX7_freeNumber_16 : decode cX7_freeNumber 16 = .ok (.iaload, 1) := by decide +kernel
theorem dX7_freeNumber_17 : decode cX7_freeNumber 17 = .ok (.ifCond .ne 5, 3) := by decide +kernel
theorem dX7_freeNumber_20 : decode cX7_freeNumber 20 = .ok (.iload_n 1, 1) := by decide +kernel
theorem dX7_freeNumber_21 : decode cX7_freeNumber 21 = .ok (.ireturn, 1) := by decide +kernel
theorem dX7_freeNumber_22 : decode cX7_freeNumber 22 = .ok (.iinc 1 1, 3) := by decide +kernel
theorem dX7_freeNumber_25 : decode cX7_freeNumber 25 = .ok (.goto (-23), 3) := by decide +kernel
theorem dX7_freeNumber_28 : decode cX7_freeNumber 28 = .ok (.bipush (-5), 2) := by decide +kernel
theorem dX7_freeNumber_30 : decode cX7_freeNumber 30 = .ok (.ireturn, 1) := by decide +kernel
set_option maxRecDepth 20000 in
theorem ggX7_anyClash_X7_dollAt : GoodIn wsX7_anyClash wsX7_dollAt := goodIn_r _ [6, 1, 15, 16, 17, 18, 19, 20, 21, 22, 23, 24, 25, 26, 27, 28] (by decide +kernel) (by decide +kernel)
set_option maxRecDepth 20000 in
theorem gX7_anyClash_X7_dollAt : GoodIn wsX7_anyClash (wsV RX7 57 RX7 yX7_dollAt wsX7_dollAt) := goodIn_app (goodIn_of _ (by decide +kernel)) ggX7_anyClash_X7_dollAt
set_option maxRecDepth 20000 in
theorem ggX7_anyClash_X7_clash : GoodIn wsX7_anyClash wsX7_clash := goodIn_r _ [10, 1, 11, 12, 13, 5, 14, 15, 16, 17, 18, 19, 20, 21, 22, 23, 24, 25, 26, 27, 28] (by decide +kernel) (by decide +kernel)
set_option maxRecDepth 20000 in
theorem gX7_anyClash_X7_clash : GoodIn wsX7_anyClash (wsV RX7 60 RX7 yX7_clash wsX7_clash) := goodIn_app (goodIn_of _ (by decide +kernel)) ggX7_anyClash_X7_clash
theorem dX7_anyClash_0 : decode cX7_anyClash 0 = .ok (.iconst 0, 1) := by decide +kernel
theorem dX7_anyClash_1 : decode cX7_anyClash 1 = .ok (.istore_n 1, 1) := by decide +kernel
theorem dX7_anyClash_2 : decode cX7_anyClash 2 = .ok (.iconst 0, 1) := by decide +kernel
theorem dX7_anyClash_3 : decode cX7_anyClash 3 = .ok (.istore_n 2, 1) := by decide +kernel
theorem dX7_anyClash_4 : decode cX7_anyClash 4 = .ok (.iload_n 2, 1) := by decide +kernel
theorem dX7_anyClash_5 : decode cX7_anyClash 5 = .ok (.bipush 8, 2) := by decide +kernel
theorem dX7_anyClash_7 : decode cX7_anyClash 7 = .ok (.if_icmp .ge 61, 3) := by decide +kernel
theorem dX7_anyClash_10 : decode cX7_anyClash 10 = .ok (.iconst 1, 1) := by decide +kernel
theorem dX7_anyClash_11 : decode cX7_anyClash 11 = .ok (.istore_n 3, 1) := by decide +kernel
theorem dX7_anyClash_12 : decode cX7_anyClash 12 = .ok (.iload_n 3, 1) := by decide +kernel
theorem dX7_anyClash_13 : decode cX7_anyClash 13 = .ok (.aload_n 0, 1) := by decide +kernel
theorem dX7_anyClash_14 : decode cX7_anyClash 14 = .ok (.getfield 7, 3) := by decide +kernel
theorem dX7_anyClash_17 : decode cX7_anyClash 17 = .ok (.bipush 22, 2) := by decide +kernel
theorem dX7_anyClash_19 : decode cX7_anyClash 19 = .ok (.iload_n 2, 1) := by decide +kernel
theorem dX7_anyClash_20 : decode cX7_anyClash 20 = .ok (.iadd, 1) := by decide +kernel
theorem dX7_anyClash_21 : decode cX7_anyClash 21 = .ok (.iaload, 1) := by decide +kernel
theorem dX7_anyClash_22 : decode cX7_anyClash 22 = .ok (.if_icmp .ge 40, 3) := by decide +kernel
theorem dX7_anyClash_25 : decode cX7_anyClash 25 = .ok (.iload_n 1, 1) := by decide +kernel
theorem dX7_anyClash_26 : decode cX7_anyClash 26 = .ok (.ifCond .ne 24, 3) := by decide +kernel
theorem dX7_anyClash_29 : decode cX7_anyClash 29 = .ok (.aload_n 0, 1) := by decide +kernel
theorem dX7_anyClash_30 : decode cX7_anyClash 30 = .ok (.aload_n 0, 1) := by decide +kernel
theorem dX7_anyClash_31 : decode cX7_anyClash 31 = .ok (.iload_n 2, 1) := by decide +kernel
theorem dX7_anyClash_32 : decode cX7_anyClash 32 = .ok (.iload_n 3, 1) := by decide +kernel
theorem dX7_anyClash_33 : decode cX7_anyClash 33 = .ok (.iconst 1, 1) := by decide +kernel
theorem dX7_anyClash_34 : decode cX7_anyClash 34 = .ok (.isub, 1) := by decide +kernel
theorem dX7_anyClash_35 : decode cX7_anyClash 35 = .ok (.invokevirtual 57, 3) := by decide +kernel
theorem dX7_anyClash_38 : decode cX7_anyClash 38 = .ok (.aload_n 0, 1) := by decide +kernel
theorem dX7_anyClash_39 : decode cX7_anyClash 39 = .ok (.iload_n 2, 1) := by decide +kernel
theorem dX7_anyClash_40 : decode cX7_anyClash 40 = .ok (.iload_n 3, 1) := by decide +kernel
theorem dX7_anyClash_41 : decode cX7_anyClash 41 = .ok (.invokevirtual 57, 3) := by decide +kernel
theorem dX7_anyClash_44 : decode cX7_anyClash 44 = .ok (.invokevirtual 60, 3) := by decide +kernel
theorem dX7_anyClash_47 : decode cX7_anyClash 47 = .ok (.ifCond .eq 7, 3) := by decide +kernel
theorem dX7_anyClash_50 : decode cX7_anyClash 50 = .ok (.iconst 1, 1) := by decide +kernel
theorem dX7_anyClash_51 : decode cX7_anyClash 51 = .ok (.goto 4, 3) := by decide +kernel
theorem dX7_anyClash_54 : decode cX7_anyClash 54 = .ok (.iconst 0, 1) := by decide +kernel
theorem dX7_anyClash_55 : decode cX7_anyClash 55 = .ok (.istore_n 1, 1) := by decide +kernel
theorem dX7_anyClash_56 : decode cX7_anyClash 56 = .ok (.iinc 3 1, 3) := by decide +kernel
theorem dX7_anyClash_59 : decode cX7_anyClash 59 = .ok (.goto (-47), 3) := by decide +kernel
theorem dX7_anyClash_62 : decode cX7_anyClash 62 = .ok (.iinc 2 1, 3) := by decide +kernel
theorem dX7_anyClash_65 : decode cX7_anyClash 65 = .ok (.goto (-61), 3) := by decide +kernel
theorem dX7_anyClash_68 : decode cX7_anyClash 68 = .ok (.iload_n 1, 1) := by decide +kernel
theorem dX7_anyClash_69 : decode cX7_anyClash 69 = .ok (.ireturn, 1) := by decide +kernel
set_option maxRecDepth 20000 in
theorem ggX7_turnedDoll_X7_dollAt : GoodIn wsX7_turnedDoll wsX7_dollAt := goodIn_r _ [6, 1, 7, 8, 9, 10, 11, 12, 13, 14, 15, 16, 17, 18, 19, 20] (by decide +kernel) (by decide +kernel)
set_option maxRecDepth 20000 in
theorem gX7_turnedDoll_X7_dollAt : GoodIn wsX7_turnedDoll (wsV RX7 57 RX7 yX7_dollAt wsX7_dollAt) := goodIn_app (goodIn_of _ (by decide +kernel)) ggX7_turnedDoll_X7_dollAt
theorem dX7_turnedDoll_0 : decode cX7_turnedDoll 0 = .ok (.aload_n 0, 1) := by decide +kernel
theorem dX7_turnedDoll_1 : decode cX7_turnedDoll 1 = .ok (.iload_n 1, 1) := by decide +kernel
theorem dX7_turnedDoll_2 : decode cX7_turnedDoll 2 = .ok (.aload_n 0, 1) := by decide +kernel
theorem dX7_turnedDoll_3 : decode cX7_turnedDoll 3 = .ok (.getfield 7, 3) := by decide +kernel
theorem dX7_turnedDoll_6 : decode cX7_turnedDoll 6 = .ok (.bipush 22, 2) := by decide +kernel
theorem dX7_turnedDoll_8 : decode cX7_turnedDoll 8 = .ok (.iload_n 1, 1) := by decide +kernel
theorem dX7_turnedDoll_9 : decode cX7_turnedDoll 9 = .ok (.iadd, 1) := by decide +kernel
theorem dX7_turnedDoll_10 : decode cX7_turnedDoll 10 = .ok (.iaload, 1) := by decide +kernel
theorem dX7_turnedDoll_11 : decode cX7_turnedDoll 11 = .ok (.iconst 1, 1) := by decide +kernel
theorem dX7_turnedDoll_12 : decode cX7_turnedDoll 12 = .ok (.isub, 1) := by decide +kernel
theorem dX7_turnedDoll_13 : decode cX7_turnedDoll 13 = .ok (.iload_n 2, 1) := by decide +kernel
theorem dX7_turnedDoll_14 : decode cX7_turnedDoll 14 = .ok (.isub, 1) := by decide +kernel
theorem dX7_turnedDoll_15 : decode cX7_turnedDoll 15 = .ok (.invokevirtual 57, 3) := by decide +kernel
theorem dX7_turnedDoll_18 : decode cX7_turnedDoll 18 = .ok (.iconst 1, 1) := by decide +kernel
theorem dX7_turnedDoll_19 : decode cX7_turnedDoll 19 = .ok (.ixor, 1) := by decide +kernel
theorem dX7_turnedDoll_20 : decode cX7_turnedDoll 20 = .ok (.ireturn, 1) := by decide +kernel
set_option maxRecDepth 20000 in
theorem ggX7_isLike_X7_dollAt : GoodIn wsX7_isLike wsX7_dollAt := goodIn_r _ [6, 1, 11, 12, 13, 14, 15, 16, 17, 18, 19, 20, 21, 22, 23, 24] (by decide +kernel) (by decide +kernel)
set_option maxRecDepth 20000 in
theorem gX7_isLike_X7_dollAt : GoodIn wsX7_isLike (wsV RX7 57 RX7 yX7_dollAt wsX7_dollAt) := goodIn_app (goodIn_of _ (by decide +kernel)) ggX7_isLike_X7_dollAt
set_option maxRecDepth 20000 in
theorem ggX7_isLike_X7_turnedDoll : GoodIn wsX7_isLike wsX7_turnedDoll := goodIn_r _ [10, 1, 2, 3, 4, 5, 6, 11, 12, 13, 14, 15, 16, 17, 18, 19, 20, 21, 22, 23, 24] (by decide +kernel) (by decide +kernel)
set_option maxRecDepth 20000 in
theorem gX7_isLike_X7_turnedDoll : GoodIn wsX7_isLike (wsV RX7 64 RX7 yX7_turnedDoll wsX7_turnedDoll) := goodIn_app (goodIn_of _ (by decide +kernel)) ggX7_isLike_X7_turnedDoll
theorem dX7_isLike_0 : decode cX7_isLike 0 = .ok (.aload_n 0, 1) := by decide +kernel
theorem dX7_isLike_1 : decode cX7_isLike 1 = .ok (.getfield 7, 3) := by decide +kernel
theorem dX7_isLike_4 : decode cX7_isLike 4 = .ok (.bipush 22, 2) := by decide +kernel
theorem dX7_isLike_6 : decode cX7_isLike 6 = .ok (.iload_n 1, 1) := by decide +kernel
theorem dX7_isLike_7 : decode cX7_isLike 7 = .ok (.iadd, 1) := by decide +kernel
theorem dX7_isLike_8 : decode cX7_isLike 8 = .ok (.iaload, 1) := by decide +kernel
theorem dX7_isLike_9 : decode cX7_isLike 9 = .ok (.aload_n 0, 1) := by decide +kernel
theorem dX7_isLike_10 : decode cX7_isLike 10 = .ok (.getfield 7, 3) := by decide +kernel
theorem dX7_isLike_13 : decode cX7_isLike 13 = .ok (.bipush 22, 2) := by decide +kernel
theorem dX7_isLike_15 : decode cX7_isLike 15 = .ok (.iload_n 2, 1) := by decide +kernel
theorem dX7_isLike_16 : decode cX7_isLike 16 = .ok (.iadd, 1) := by decide +kernel
theorem dX7_isLike_17 : decode cX7_isLike 17 = .ok (.iaload, 1) := by decide +kernel
theorem dX7_isLike_18 : decode cX7_isLike 18 = .ok (.if_icmp .ne 7, 3) := by decide +kernel
theorem dX7_isLike_21 : decode cX7_isLike 21 = .ok (.iconst 1, 1) := by decide +kernel
theorem dX7_isLike_22 : decode cX7_isLike 22 = .ok (.goto 4, 3) := by decide +kernel
theorem dX7_isLike_25 : decode cX7_isLike 25 = .ok (.iconst 0, 1) := by decide +kernel
theorem dX7_isLike_26 : decode cX7_isLike 26 = .ok (.istore 4, 2) := by decide +kernel
theorem dX7_isLike_28 : decode cX7_isLike 28 = .ok (.iconst 0, 1) := by decide +kernel
theorem dX7_isLike_29 : decode cX7_isLike 29 = .ok (.istore 5, 2) := by decide +kernel
theorem dX7_isLike_31 : decode cX7_isLike 31 = .ok (.iload 5, 2) := by decide +kernel
theorem dX7_isLike_33 : decode cX7_isLike 33 = .ok (.aload_n 0, 1) := by decide +kernel
theorem dX7_isLike_34 : decode cX7_isLike 34 = .ok (.getfield 7, 3) := by decide +kernel
theorem dX7_isLike_37 : decode cX7_isLike 37 = .ok (.bipush 22, 2) := by decide +kernel
theorem dX7_isLike_39 : decode cX7_isLike 39 = .ok (.iload_n 1, 1) := by decide +kernel
theorem dX7_isLike_40 : decode cX7_isLike 40 = .ok (.iadd, 1) := by decide +kernel
theorem dX7_isLike_41 : decode cX7_isLike 41 = .ok (.iaload, 1) := by decide +kernel
theorem dX7_isLike_42 : decode cX7_isLike 42 = .ok (.if_icmp .ge 52, 3) := by decide +kernel
theorem dX7_isLike_45 : decode cX7_isLike 45 = .ok (.iload 4, 2) := by decide +kernel
theorem dX7_isLike_47 : decode cX7_isLike 47 = .ok (.ifCond .eq 47, 3) := by decide +kernel
theorem dX7_isLike_50 : decode cX7_isLike 50 = .ok (.aload_n 0, 1) := by decide +kernel
theorem dX7_isLike_51 : decode cX7_isLike 51 = .ok (.iload_n 1, 1) := by decide +kernel
theorem dX7_isLike_52 : decode cX7_isLike 52 = .ok (.iload 5, 2) := by decide +kernel
theorem dX7_isLike_54 : decode cX7_isLike 54 = .ok (.invokevirtual 57, 3) := by decide +kernel
theorem dX7_isLike_57 : decode cX7_isLike 57 = .ok (.iload_n 3, 1) := by decide +kernel
theorem dX7_isLike_58 : decode cX7_isLike 58 = .ok (.ifCond .eq 13, 3) := by decide +kernel
theorem dX7_isLike_61 : decode cX7_isLike 61 = .ok (.aload_n 0, 1) := by decide +kernel
theorem dX7_isLike_62 : decode cX7_isLike 62 = .ok (.iload_n 2, 1) := by decide +kernel
theorem dX7_isLike_63 : decode cX7_isLike 63 = .ok (.iload 5, 2) := by decide +kernel
theorem dX7_isLike_65 : decode cX7_isLike 65 = .ok (.invokevirtual 64, 3) := by decide +kernel
theorem dX7_isLike_68 : decode cX7_isLike 68 = .ok (.goto 10, 3) := by decide +kernel
theorem dX7_isLike_71 : decode cX7_isLike 71 = .ok (.aload_n 0, 1) := by decide +kernel
theorem dX7_isLike_72 : decode cX7_isLike 72 = .ok (.iload_n 2, 1) := by decide +kernel
theorem dX7_isLike_73 : decode cX7_isLike 73 = .ok (.iload 5, 2) := by decide +kernel
theorem dX7_isLike_75 : decode cX7_isLike 75 = .ok (.invokevirtual 57, 3) := by decide +kernel
theorem dX7_isLike_78 : decode cX7_isLike 78 = .ok (.if_icmp .ne 7, 3) := by decide +kernel
theorem dX7_isLike_81 : decode cX7_isLike 81 = .ok (.iconst 1, 1) := by decide +kernel
theorem dX7_isLike_82 : decode cX7_isLike 82 = .ok (.goto 4, 3) := by decide +kernel
theorem dX7_isLike_85 : decode cX7_isLike 85 = .ok (.iconst 0, 1) := by decide +kernel
theorem dX7_isLike_86 : decode cX7_isLike 86 = .ok (.istore 4, 2) := by decide +kernel
theorem dX7_isLike_88 : decode cX7_isLike 88 = .ok (.iinc 5 1, 3) := by decide +kernel
theorem dX7_isLike_91 : decode cX7_isLike 91 = .ok (.goto (-60), 3) := by decide +kernel
theorem dX7_isLike_94 : decode cX7_isLike 94 = .ok (.iload 4, 2) := by decide +kernel
theorem dX7_isLike_96 : decode cX7_isLike 96 = .ok (.ireturn, 1) := by decide +kernel
set_option maxRecDepth 20000 in
theorem ggX7_isOwnImage_X7_isLike : GoodIn wsX7_isOwnImage wsX7_isLike := goodIn_r _ [5, 6, 7, 8, 9, 4, 10, 11, 12, 13, 14, 15, 16, 17, 18, 19, 20, 21, 22, 23, 24, 25, 26, 27, 28] (by decide +kernel) (by decide +kernel)
set_option maxRecDepth 20000 in
theorem gX7_isOwnImage_X7_isLike : GoodIn wsX7_isOwnImage (wsV RX7 67 RX7 yX7_isLike wsX7_isLike) := goodIn_app (goodIn_of _ (by decide +kernel)) ggX7_isOwnImage_X7_isLike
theorem dX7_isOwnImage_0 : decode cX7_isOwnImage 0 = .ok (.aload_n 0, 1) := by decide +kernel
theorem dX7_isOwnImage_1 : decode cX7_isOwnImage 1 = .ok (.iload_n 1, 1) := by decide +kernel
theorem dX7_isOwnImage_2 : decode cX7_isOwnImage 2 = .ok (.iload_n 1, 1) := by decide +kernel
theorem dX7_isOwnImage_3 : decode cX7_isOwnImage 3 = .ok (.iconst 1, 1) := by decide +kernel
theorem dX7_isOwnImage_4 : decode cX7_isOwnImage 4 = .ok (.invokevirtual 67, 3) := by decide +kernel
theorem dX7_isOwnImage_7 : decode cX7_isOwnImage 7 = .ok (.ireturn, 1) := by decide +kernel
set_option maxRecDepth 20000 in
theorem ggX7_mirroredIn_X7_dollAt : GoodIn wsX7_mirroredIn wsX7_dollAt := goodIn_r _ [6, 1, 7, 8, 9, 10, 11, 12, 13, 14, 15, 16, 17, 18, 19, 20] (by decide +kernel) (by decide +kernel)
set_option maxRecDepth 20000 in
theorem gX7_mirroredIn_X7_dollAt : GoodIn wsX7_mirroredIn (wsV RX7 57 RX7 yX7_dollAt wsX7_dollAt) := goodIn_app (goodIn_of _ (by decide +kernel)) ggX7_mirroredIn_X7_dollAt
theorem dX7_mirroredIn_0 : decode cX7_mirroredIn 0 = .ok (.iconst 0, 1) := by decide +kernel
theorem dX7_mirroredIn_1 : decode cX7_mirroredIn 1 = .ok (.istore_n 2, 1) := by decide +kernel
theorem dX7_mirroredIn_2 : decode cX7_mirroredIn 2 = .ok (.iconst 0, 1) := by decide +kernel
theorem dX7_mirroredIn_3 : decode cX7_mirroredIn 3 = .ok (.istore_n 3, 1) := by decide +kernel
theorem dX7_mirroredIn_4 : decode cX7_mirroredIn 4 = .ok (.iload_n 3, 1) := by decide +kernel
theorem dX7_mirroredIn_5 : decode cX7_mirroredIn 5 = .ok (.aload_n 0, 1) := by decide +kernel
theorem dX7_mirroredIn_6 : decode cX7_mirroredIn 6 = .ok (.getfield 7, 3) := by decide +kernel
theorem dX7_mirroredIn_9 : decode cX7_mirroredIn 9 = .ok (.bipush 22, 2) := by decide +kernel
theorem dX7_mirroredIn_11 : decode cX7_mirroredIn 11 = .ok (.iload_n 1, 1) := by decide +kernel
theorem dX7_mirroredIn_12 : decode cX7_mirroredIn 12 = .ok (.iadd, 1) := by decide +kernel
theorem dX7_mirroredIn_13 : decode cX7_mirroredIn 13 = .ok (.iaload, 1) := by decide +kernel
theorem dX7_mirroredIn_14 : decode cX7_mirroredIn 14 = .ok (.if_icmp .ge 20, 3) := by decide +kernel
theorem dX7_mirroredIn_17 : decode cX7_mirroredIn 17 = .ok (.iload_n 2, 1) := by decide +kernel
theorem dX7_mirroredIn_18 : decode cX7_mirroredIn 18 = .ok (.aload_n 0, 1) := by decide +kernel
theorem dX7_mirroredIn_19 : decode cX7_mirroredIn 19 = .ok (.iload_n 1, 1) := by decide +kernel
theorem dX7_mirroredIn_20 : decode cX7_mirroredIn 20 = .ok (.iload_n 3, 1) := by decide +kernel
theorem dX7_mirroredIn_21 : decode cX7_mirroredIn 21 = .ok (.invokevirtual 57, 3) := by decide +kernel
theorem dX7_mirroredIn_24 : decode cX7_mirroredIn 24 = .ok (.iconst 2, 1) := by decide +kernel
theorem dX7_mirroredIn_25 : decode cX7_mirroredIn 25 = .ok (.irem, 1) := by decide +kernel
theorem dX7_mirroredIn_26 : decode cX7_mirroredIn 26 = .ok (.iadd, 1) := by decide +kernel
theorem dX7_mirroredIn_27 : decode cX7_mirroredIn 27 = .ok (.istore_n 2, 1) := by decide +kernel
theorem dX7_mirroredIn_28 : decode cX7_mirroredIn 28 = .ok (.iinc 3 1, 3) := by decide +kernel
theorem dX7_mirroredIn_31 : decode cX7_mirroredIn 31 = .ok (.goto (-27), 3) := by decide +kernel
theorem dX7_mirroredIn_34 : decode cX7_mirroredIn 34 = .ok (.iload_n 2, 1) := by decide +kernel
theorem dX7_mirroredIn_35 : decode cX7_mirroredIn 35 = .ok (.ireturn, 1) := by decide +kernel
set_option maxRecDepth 20000 in
theorem ggX7_takes_X7_lays : GoodIn wsX7_takes wsX7_lays := goodIn_r _ [6, 1, 7, 8, 9, 10, 11, 12, 13, 14, 15, 16, 17, 18, 19, 20] (by decide +kernel) (by decide +kernel)
set_option maxRecDepth 20000 in
theorem gX7_takes_X7_lays : GoodIn wsX7_takes (wsV RX7 71 RX7 yX7_lays wsX7_lays) := goodIn_app (goodIn_of _ (by decide +kernel)) ggX7_takes_X7_lays
theorem dX7_takes_0 : decode cX7_takes 0 = .ok (.aload_n 0, 1) := by decide +kernel
theorem dX7_takes_1 : decode cX7_takes 1 = .ok (.getfield 7, 3) := by decide +kernel
theorem dX7_takes_4 : decode cX7_takes 4 = .ok (.bipush 22, 2) := by decide +kernel
theorem dX7_takes_6 : decode cX7_takes 6 = .ok (.iload_n 1, 1) := by decide +kernel
theorem dX7_takes_7 : decode cX7_takes 7 = .ok (.iadd, 1) := by decide +kernel
theorem dX7_takes_8 : decode cX7_takes 8 = .ok (.iconst 0, 1) := by decide +kernel
theorem dX7_takes_9 : decode cX7_takes 9 = .ok (.iastore, 1) := by decide +kernel
theorem dX7_takes_10 : decode cX7_takes 10 = .ok (.iconst 0, 1) := by decide +kernel
theorem dX7_takes_11 : decode cX7_takes 11 = .ok (.istore_n 2, 1) := by decide +kernel
theorem dX7_takes_12 : decode cX7_takes 12 = .ok (.iload_n 2, 1) := by decide +kernel
theorem dX7_takes_13 : decode cX7_takes 13 = .ok (.bipush 32, 2) := by decide +kernel
theorem dX7_takes_15 : decode cX7_takes 15 = .ok (.if_icmp .ge 16, 3) := by decide +kernel
theorem dX7_takes_18 : decode cX7_takes 18 = .ok (.aload_n 0, 1) := by decide +kernel
theorem dX7_takes_19 : decode cX7_takes 19 = .ok (.iload_n 1, 1) := by decide +kernel
theorem dX7_takes_20 : decode cX7_takes 20 = .ok (.iload_n 2, 1) := by decide +kernel
theorem dX7_takes_21 : decode cX7_takes 21 = .ok (.iconst 0, 1) := by decide +kernel
theorem dX7_takes_22 : decode cX7_takes 22 = .ok (.invokevirtual 71, 3) := by decide +kernel
theorem dX7_takes_25 : decode cX7_takes 25 = .ok (.iinc 2 1, 3) := by decide +kernel
theorem dX7_takes_28 : decode cX7_takes 28 = .ok (.goto (-16), 3) := by decide +kernel
theorem dX7_takes_31 : decode cX7_takes 31 = .ok (.return_, 1) := by decide +kernel
set_option maxRecDepth 20000 in
theorem ggX7_setHands_X7_isKind : GoodIn wsX7_setHands wsX7_isKind := goodIn_r _ [7, 2, 8, 9, 6, 10, 46, 47, 48, 49, 50, 51, 52, 53, 54, 55, 56, 57, 58, 59] (by decide +kernel) (by decide +kernel)
set_option maxRecDepth 20000 in
theorem gX7_setHands_X7_isKind : GoodIn wsX7_setHands (wsV RX7 75 RX7 yX7_isKind wsX7_isKind) := goodIn_app (goodIn_of _ (by decide +kernel)) ggX7_setHands_X7_isKind
set_option maxRecDepth 20000 in
theorem ggX7_setHands_X7_in : GoodIn wsX7_setHands wsX7_in := goodIn_r _ [10] (by decide +kernel) (by decide +kernel)
set_option maxRecDepth 20000 in
theorem gX7_setHands_X7_in : GoodIn wsX7_setHands (va_wsS RX7 47 yX7_in wsX7_in) := goodIn_app (goodIn_of _ (by decide +kernel)) ggX7_setHands_X7_in
set_option maxRecDepth 20000 in
theorem ggX7_setHands_X7_keeps : GoodIn wsX7_setHands wsX7_keeps := goodIn_r _ [14, 15, 2, 46, 47, 48, 49, 50, 51, 52, 53, 54, 55, 56, 57, 58, 59] (by decide +kernel) (by decide +kernel)
set_option maxRecDepth 20000 in
theorem gX7_setHands_X7_keeps : GoodIn wsX7_setHands (wsV RX7 81 RX7 yX7_keeps wsX7_keeps) := goodIn_app (goodIn_of _ (by decide +kernel)) ggX7_setHands_X7_keeps
set_option maxRecDepth 20000 in
theorem ggX7_setHands_X7_anyClash : GoodIn wsX7_setHands wsX7_anyClash := goodIn_r _ [19, 2, 20, 21, 22, 6, 23, 24, 25, 26, 27, 28, 29, 30, 31, 46, 47, 48, 49, 50, 51, 52, 53, 54, 55, 56, 57, 58, 59] (by decide +kernel) (by decide +kernel)
set_option maxRecDepth 20000 in
theorem gX7_setHands_X7_anyClash : GoodIn wsX7_setHands (wsV RX7 84 RX7 yX7_anyClash wsX7_anyClash) := goodIn_app (goodIn_of _ (by decide +kernel)) ggX7_setHands_X7_anyClash
set_option maxRecDepth 20000 in
theorem ggX7_setHands_X7_ends : GoodIn wsX7_setHands wsX7_ends := goodIn_r _ [35, 36, 37, 38, 6, 39, 2, 15, 40, 41, 42, 43, 44, 45, 46, 47, 48, 49, 50, 51, 52, 53, 54, 55, 56, 57, 58, 59] (by decide +kernel) (by decide +kernel)
set_option maxRecDepth 20000 in
theorem gX7_setHands_X7_ends : GoodIn wsX7_setHands (wsV RX7 88 RX7 yX7_ends wsX7_ends) := goodIn_app (goodIn_of _ (by decide +kernel)) ggX7_setHands_X7_ends
theorem dX7_setHands_0 : decode cX7_setHands 0 = .ok (.aload_n 0, 1) := by decide +kernel
theorem dX7_setHands_1 : decode cX7_setHands 1 = .ok (.iload_n 1, 1) := by decide +kernel
theorem dX7_setHands_2 : decode cX7_setHands 2 = .ok (.invokevirtual 75, 3) := by decide +kernel
theorem dX7_setHands_5 : decode cX7_setHands 5 = .ok (.ifCond .ne 5, 3) := by decide +kernel
theorem dX7_setHands_8 : decode cX7_setHands 8 = .ok (.iconst (-1), 1) := by decide +kernel
theorem dX7_setHands_9 : decode cX7_setHands 9 = .ok (.ireturn, 1) := by decide +kernel
theorem dX7_setHands_10 : decode cX7_setHands 10 = .ok (.iload_n 2, 1) := by decide +kernel
theorem dX7_setHands_11 : decode cX7_setHands 11 = .ok (.i2l, 1) := by decide +kernel
theorem dX7_setHands_12 : decode cX7_setHands 12 = .ok (.lconst 0, 1) := by decide +kernel
theorem dX7_setHands_13 : decode cX7_setHands 13 = .ok (.ldc2_w 79, 3) := by decide +kernel
theorem dX7_setHands_16 : decode cX7_setHands 16 = .ok (.invokestatic 47, 3) := by decide +kernel
theorem dX7_setHands_19 : decode cX7_setHands 19 = .ok (.ifCond .eq 15, 3) := by decide +kernel
theorem dX7_setHands_22 : decode cX7_setHands 22 = .ok (.iload_n 3, 1) := by decide +kernel
theorem dX7_setHands_23 : decode cX7_setHands 23 = .ok (.i2l, 1) := by decide +kernel
theorem dX7_setHands_24 : decode cX7_setHands 24 = .ok (.lconst 0, 1) := by decide +kernel
theorem dX7_setHands_25 : decode cX7_setHands 25 = .ok (.ldc2_w 79, 3) := by decide +kernel
theorem dX7_setHands_28 : decode cX7_setHands 28 = .ok (.invokestatic 47, 3) := by decide +kernel
theorem dX7_setHands_31 : decode cX7_setHands 31 = .ok (.ifCond .ne 6, 3) := by decide +kernel
theorem dX7_setHands_34 : decode cX7_setHands 34 = .ok (.bipush (-2), 2) := by decide +kernel
theorem dX7_setHands_36 : decode cX7_setHands 36 = .ok (.ireturn, 1) := by decide +kernel
theorem dX7_setHands_37 : decode cX7_setHands 37 = .ok (.aload_n 0, 1) := by decide +kernel
theorem dX7_setHands_38 : decode cX7_setHands 38 = .ok (.invokevirtual 81, 3) := by decide +kernel
theorem dX7_setHands_41 : decode cX7_setHands 41 = .ok (.iconst 2, 1) := by decide +kernel
theorem dX7_setHands_42 : decode cX7_setHands 42 = .ok (.iconst 2, 1) := by decide +kernel
theorem dX7_setHands_43 : decode cX7_setHands 43 = .ok (.iload_n 1, 1) := by decide +kernel
theorem dX7_setHands_44 : decode cX7_setHands 44 = .ok (.imul, 1) := by decide +kernel
theorem dX7_setHands_45 : decode cX7_setHands 45 = .ok (.iadd, 1) := by decide +kernel
theorem dX7_setHands_46 : decode cX7_setHands 46 = .ok (.istore 4, 2) := by decide +kernel
theorem dX7_setHands_48 : decode cX7_setHands 48 = .ok (.aload_n 0, 1) := by decide +kernel
theorem dX7_setHands_49 : decode cX7_setHands 49 = .ok (.getfield 7, 3) := by decide +kernel
theorem dX7_setHands_52 : decode cX7_setHands 52 = .ok (.iload 4, 2) := by decide +kernel
theorem dX7_setHands_54 : decode cX7_setHands 54 = .ok (.iaload, 1) := by decide +kernel
theorem dX7_setHands_55 : decode cX7_setHands 55 = .ok (.iload_n 2, 1) := by decide +kernel
theorem dX7_setHands_56 : decode cX7_setHands 56 = .ok (.if_icmp .ne 20, 3) := by decide +kernel
theorem dX7_setHands_59 : decode cX7_setHands 59 = .ok (.aload_n 0, 1) := by decide +kernel
theorem dX7_setHands_60 : decode cX7_setHands 60 = .ok (.getfield 7, 3) := by decide +kernel
theorem dX7_setHands_63 : decode cX7_setHands 63 = .ok (.iload 4, 2) := by decide +kernel
theorem dX7_setHands_65 : decode cX7_setHands 65 = .ok (.iconst 1, 1) := by decide +kernel
theorem dX7_setHands_66 : decode cX7_setHands 66 = .ok (.iadd, 1) := by decide +kernel
theorem dX7_setHands_67 : decode cX7_setHands 67 = .ok (.iaload, 1) := by decide +kernel
theorem dX7_setHands_68 : decode cX7_setHands 68 = .ok (.iload_n 3, 1) := by decide +kernel
theorem dX7_setHands_69 : decode cX7_setHands 69 = .ok (.if_icmp .ne 7, 3) := by decide +kernel
theorem dX7_setHands_72 : decode cX7_setHands 72 = .ok (.iconst 1, 1) := by decide +kernel
theorem dX7_setHands_73 : decode cX7_setHands 73 = .ok (.goto 4, 3) := by decide +kernel
theorem dX7_setHands_76 : decode cX7_setHands 76 = .ok (.iconst 0, 1) := by decide +kernel
theorem dX7_setHands_77 : decode cX7_setHands 77 = .ok (.istore 5, 2) := by decide +kernel
theorem dX7_setHands_79 : decode cX7_setHands 79 = .ok (.bipush 10, 2) := by decide +kernel
theorem dX7_setHands_81 : decode cX7_setHands 81 = .ok (.aload_n 0, 1) := by decide +kernel
theorem dX7_setHands_82 : decode cX7_setHands 82 = .ok (.getfield 7, 3) := by decide +kernel
theorem dX7_setHands_85 : decode cX7_setHands 85 = .ok (.iload 4, 2) := by decide +kernel
theorem dX7_setHands_87 : decode cX7_setHands 87 = .ok (.iaload, 1) := by decide +kernel
theorem dX7_setHands_88 : decode cX7_setHands 88 = .ok (.imul, 1) := by decide +kernel
theorem dX7_setHands_89 : decode cX7_setHands 89 = .ok (.aload_n 0, 1) := by decide +kernel
theorem dX7_setHands_90 : decode cX7_setHands 90 = .ok (.getfield 7, 3) := by decide +kernel
theorem dX7_setHands_93 : decode cX7_setHands 93 = .ok (.iload 4, 2) := by decide +kernel
theorem dX7_setHands_95 : decode cX7_setHands 95 = .ok (.iconst 1, 1) := by decide +kernel
theorem dX7_setHands_96 : decode cX7_setHands 96 = .ok (.iadd, 1) := by decide +kernel
theorem dX7_setHands_97 : decode cX7_setHands 97 = .ok (.iaload, 1) := by decide +kernel
theorem dX7_setHands_98 : decode cX7_setHands 98 = .ok (.iadd, 1) := by decide +kernel
theorem dX7_setHands_99 : decode cX7_setHands 99 = .ok (.istore 6, 2) := by decide +kernel
theorem dX7_setHands_101 : decode cX7_setHands 101 = .ok (.aload_n 0, 1) := by decide +kernel
theorem dX7_setHands_102 : decode cX7_setHands 102 = .ok (.getfield 7, 3) := by decide +kernel
theorem dX7_setHands_105 : decode cX7_setHands 105 = .ok (.iload 4, 2) := by decide +kernel
theorem dX7_setHands_107 : decode cX7_setHands 107 = .ok (.iload_n 2, 1) := by decide +kernel
theorem dX7_setHands_108 : decode cX7_setHands 108 = .ok (.iastore, 1) := by decide +kernel
theorem dX7_setHands_109 : decode cX7_setHands 109 = .ok (.aload_n 0, 1) := by decide +kernel
theorem dX7_setHands_110 : decode cX7_setHands 110 = .ok (.getfield 7, 3) := by decide +kernel
theorem dX7_setHands_113 : decode cX7_setHands 113 = .ok (.iload 4, 2) := by decide +kernel
theorem dX7_setHands_115 : decode cX7_setHands 115 = .ok (.iconst 1, 1) := by decide +kernel
theorem dX7_setHands_116 : decode cX7_setHands 116 = .ok (.iadd, 1) := by decide +kernel
theorem dX7_setHands_117 : decode cX7_setHands 117 = .ok (.iload_n 3, 1) := by decide +kernel
theorem dX7_setHands_118 : decode cX7_setHands 118 = .ok (.iastore, 1) := by decide +kernel
theorem dX7_setHands_119 : decode cX7_setHands 119 = .ok (.aload_n 0, 1) := by decide +kernel
theorem dX7_setHands_120 : decode cX7_setHands 120 = .ok (.aload_n 0, 1) := by decide +kernel
theorem dX7_setHands_121 : decode cX7_setHands 121 = .ok (.invokevirtual 84, 3) := by decide +kernel
theorem dX7_setHands_124 : decode cX7_setHands 124 = .ok (.ifCond .eq 8, 3) := by decide +kernel
theorem dX7_setHands_127 : decode cX7_setHands 127 = .ok (.bipush (-4), 2) := by decide +kernel
theorem dX7_setHands_129 : decode cX7_setHands 129 = .ok (.goto 15, 3) := by decide +kernel
theorem dX7_setHands_132 : decode cX7_setHands 132 = .ok (.iload 5, 2) := by decide +kernel
theorem dX7_setHands_134 : decode cX7_setHands 134 = .ok (.ifCond .eq 8, 3) := by decide +kernel
theorem dX7_setHands_137 : decode cX7_setHands 137 = .ok (.bipush (-5), 2) := by decide +kernel
theorem dX7_setHands_139 : decode cX7_setHands 139 = .ok (.goto 5, 3) := by decide +kernel
theorem dX7_setHands_142 : decode cX7_setHands 142 = .ok (.iload 6, 2) := by decide +kernel
theorem dX7_setHands_144 : decode cX7_setHands 144 = .ok (.invokevirtual 88, 3) := by decide +kernel
theorem dX7_setHands_147 : decode cX7_setHands 147 = .ok (.ireturn, 1) := by decide +kernel
set_option maxRecDepth 20000 in
theorem ggX7_setRule_X7_in : GoodIn wsX7_setRule wsX7_in := goodIn_r _ [6] (by decide +kernel) (by decide +kernel)
set_option maxRecDepth 20000 in
theorem gX7_setRule_X7_in : GoodIn wsX7_setRule (va_wsS RX7 47 yX7_in wsX7_in) := goodIn_app (goodIn_of _ (by decide +kernel)) ggX7_setRule_X7_in
set_option maxRecDepth 20000 in
theorem ggX7_setRule_X7_keeps : GoodIn wsX7_setRule wsX7_keeps := goodIn_r _ [10, 11, 2, 42, 43, 44, 45, 46, 47, 48, 49, 50, 51, 52, 53, 54, 55] (by decide +kernel) (by decide +kernel)
set_option maxRecDepth 20000 in
theorem gX7_setRule_X7_keeps : GoodIn wsX7_setRule (wsV RX7 81 RX7 yX7_keeps wsX7_keeps) := goodIn_app (goodIn_of _ (by decide +kernel)) ggX7_setRule_X7_keeps
set_option maxRecDepth 20000 in
theorem ggX7_setRule_X7_anyClash : GoodIn wsX7_setRule wsX7_anyClash := goodIn_r _ [15, 2, 16, 17, 18, 5, 19, 20, 21, 22, 23, 24, 25, 26, 27, 42, 43, 44, 45, 46, 47, 48, 49, 50, 51, 52, 53, 54, 55] (by decide +kernel) (by decide +kernel)
set_option maxRecDepth 20000 in
theorem gX7_setRule_X7_anyClash : GoodIn wsX7_setRule (wsV RX7 84 RX7 yX7_anyClash wsX7_anyClash) := goodIn_app (goodIn_of _ (by decide +kernel)) ggX7_setRule_X7_anyClash
set_option maxRecDepth 20000 in
theorem ggX7_setRule_X7_ends : GoodIn wsX7_setRule wsX7_ends := goodIn_r _ [31, 32, 33, 34, 5, 35, 2, 11, 36, 37, 38, 39, 40, 41, 42, 43, 44, 45, 46, 47, 48, 49, 50, 51, 52, 53, 54, 55] (by decide +kernel) (by decide +kernel)
set_option maxRecDepth 20000 in
theorem gX7_setRule_X7_ends : GoodIn wsX7_setRule (wsV RX7 88 RX7 yX7_ends wsX7_ends) := goodIn_app (goodIn_of _ (by decide +kernel)) ggX7_setRule_X7_ends
theorem dX7_setRule_0 : decode cX7_setRule 0 = .ok (.iload_n 1, 1) := by decide +kernel
theorem dX7_setRule_1 : decode cX7_setRule 1 = .ok (.i2l, 1) := by decide +kernel
theorem dX7_setRule_2 : decode cX7_setRule 2 = .ok (.lconst 0, 1) := by decide +kernel
theorem dX7_setRule_3 : decode cX7_setRule 3 = .ok (.ldc2_w 92, 3) := by decide +kernel
theorem dX7_setRule_6 : decode cX7_setRule 6 = .ok (.invokestatic 47, 3) := by decide +kernel
theorem dX7_setRule_9 : decode cX7_setRule 9 = .ok (.ifCond .ne 6, 3) := by decide +kernel
theorem dX7_setRule_12 : decode cX7_setRule 12 = .ok (.bipush (-2), 2) := by decide +kernel
theorem dX7_setRule_14 : decode cX7_setRule 14 = .ok (.ireturn, 1) := by decide +kernel
theorem dX7_setRule_15 : decode cX7_setRule 15 = .ok (.aload_n 0, 1) := by decide +kernel
theorem dX7_setRule_16 : decode cX7_setRule 16 = .ok (.invokevirtual 81, 3) := by decide +kernel
theorem dX7_setRule_19 : decode cX7_setRule 19 = .ok (.aload_n 0, 1) := by decide +kernel
theorem dX7_setRule_20 : decode cX7_setRule 20 = .ok (.getfield 7, 3) := by decide +kernel
theorem dX7_setRule_23 : decode cX7_setRule 23 = .ok (.iconst 0, 1) := by decide +kernel
theorem dX7_setRule_24 : decode cX7_setRule 24 = .ok (.iaload, 1) := by decide +kernel
theorem dX7_setRule_25 : decode cX7_setRule 25 = .ok (.istore_n 2, 1) := by decide +kernel
theorem dX7_setRule_26 : decode cX7_setRule 26 = .ok (.aload_n 0, 1) := by decide +kernel
theorem dX7_setRule_27 : decode cX7_setRule 27 = .ok (.getfield 7, 3) := by decide +kernel
theorem dX7_setRule_30 : decode cX7_setRule 30 = .ok (.iconst 0, 1) := by decide +kernel
theorem dX7_setRule_31 : decode cX7_setRule 31 = .ok (.iload_n 1, 1) := by decide +kernel
theorem dX7_setRule_32 : decode cX7_setRule 32 = .ok (.iastore, 1) := by decide +kernel
theorem dX7_setRule_33 : decode cX7_setRule 33 = .ok (.aload_n 0, 1) := by decide +kernel
theorem dX7_setRule_34 : decode cX7_setRule 34 = .ok (.aload_n 0, 1) := by decide +kernel
theorem dX7_setRule_35 : decode cX7_setRule 35 = .ok (.invokevirtual 84, 3) := by decide +kernel
theorem dX7_setRule_38 : decode cX7_setRule 38 = .ok (.ifCond .eq 8, 3) := by decide +kernel
theorem dX7_setRule_41 : decode cX7_setRule 41 = .ok (.bipush (-4), 2) := by decide +kernel
theorem dX7_setRule_43 : decode cX7_setRule 43 = .ok (.goto 14, 3) := by decide +kernel
theorem dX7_setRule_46 : decode cX7_setRule 46 = .ok (.iload_n 2, 1) := by decide +kernel
theorem dX7_setRule_47 : decode cX7_setRule 47 = .ok (.iload_n 1, 1) := by decide +kernel
theorem dX7_setRule_48 : decode cX7_setRule 48 = .ok (.if_icmp .ne 8, 3) := by decide +kernel
theorem dX7_setRule_51 : decode cX7_setRule 51 = .ok (.bipush (-5), 2) := by decide +kernel
theorem dX7_setRule_53 : decode cX7_setRule 53 = .ok (.goto 4, 3) := by decide +kernel
theorem dX7_setRule_56 : decode cX7_setRule 56 = .ok (.iload_n 2, 1) := by decide +kernel
theorem dX7_setRule_57 : decode cX7_setRule 57 = .ok (.invokevirtual 88, 3) := by decide +kernel
theorem dX7_setRule_60 : decode cX7_setRule 60 = .ok (.ireturn, 1) := by decide +kernel
set_option maxRecDepth 20000 in
theorem ggX7_greatestKind_X7_dollAt : GoodIn wsX7_greatestKind wsX7_dollAt := goodIn_r _ [6, 1, 7, 8, 9, 10, 11, 12, 13, 14, 15, 16, 17, 18, 19, 20] (by decide +kernel) (by decide +kernel)
set_option maxRecDepth 20000 in
theorem gX7_greatestKind_X7_dollAt : GoodIn wsX7_greatestKind (wsV RX7 57 RX7 yX7_dollAt wsX7_dollAt) := goodIn_app (goodIn_of _ (by decide +kernel)) ggX7_greatestKind_X7_dollAt
theorem dX7_greatestKind_0 : decode cX7_greatestKind 0 = .ok (.iconst 0, 1) := by decide +kernel
theorem dX7_greatestKind_1 : decode cX7_greatestKind 1 = .ok (.istore_n 1, 1) := by decide +kernel
theorem dX7_greatestKind_2 : decode cX7_greatestKind 2 = .ok (.iconst 0, 1) := by decide +kernel
theorem dX7_greatestKind_3 : decode cX7_greatestKind 3 = .ok (.istore_n 2, 1) := by decide +kernel
theorem dX7_greatestKind_4 : decode cX7_greatestKind 4 = .ok (.iload_n 2, 1) := by decide +kernel
theorem dX7_greatestKind_5 : decode cX7_greatestKind 5 = .ok (.bipush 8, 2) := by decide +kernel
theorem dX7_greatestKind_7 : decode cX7_greatestKind 7 = .ok (.if_icmp .ge 55, 3) := by decide +kernel
theorem dX7_greatestKind_10 : decode cX7_greatestKind 10 = .ok (.iconst 0, 1) := by decide +kernel
theorem dX7_greatestKind_11 : decode cX7_greatestKind 11 = .ok (.istore_n 3, 1) := by decide +kernel
theorem dX7_greatestKind_12 : decode cX7_greatestKind 12 = .ok (.iload_n 3, 1) := by decide +kernel
theorem dX7_greatestKind_13 : decode cX7_greatestKind 13 = .ok (.aload_n 0, 1) := by decide +kernel
theorem dX7_greatestKind_14 : decode cX7_greatestKind 14 = .ok (.getfield 7, 3) := by decide +kernel
theorem dX7_greatestKind_17 : decode cX7_greatestKind 17 = .ok (.bipush 22, 2) := by decide +kernel
theorem dX7_greatestKind_19 : decode cX7_greatestKind 19 = .ok (.iload_n 2, 1) := by decide +kernel
theorem dX7_greatestKind_20 : decode cX7_greatestKind 20 = .ok (.iadd, 1) := by decide +kernel
theorem dX7_greatestKind_21 : decode cX7_greatestKind 21 = .ok (.iaload, 1) := by decide +kernel
theorem dX7_greatestKind_22 : decode cX7_greatestKind 22 = .ok (.if_icmp .ge 34, 3) := by decide +kernel
theorem dX7_greatestKind_25 : decode cX7_greatestKind 25 = .ok (.aload_n 0, 1) := by decide +kernel
theorem dX7_greatestKind_26 : decode cX7_greatestKind 26 = .ok (.iload_n 2, 1) := by decide +kernel
theorem dX7_greatestKind_27 : decode cX7_greatestKind 27 = .ok (.iload_n 3, 1) := by decide +kernel
theorem dX7_greatestKind_28 : decode cX7_greatestKind 28 = .ok (.invokevirtual 57, 3) := by decide +kernel
theorem dX7_greatestKind_31 : decode cX7_greatestKind 31 = .ok (.iconst 2, 1) := by decide +kernel
theorem dX7_greatestKind_32 : decode cX7_greatestKind 32 = .ok (.idiv, 1) := by decide +kernel
theorem dX7_greatestKind_33 : decode cX7_greatestKind 33 = .ok (.iload_n 1, 1) := by decide +kernel
theorem dX7_greatestKind_34 : decode cX7_greatestKind 34 = .ok (.if_icmp .le 14, 3) := by decide +kernel
theorem dX7_greatestKind_37 : decode cX7_greatestKind 37 = .ok (.aload_n 0, 1) := by decide +kernel
theorem dX7_greatestKind_38 : decode cX7_greatestKind 38 = .ok (.iload_n 2, 1) := by decide +kernel
theorem dX7_greatestKind_39 : decode cX7_greatestKind 39 = .ok (.iload_n 3, 1) := by decide +kernel
theorem dX7_greatestKind_40 : decode cX7_greatestKind 40 = .ok (.invokevirtual 57, 3) := by decide +kernel
theorem dX7_greatestKind_43 : decode cX7_greatestKind 43 = .ok (.iconst 2, 1) := by decide +kernel
theorem dX7_greatestKind_44 : decode cX7_greatestKind 44 = .ok (.idiv, 1) := by decide +kernel
theorem dX7_greatestKind_45 : decode cX7_greatestKind 45 = .ok (.goto 4, 3) := by decide +kernel
theorem dX7_greatestKind_48 : decode cX7_greatestKind 48 = .ok (.iload_n 1, 1) := by decide +kernel
theorem dX7_greatestKind_49 : decode cX7_greatestKind 49 = .ok (.istore_n 1, 1) := by decide +kernel
theorem dX7_greatestKind_50 : decode cX7_greatestKind 50 = .ok (.iinc 3 1, 3) := by decide +kernel
theorem dX7_greatestKind_53 : decode cX7_greatestKind 53 = .ok (.goto (-41), 3) := by decide +kernel
theorem dX7_greatestKind_56 : decode cX7_greatestKind 56 = .ok (.iinc 2 1, 3) := by decide +kernel
theorem dX7_greatestKind_59 : decode cX7_greatestKind 59 = .ok (.goto (-55), 3) := by decide +kernel
theorem dX7_greatestKind_62 : decode cX7_greatestKind 62 = .ok (.iload_n 1, 1) := by decide +kernel
theorem dX7_greatestKind_63 : decode cX7_greatestKind 63 = .ok (.ireturn, 1) := by decide +kernel
set_option maxRecDepth 20000 in
theorem ggX7_setKinds_X7_in : GoodIn wsX7_setKinds wsX7_in := goodIn_r _ [6] (by decide +kernel) (by decide +kernel)
set_option maxRecDepth 20000 in
theorem gX7_setKinds_X7_in : GoodIn wsX7_setKinds (va_wsS RX7 47 yX7_in wsX7_in) := goodIn_app (goodIn_of _ (by decide +kernel)) ggX7_setKinds_X7_in
set_option maxRecDepth 20000 in
theorem ggX7_setKinds_X7_greatestKind : GoodIn wsX7_setKinds wsX7_greatestKind := goodIn_r _ [10, 2, 11, 12, 13, 5, 14, 34, 35, 36, 37, 38, 39, 40, 41, 42, 43, 44, 45, 46, 47] (by decide +kernel) (by decide +kernel)
set_option maxRecDepth 20000 in
theorem gX7_setKinds_X7_greatestKind : GoodIn wsX7_setKinds (wsV RX7 96 RX7 yX7_greatestKind wsX7_greatestKind) := goodIn_app (goodIn_of _ (by decide +kernel)) ggX7_setKinds_X7_greatestKind
set_option maxRecDepth 20000 in
theorem ggX7_setKinds_X7_keeps : GoodIn wsX7_setKinds wsX7_keeps := goodIn_r _ [18, 19, 2, 34, 35, 36, 37, 38, 39, 40, 41, 42, 43, 44, 45, 46, 47] (by decide +kernel) (by decide +kernel)
set_option maxRecDepth 20000 in
theorem gX7_setKinds_X7_keeps : GoodIn wsX7_setKinds (wsV RX7 81 RX7 yX7_keeps wsX7_keeps) := goodIn_app (goodIn_of _ (by decide +kernel)) ggX7_setKinds_X7_keeps
set_option maxRecDepth 20000 in
theorem ggX7_setKinds_X7_ends : GoodIn wsX7_setKinds wsX7_ends := goodIn_r _ [23, 24, 25, 26, 5, 27, 2, 19, 28, 29, 30, 31, 32, 33, 34, 35, 36, 37, 38, 39, 40, 41, 42, 43, 44, 45, 46, 47] (by decide +kernel) (by decide +kernel)
set_option maxRecDepth 20000 in
theorem gX7_setKinds_X7_ends : GoodIn wsX7_setKinds (wsV RX7 88 RX7 yX7_ends wsX7_ends) := goodIn_app (goodIn_of _ (by decide +kernel)) ggX7_setKinds_X7_ends
theorem dX7_setKinds_0 : decode cX7_setKinds 0 = .ok (.iload_n 1, 1) := by decide +kernel
theorem dX7_setKinds_1 : decode cX7_setKinds 1 = .ok (.i2l, 1) := by decide +kernel
theorem dX7_setKinds_2 : decode cX7_setKinds 2 = .ok (.lconst 1, 1) := by decide +kernel
theorem dX7_setKinds_3 : decode cX7_setKinds 3 = .ok (.ldc2_w 94, 3) := by decide +kernel
theorem dX7_setKinds_6 : decode cX7_setKinds 6 = .ok (.invokestatic 47, 3) := by decide +kernel
theorem dX7_setKinds_9 : decode cX7_setKinds 9 = .ok (.ifCond .ne 6, 3) := by decide +kernel
theorem dX7_setKinds_12 : decode cX7_setKinds 12 = .ok (.bipush (-2), 2) := by decide +kernel
theorem dX7_setKinds_14 : decode cX7_setKinds 14 = .ok (.ireturn, 1) := by decide +kernel
theorem dX7_setKinds_15 : decode cX7_setKinds 15 = .ok (.aload_n 0, 1) := by decide +kernel
theorem dX7_setKinds_16 : decode cX7_setKinds 16 = .ok (.invokevirtual 96, 3) := by decide +kernel
theorem dX7_setKinds_19 : decode cX7_setKinds 19 = .ok (.iload_n 1, 1) := by decide +kernel
theorem dX7_setKinds_20 : decode cX7_setKinds 20 = .ok (.if_icmp .lt 6, 3) := by decide +kernel
theorem dX7_setKinds_23 : decode cX7_setKinds 23 = .ok (.bipush (-4), 2) := by decide +kernel
theorem dX7_setKinds_25 : decode cX7_setKinds 25 = .ok (.ireturn, 1) := by decide +kernel
theorem dX7_setKinds_26 : decode cX7_setKinds 26 = .ok (.aload_n 0, 1) := by decide +kernel
theorem dX7_setKinds_27 : decode cX7_setKinds 27 = .ok (.invokevirtual 81, 3) := by decide +kernel
theorem dX7_setKinds_30 : decode cX7_setKinds 30 = .ok (.aload_n 0, 1) := by decide +kernel
theorem dX7_setKinds_31 : decode cX7_setKinds 31 = .ok (.getfield 7, 3) := by decide +kernel
theorem dX7_setKinds_34 : decode cX7_setKinds 34 = .ok (.iconst 1, 1) := by decide +kernel
theorem dX7_setKinds_35 : decode cX7_setKinds 35 = .ok (.iaload, 1) := by decide +kernel
theorem dX7_setKinds_36 : decode cX7_setKinds 36 = .ok (.istore_n 2, 1) := by decide +kernel
theorem dX7_setKinds_37 : decode cX7_setKinds 37 = .ok (.aload_n 0, 1) := by decide +kernel
theorem dX7_setKinds_38 : decode cX7_setKinds 38 = .ok (.getfield 7, 3) := by decide +kernel
theorem dX7_setKinds_41 : decode cX7_setKinds 41 = .ok (.iconst 1, 1) := by decide +kernel
theorem dX7_setKinds_42 : decode cX7_setKinds 42 = .ok (.iload_n 1, 1) := by decide +kernel
theorem dX7_setKinds_43 : decode cX7_setKinds 43 = .ok (.iastore, 1) := by decide +kernel
theorem dX7_setKinds_44 : decode cX7_setKinds 44 = .ok (.aload_n 0, 1) := by decide +kernel
theorem dX7_setKinds_45 : decode cX7_setKinds 45 = .ok (.iload_n 2, 1) := by decide +kernel
theorem dX7_setKinds_46 : decode cX7_setKinds 46 = .ok (.iload_n 1, 1) := by decide +kernel
theorem dX7_setKinds_47 : decode cX7_setKinds 47 = .ok (.if_icmp .ne 8, 3) := by decide +kernel
theorem dX7_setKinds_50 : decode cX7_setKinds 50 = .ok (.bipush (-5), 2) := by decide +kernel
theorem dX7_setKinds_52 : decode cX7_setKinds 52 = .ok (.goto 4, 3) := by decide +kernel
theorem dX7_setKinds_55 : decode cX7_setKinds 55 = .ok (.iload_n 2, 1) := by decide +kernel
theorem dX7_setKinds_56 : decode cX7_setKinds 56 = .ok (.invokevirtual 88, 3) := by decide +kernel
theorem dX7_setKinds_59 : decode cX7_setKinds 59 = .ok (.ireturn, 1) := by decide +kernel
set_option maxRecDepth 20000 in
theorem ggX7_cutDoll_X7_isKind : GoodIn wsX7_cutDoll wsX7_isKind := goodIn_r _ [6, 1, 7, 8, 5, 9, 37, 38, 39, 40, 41, 42, 43, 44, 45, 46, 47, 48, 49, 50] (by decide +kernel) (by decide +kernel)
set_option maxRecDepth 20000 in
theorem gX7_cutDoll_X7_isKind : GoodIn wsX7_cutDoll (wsV RX7 75 RX7 yX7_isKind wsX7_isKind) := goodIn_app (goodIn_of _ (by decide +kernel)) ggX7_cutDoll_X7_isKind
set_option maxRecDepth 20000 in
theorem ggX7_cutDoll_X7_freeNumber : GoodIn wsX7_cutDoll wsX7_freeNumber := goodIn_r _ [13, 1, 37, 38, 39, 40, 41, 42, 43, 44, 45, 46, 47, 48, 49, 50] (by decide +kernel) (by decide +kernel)
set_option maxRecDepth 20000 in
theorem gX7_cutDoll_X7_freeNumber : GoodIn wsX7_cutDoll (wsV RX7 100 RX7 yX7_freeNumber wsX7_freeNumber) := goodIn_app (goodIn_of _ (by decide +kernel)) ggX7_cutDoll_X7_freeNumber
set_option maxRecDepth 20000 in
theorem ggX7_cutDoll_X7_keeps : GoodIn wsX7_cutDoll wsX7_keeps := goodIn_r _ [17, 18, 1, 37, 38, 39, 40, 41, 42, 43, 44, 45, 46, 47, 48, 49, 50] (by decide +kernel) (by decide +kernel)
set_option maxRecDepth 20000 in
theorem gX7_cutDoll_X7_keeps : GoodIn wsX7_cutDoll (wsV RX7 81 RX7 yX7_keeps wsX7_keeps) := goodIn_app (goodIn_of _ (by decide +kernel)) ggX7_cutDoll_X7_keeps
set_option maxRecDepth 20000 in
theorem ggX7_cutDoll_X7_lays : GoodIn wsX7_cutDoll wsX7_lays := goodIn_r _ [22, 1, 37, 38, 39, 40, 41, 42, 43, 44, 45, 46, 47, 48, 49, 50] (by decide +kernel) (by decide +kernel)
set_option maxRecDepth 20000 in
theorem gX7_cutDoll_X7_lays : GoodIn wsX7_cutDoll (wsV RX7 71 RX7 yX7_lays wsX7_lays) := goodIn_app (goodIn_of _ (by decide +kernel)) ggX7_cutDoll_X7_lays
set_option maxRecDepth 20000 in
theorem ggX7_cutDoll_X7_ends : GoodIn wsX7_cutDoll wsX7_ends := goodIn_r _ [26, 27, 28, 29, 5, 30, 1, 18, 31, 32, 33, 34, 35, 36, 37, 38, 39, 40, 41, 42, 43, 44, 45, 46, 47, 48, 49, 50] (by decide +kernel) (by decide +kernel)
set_option maxRecDepth 20000 in
theorem gX7_cutDoll_X7_ends : GoodIn wsX7_cutDoll (wsV RX7 88 RX7 yX7_ends wsX7_ends) := goodIn_app (goodIn_of _ (by decide +kernel)) ggX7_cutDoll_X7_ends
theorem dX7_cutDoll_0 : decode cX7_cutDoll 0 = .ok (.aload_n 0, 1) := by decide +kernel
theorem dX7_cutDoll_1 : decode cX7_cutDoll 1 = .ok (.iload_n 1, 1) := by decide +kernel
theorem dX7_cutDoll_2 : decode cX7_cutDoll 2 = .ok (.invokevirtual 75, 3) := by decide +kernel
theorem dX7_cutDoll_5 : decode cX7_cutDoll 5 = .ok (.ifCond .ne 5, 3) := by decide +kernel
theorem dX7_cutDoll_8 : decode cX7_cutDoll 8 = .ok (.iconst (-1), 1) := by decide +kernel
theorem dX7_cutDoll_9 : decode cX7_cutDoll 9 = .ok (.ireturn, 1) := by decide +kernel
theorem dX7_cutDoll_10 : decode cX7_cutDoll 10 = .ok (.aload_n 0, 1) := by decide +kernel
theorem dX7_cutDoll_11 : decode cX7_cutDoll 11 = .ok (.invokevirtual 100, 3) := by decide +kernel
theorem dX7_cutDoll_14 : decode cX7_cutDoll 14 = .ok (.istore_n 3, 1) := by decide +kernel
theorem dX7_cutDoll_15 : decode cX7_cutDoll 15 = .ok (.iload_n 3, 1) := by decide +kernel
theorem dX7_cutDoll_16 : decode cX7_cutDoll 16 = .ok (.bipush (-5), 2) := by decide +kernel
theorem dX7_cutDoll_18 : decode cX7_cutDoll 18 = .ok (.if_icmp .ne 6, 3) := by decide +kernel
theorem dX7_cutDoll_21 : decode cX7_cutDoll 21 = .ok (.bipush (-3), 2) := by decide +kernel
theorem dX7_cutDoll_23 : decode cX7_cutDoll 23 = .ok (.ireturn, 1) := by decide +kernel
theorem dX7_cutDoll_24 : decode cX7_cutDoll 24 = .ok (.aload_n 0, 1) := by decide +kernel
theorem dX7_cutDoll_25 : decode cX7_cutDoll 25 = .ok (.invokevirtual 81, 3) := by decide +kernel
theorem dX7_cutDoll_28 : decode cX7_cutDoll 28 = .ok (.aload_n 0, 1) := by decide +kernel
theorem dX7_cutDoll_29 : decode cX7_cutDoll 29 = .ok (.getfield 7, 3) := by decide +kernel
theorem dX7_cutDoll_32 : decode cX7_cutDoll 32 = .ok (.bipush 22, 2) := by decide +kernel
theorem dX7_cutDoll_34 : decode cX7_cutDoll 34 = .ok (.iload_n 3, 1) := by decide +kernel
theorem dX7_cutDoll_35 : decode cX7_cutDoll 35 = .ok (.iadd, 1) := by decide +kernel
theorem dX7_cutDoll_36 : decode cX7_cutDoll 36 = .ok (.iconst 1, 1) := by decide +kernel
theorem dX7_cutDoll_37 : decode cX7_cutDoll 37 = .ok (.iastore, 1) := by decide +kernel
theorem dX7_cutDoll_38 : decode cX7_cutDoll 38 = .ok (.aload_n 0, 1) := by decide +kernel
theorem dX7_cutDoll_39 : decode cX7_cutDoll 39 = .ok (.iload_n 3, 1) := by decide +kernel
theorem dX7_cutDoll_40 : decode cX7_cutDoll 40 = .ok (.iconst 0, 1) := by decide +kernel
theorem dX7_cutDoll_41 : decode cX7_cutDoll 41 = .ok (.iconst 2, 1) := by decide +kernel
theorem dX7_cutDoll_42 : decode cX7_cutDoll 42 = .ok (.iload_n 1, 1) := by decide +kernel
theorem dX7_cutDoll_43 : decode cX7_cutDoll 43 = .ok (.imul, 1) := by decide +kernel
theorem dX7_cutDoll_44 : decode cX7_cutDoll 44 = .ok (.iload_n 2, 1) := by decide +kernel
theorem dX7_cutDoll_45 : decode cX7_cutDoll 45 = .ok (.ifCond .eq 7, 3) := by decide +kernel
theorem dX7_cutDoll_48 : decode cX7_cutDoll 48 = .ok (.iconst 1, 1) := by decide +kernel
theorem dX7_cutDoll_49 : decode cX7_cutDoll 49 = .ok (.goto 4, 3) := by decide +kernel
theorem dX7_cutDoll_52 : decode cX7_cutDoll 52 = .ok (.iconst 0, 1) := by decide +kernel
theorem dX7_cutDoll_53 : decode cX7_cutDoll 53 = .ok (.iadd, 1) := by decide +kernel
theorem dX7_cutDoll_54 : decode cX7_cutDoll 54 = .ok (.invokevirtual 71, 3) := by decide +kernel
theorem dX7_cutDoll_57 : decode cX7_cutDoll 57 = .ok (.aload_n 0, 1) := by decide +kernel
theorem dX7_cutDoll_58 : decode cX7_cutDoll 58 = .ok (.iload_n 3, 1) := by decide +kernel
theorem dX7_cutDoll_59 : decode cX7_cutDoll 59 = .ok (.invokevirtual 88, 3) := by decide +kernel
theorem dX7_cutDoll_62 : decode cX7_cutDoll 62 = .ok (.ireturn, 1) := by decide +kernel
set_option maxRecDepth 20000 in
theorem ggX7_join_X7_isGarland : GoodIn wsX7_join wsX7_isGarland := goodIn_r _ [6, 7, 1, 8, 9, 5, 10, 54, 55, 56, 57, 58, 59, 60, 61, 62, 63, 64, 65, 66, 67] (by decide +kernel) (by decide +kernel)
set_option maxRecDepth 20000 in
theorem gX7_join_X7_isGarland : GoodIn wsX7_join (wsV RX7 103 RX7 yX7_isGarland wsX7_isGarland) := goodIn_app (goodIn_of _ (by decide +kernel)) ggX7_join_X7_isGarland
set_option maxRecDepth 20000 in
theorem ggX7_join_X7_last : GoodIn wsX7_join wsX7_last := goodIn_r _ [14, 1, 15, 16, 17, 5, 18, 54, 55, 56, 57, 58, 59, 60, 61, 62, 63, 64, 65, 66, 67] (by decide +kernel) (by decide +kernel)
set_option maxRecDepth 20000 in
theorem gX7_join_X7_last : GoodIn wsX7_join (wsV RX7 106 RX7 yX7_last wsX7_last) := goodIn_app (goodIn_of _ (by decide +kernel)) ggX7_join_X7_last
set_option maxRecDepth 20000 in
theorem ggX7_join_X7_dollAt : GoodIn wsX7_join wsX7_dollAt := goodIn_r _ [18, 1, 54, 55, 56, 57, 58, 59, 60, 61, 62, 63, 64, 65, 66, 67] (by decide +kernel) (by decide +kernel)
set_option maxRecDepth 20000 in
theorem gX7_join_X7_dollAt : GoodIn wsX7_join (wsV RX7 57 RX7 yX7_dollAt wsX7_dollAt) := goodIn_app (goodIn_of _ (by decide +kernel)) ggX7_join_X7_dollAt
set_option maxRecDepth 20000 in
theorem ggX7_join_X7_clash : GoodIn wsX7_join wsX7_clash := goodIn_r _ [22, 1, 23, 24, 25, 5, 26, 54, 55, 56, 57, 58, 59, 60, 61, 62, 63, 64, 65, 66, 67] (by decide +kernel) (by decide +kernel)
set_option maxRecDepth 20000 in
theorem gX7_join_X7_clash : GoodIn wsX7_join (wsV RX7 60 RX7 yX7_clash wsX7_clash) := goodIn_app (goodIn_of _ (by decide +kernel)) ggX7_join_X7_clash
set_option maxRecDepth 20000 in
theorem ggX7_join_X7_keeps : GoodIn wsX7_join wsX7_keeps := goodIn_r _ [30, 31, 1, 54, 55, 56, 57, 58, 59, 60, 61, 62, 63, 64, 65, 66, 67] (by decide +kernel) (by decide +kernel)
set_option maxRecDepth 20000 in
theorem gX7_join_X7_keeps : GoodIn wsX7_join (wsV RX7 81 RX7 yX7_keeps wsX7_keeps) := goodIn_app (goodIn_of _ (by decide +kernel)) ggX7_join_X7_keeps
set_option maxRecDepth 20000 in
theorem ggX7_join_X7_lays : GoodIn wsX7_join wsX7_lays := goodIn_r _ [35, 1, 54, 55, 56, 57, 58, 59, 60, 61, 62, 63, 64, 65, 66, 67] (by decide +kernel) (by decide +kernel)
set_option maxRecDepth 20000 in
theorem gX7_join_X7_lays : GoodIn wsX7_join (wsV RX7 71 RX7 yX7_lays wsX7_lays) := goodIn_app (goodIn_of _ (by decide +kernel)) ggX7_join_X7_lays
set_option maxRecDepth 20000 in
theorem ggX7_join_X7_takes : GoodIn wsX7_join wsX7_takes := goodIn_r _ [39, 1, 32, 33, 34, 5, 35, 54, 55, 56, 57, 58, 59, 60, 61, 62, 63, 64, 65, 66, 67] (by decide +kernel) (by decide +kernel)
set_option maxRecDepth 20000 in
theorem gX7_join_X7_takes : GoodIn wsX7_join (wsV RX7 109 RX7 yX7_takes wsX7_takes) := goodIn_app (goodIn_of _ (by decide +kernel)) ggX7_join_X7_takes
set_option maxRecDepth 20000 in
theorem ggX7_join_X7_ends : GoodIn wsX7_join wsX7_ends := goodIn_r _ [43, 44, 45, 46, 5, 47, 1, 31, 48, 49, 50, 51, 52, 53, 54, 55, 56, 57, 58, 59, 60, 61, 62, 63, 64, 65, 66, 67] (by decide +kernel) (by decide +kernel)
set_option maxRecDepth 20000 in
theorem gX7_join_X7_ends : GoodIn wsX7_join (wsV RX7 88 RX7 yX7_ends wsX7_ends) := goodIn_app (goodIn_of _ (by decide +kernel)) ggX7_join_X7_ends
theorem dX7_join_0 : decode cX7_join 0 = .ok (.aload_n 0, 1) := by decide +kernel
theorem dX7_join_1 : decode cX7_join 1 = .ok (.iload_n 1, 1) := by decide +kernel
theorem dX7_join_2 : decode cX7_join 2 = .ok (.invokevirtual 103, 3) := by decide +kernel
theorem dX7_join_5 : decode cX7_join 5 = .ok (.ifCond .eq 11, 3) := by decide +kernel
theorem dX7_join_8 : decode cX7_join 8 = .ok (.aload_n 0, 1) := by decide +kernel
theorem dX7_join_9 : decode cX7_join 9 = .ok (.iload_n 2, 1) := by decide +kernel
theorem dX7_join_10 : decode cX7_join 10 = .ok (.invokevirtual 103, 3) := by decide +kernel
theorem dX7_join_13 : decode cX7_join 13 = .ok (.ifCond .ne 5, 3) := by decide +kernel
theorem dX7_join_16 : decode cX7_join 16 = .ok (.iconst (-1), 1) := by decide +kernel
theorem dX7_join_17 : decode cX7_join 17 = .ok (.ireturn, 1) := by decide +kernel
theorem dX7_join_18 : decode cX7_join 18 = .ok (.iload_n 1, 1) := by decide +kernel
theorem dX7_join_19 : decode cX7_join 19 = .ok (.iload_n 2, 1) := by decide +kernel
theorem dX7_join_20 : decode cX7_join 20 = .ok (.if_icmp .ne 6, 3) := by decide +kernel
theorem dX7_join_23 : decode cX7_join 23 = .ok (.bipush (-2), 2) := by decide +kernel
theorem dX7_join_25 : decode cX7_join 25 = .ok (.ireturn, 1) := by decide +kernel
theorem dX7_join_26 : decode cX7_join 26 = .ok (.aload_n 0, 1) := by decide +kernel
theorem dX7_join_27 : decode cX7_join 27 = .ok (.aload_n 0, 1) := by decide +kernel
theorem dX7_join_28 : decode cX7_join 28 = .ok (.iload_n 1, 1) := by decide +kernel
theorem dX7_join_29 : decode cX7_join 29 = .ok (.invokevirtual 106, 3) := by decide +kernel
theorem dX7_join_32 : decode cX7_join 32 = .ok (.aload_n 0, 1) := by decide +kernel
theorem dX7_join_33 : decode cX7_join 33 = .ok (.iload_n 2, 1) := by decide +kernel
theorem dX7_join_34 : decode cX7_join 34 = .ok (.iconst 0, 1) := by decide +kernel
theorem dX7_join_35 : decode cX7_join 35 = .ok (.invokevirtual 57, 3) := by decide +kernel
theorem dX7_join_38 : decode cX7_join 38 = .ok (.invokevirtual 60, 3) := by decide +kernel
theorem dX7_join_41 : decode cX7_join 41 = .ok (.ifCond .eq 6, 3) := by decide +kernel
theorem dX7_join_44 : decode cX7_join 44 = .ok (.bipush (-4), 2) := by decide +kernel
theorem dX7_join_46 : decode cX7_join 46 = .ok (.ireturn, 1) := by decide +kernel
theorem dX7_join_47 : decode cX7_join 47 = .ok (.aload_n 0, 1) := by decide +kernel
theorem dX7_join_48 : decode cX7_join 48 = .ok (.getfield 7, 3) := by decide +kernel
theorem dX7_join_51 : decode cX7_join 51 = .ok (.bipush 22, 2) := by decide +kernel
theorem dX7_join_53 : decode cX7_join 53 = .ok (.iload_n 1, 1) := by decide +kernel
theorem dX7_join_54 : decode cX7_join 54 = .ok (.iadd, 1) := by decide +kernel
theorem dX7_join_55 : decode cX7_join 55 = .ok (.iaload, 1) := by decide +kernel
theorem dX7_join_56 : decode cX7_join 56 = .ok (.aload_n 0, 1) := by decide +kernel
theorem dX7_join_57 : decode cX7_join 57 = .ok (.getfield 7, 3) := by decide +kernel
theorem dX7_join_60 : decode cX7_join 60 = .ok (.bipush 22, 2) := by decide +kernel
theorem dX7_join_62 : decode cX7_join 62 = .ok (.iload_n 2, 1) := by decide +kernel
theorem dX7_join_63 : decode cX7_join 63 = .ok (.iadd, 1) := by decide +kernel
theorem dX7_join_64 : decode cX7_join 64 = .ok (.iaload, 1) := by decide +kernel
theorem dX7_join_65 : decode cX7_join 65 = .ok (.iadd, 1) := by decide +kernel
theorem dX7_join_66 : decode cX7_join 66 = .ok (.bipush 32, 2) := by decide +kernel
theorem dX7_join_68 : decode cX7_join 68 = .ok (.if_icmp .le 6, 3) := by decide +kernel
theorem dX7_join_71 : decode cX7_join 71 = .ok (.bipush (-3), 2) := by decide +kernel
theorem dX7_join_73 : decode cX7_join 73 = .ok (.ireturn, 1) := by decide +kernel
theorem dX7_join_74 : decode cX7_join 74 = .ok (.aload_n 0, 1) := by decide +kernel
theorem dX7_join_75 : decode cX7_join 75 = .ok (.invokevirtual 81, 3) := by decide +kernel
theorem dX7_join_78 : decode cX7_join 78 = .ok (.iconst 0, 1) := by decide +kernel
theorem dX7_join_79 : decode cX7_join 79 = .ok (.istore_n 3, 1) := by decide +kernel
theorem dX7_join_80 : decode cX7_join 80 = .ok (.iload_n 3, 1) := by decide +kernel
theorem dX7_join_81 : decode cX7_join 81 = .ok (.aload_n 0, 1) := by decide +kernel
theorem dX7_join_82 : decode cX7_join 82 = .ok (.getfield 7, 3) := by decide +kernel
theorem dX7_join_85 : decode cX7_join 85 = .ok (.bipush 22, 2) := by decide +kernel
theorem dX7_join_87 : decode cX7_join 87 = .ok (.iload_n 2, 1) := by decide +kernel
theorem dX7_join_88 : decode cX7_join 88 = .ok (.iadd, 1) := by decide +kernel
theorem dX7_join_89 : decode cX7_join 89 = .ok (.iaload, 1) := by decide +kernel
theorem dX7_join_90 : decode cX7_join 90 = .ok (.if_icmp .ge 31, 3) := by decide +kernel
theorem dX7_join_93 : decode cX7_join 93 = .ok (.aload_n 0, 1) := by decide +kernel
theorem dX7_join_94 : decode cX7_join 94 = .ok (.iload_n 1, 1) := by decide +kernel
theorem dX7_join_95 : decode cX7_join 95 = .ok (.aload_n 0, 1) := by decide +kernel
theorem dX7_join_96 : decode cX7_join 96 = .ok (.getfield 7, 3) := by decide +kernel
theorem dX7_join_99 : decode cX7_join 99 = .ok (.bipush 22, 2) := by decide +kernel
theorem dX7_join_101 : decode cX7_join 101 = .ok (.iload_n 1, 1) := by decide +kernel
theorem dX7_join_102 : decode cX7_join 102 = .ok (.iadd, 1) := by decide +kernel
theorem dX7_join_103 : decode cX7_join 103 = .ok (.iaload, 1) := by decide +kernel
theorem dX7_join_104 : decode cX7_join 104 = .ok (.iload_n 3, 1) := by decide +kernel
theorem dX7_join_105 : decode cX7_join 105 = .ok (.iadd, 1) := by decide +kernel
theorem dX7_join_106 : decode cX7_join 106 = .ok (.aload_n 0, 1) := by decide +kernel
theorem dX7_join_107 : decode cX7_join 107 = .ok (.iload_n 2, 1) := by decide +kernel
theorem dX7_join_108 : decode cX7_join 108 = .ok (.iload_n 3, 1) := by decide +kernel
theorem dX7_join_109 : decode cX7_join 109 = .ok (.invokevirtual 57, 3) := by decide +kernel
theorem dX7_join_112 : decode cX7_join 112 = .ok (.invokevirtual 71, 3) := by decide +kernel
theorem dX7_join_115 : decode cX7_join 115 = .ok (.iinc 3 1, 3) := by decide +kernel
theorem dX7_join_118 : decode cX7_join 118 = .ok (.goto (-38), 3) := by decide +kernel
theorem dX7_join_121 : decode cX7_join 121 = .ok (.aload_n 0, 1) := by decide +kernel
theorem dX7_join_122 : decode cX7_join 122 = .ok (.getfield 7, 3) := by decide +kernel
theorem dX7_join_125 : decode cX7_join 125 = .ok (.bipush 22, 2) := by decide +kernel
theorem dX7_join_127 : decode cX7_join 127 = .ok (.iload_n 1, 1) := by decide +kernel
theorem dX7_join_128 : decode cX7_join 128 = .ok (.iadd, 1) := by decide +kernel
theorem dX7_join_129 : decode cX7_join 129 = .ok (.dup2, 1) := by decide +kernel
theorem dX7_join_130 : decode cX7_join 130 = .ok (.iaload, 1) := by decide +kernel
theorem dX7_join_131 : decode cX7_join 131 = .ok (.aload_n 0, 1) := by decide +kernel
theorem dX7_join_132 : decode cX7_join 132 = .ok (.getfield 7, 3) := by decide +kernel
theorem dX7_join_135 : decode cX7_join 135 = .ok (.bipush 22, 2) := by decide +kernel
theorem dX7_join_137 : decode cX7_join 137 = .ok (.iload_n 2, 1) := by decide +kernel
theorem dX7_join_138 : decode cX7_join 138 = .ok (.iadd, 1) := by decide +kernel
theorem dX7_join_139 : decode cX7_join 139 = .ok (.iaload, 1) := by decide +kernel
theorem dX7_join_140 : decode cX7_join 140 = .ok (.iadd, 1) := by decide +kernel
end
section
theorem dX7_join_141 : decode cX7_join 141 = .ok (.iastore, 1) := by decide +kernel
theorem dX7_join_142 : decode cX7_join 142 = .ok (.aload_n 0, 1) := by decide +kernel
theorem dX7_join_143 : decode cX7_join 143 = .ok (.iload_n 2, 1) := by decide +kernel
theorem dX7_join_144 : decode cX7_join 144 = .ok (.invokevirtual 109, 3) := by decide +kernel
theorem dX7_join_147 : decode cX7_join 147 = .ok (.aload_n 0, 1) := by decide +kernel
theorem dX7_join_148 : decode cX7_join 148 = .ok (.aload_n 0, 1) := by decide +kernel
theorem dX7_join_149 : decode cX7_join 149 = .ok (.getfield 7, 3) := by decide +kernel
theorem dX7_join_152 : decode cX7_join 152 = .ok (.bipush 22, 2) := by decide +kernel
theorem dX7_join_154 : decode cX7_join 154 = .ok (.iload_n 1, 1) := by decide +kernel
theorem dX7_join_155 : decode cX7_join 155 = .ok (.iadd, 1) := by decide +kernel
theorem dX7_join_156 : decode cX7_join 156 = .ok (.iaload, 1) := by decide +kernel
theorem dX7_join_157 : decode cX7_join 157 = .ok (.invokevirtual 88, 3) := by decide +kernel
theorem dX7_join_160 : decode cX7_join 160 = .ok (.ireturn, 1) := by decide +kernel
set_option maxRecDepth 20000 in
theorem ggX7_cutApart_X7_isGarland : GoodIn wsX7_cutApart wsX7_isGarland := goodIn_r _ [6, 7, 1, 8, 9, 5, 10, 42, 43, 44, 45, 46, 47, 48, 49, 50, 51, 52, 53, 54, 55] (by decide +kernel) (by decide +kernel)
set_option maxRecDepth 20000 in
theorem gX7_cutApart_X7_isGarland : GoodIn wsX7_cutApart (wsV RX7 103 RX7 yX7_isGarland wsX7_isGarland) := goodIn_app (goodIn_of _ (by decide +kernel)) ggX7_cutApart_X7_isGarland
set_option maxRecDepth 20000 in
theorem ggX7_cutApart_X7_in : GoodIn wsX7_cutApart wsX7_in := goodIn_r _ [10] (by decide +kernel) (by decide +kernel)
set_option maxRecDepth 20000 in
theorem gX7_cutApart_X7_in : GoodIn wsX7_cutApart (va_wsS RX7 47 yX7_in wsX7_in) := goodIn_app (goodIn_of _ (by decide +kernel)) ggX7_cutApart_X7_in
set_option maxRecDepth 20000 in
theorem ggX7_cutApart_X7_freeNumber : GoodIn wsX7_cutApart wsX7_freeNumber := goodIn_r _ [14, 1, 42, 43, 44, 45, 46, 47, 48, 49, 50, 51, 52, 53, 54, 55] (by decide +kernel) (by decide +kernel)
set_option maxRecDepth 20000 in
theorem gX7_cutApart_X7_freeNumber : GoodIn wsX7_cutApart (wsV RX7 100 RX7 yX7_freeNumber wsX7_freeNumber) := goodIn_app (goodIn_of _ (by decide +kernel)) ggX7_cutApart_X7_freeNumber
set_option maxRecDepth 20000 in
theorem ggX7_cutApart_X7_keeps : GoodIn wsX7_cutApart wsX7_keeps := goodIn_r _ [18, 19, 1, 42, 43, 44, 45, 46, 47, 48, 49, 50, 51, 52, 53, 54, 55] (by decide +kernel) (by decide +kernel)
set_option maxRecDepth 20000 in
theorem gX7_cutApart_X7_keeps : GoodIn wsX7_cutApart (wsV RX7 81 RX7 yX7_keeps wsX7_keeps) := goodIn_app (goodIn_of _ (by decide +kernel)) ggX7_cutApart_X7_keeps
set_option maxRecDepth 20000 in
theorem ggX7_cutApart_X7_dollAt : GoodIn wsX7_cutApart wsX7_dollAt := goodIn_r _ [23, 1, 42, 43, 44, 45, 46, 47, 48, 49, 50, 51, 52, 53, 54, 55] (by decide +kernel) (by decide +kernel)
set_option maxRecDepth 20000 in
theorem gX7_cutApart_X7_dollAt : GoodIn wsX7_cutApart (wsV RX7 57 RX7 yX7_dollAt wsX7_dollAt) := goodIn_app (goodIn_of _ (by decide +kernel)) ggX7_cutApart_X7_dollAt
set_option maxRecDepth 20000 in
theorem ggX7_cutApart_X7_lays : GoodIn wsX7_cutApart wsX7_lays := goodIn_r _ [27, 1, 42, 43, 44, 45, 46, 47, 48, 49, 50, 51, 52, 53, 54, 55] (by decide +kernel) (by decide +kernel)
set_option maxRecDepth 20000 in
theorem gX7_cutApart_X7_lays : GoodIn wsX7_cutApart (wsV RX7 71 RX7 yX7_lays wsX7_lays) := goodIn_app (goodIn_of _ (by decide +kernel)) ggX7_cutApart_X7_lays
set_option maxRecDepth 20000 in
theorem ggX7_cutApart_X7_ends : GoodIn wsX7_cutApart wsX7_ends := goodIn_r _ [31, 32, 33, 34, 5, 35, 1, 19, 36, 37, 38, 39, 40, 41, 42, 43, 44, 45, 46, 47, 48, 49, 50, 51, 52, 53, 54, 55] (by decide +kernel) (by decide +kernel)
set_option maxRecDepth 20000 in
theorem gX7_cutApart_X7_ends : GoodIn wsX7_cutApart (wsV RX7 88 RX7 yX7_ends wsX7_ends) := goodIn_app (goodIn_of _ (by decide +kernel)) ggX7_cutApart_X7_ends
theorem dX7_cutApart_0 : decode cX7_cutApart 0 = .ok (.aload_n 0, 1) := by decide +kernel
theorem dX7_cutApart_1 : decode cX7_cutApart 1 = .ok (.iload_n 1, 1) := by decide +kernel
theorem dX7_cutApart_2 : decode cX7_cutApart 2 = .ok (.invokevirtual 103, 3) := by decide +kernel
theorem dX7_cutApart_5 : decode cX7_cutApart 5 = .ok (.ifCond .ne 5, 3) := by decide +kernel
theorem dX7_cutApart_8 : decode cX7_cutApart 8 = .ok (.iconst (-1), 1) := by decide +kernel
theorem dX7_cutApart_9 : decode cX7_cutApart 9 = .ok (.ireturn, 1) := by decide +kernel
theorem dX7_cutApart_10 : decode cX7_cutApart 10 = .ok (.iload_n 2, 1) := by decide +kernel
theorem dX7_cutApart_11 : decode cX7_cutApart 11 = .ok (.i2l, 1) := by decide +kernel
theorem dX7_cutApart_12 : decode cX7_cutApart 12 = .ok (.lconst 1, 1) := by decide +kernel
theorem dX7_cutApart_13 : decode cX7_cutApart 13 = .ok (.aload_n 0, 1) := by decide +kernel
theorem dX7_cutApart_14 : decode cX7_cutApart 14 = .ok (.getfield 7, 3) := by decide +kernel
theorem dX7_cutApart_17 : decode cX7_cutApart 17 = .ok (.bipush 22, 2) := by decide +kernel
theorem dX7_cutApart_19 : decode cX7_cutApart 19 = .ok (.iload_n 1, 1) := by decide +kernel
theorem dX7_cutApart_20 : decode cX7_cutApart 20 = .ok (.iadd, 1) := by decide +kernel
theorem dX7_cutApart_21 : decode cX7_cutApart 21 = .ok (.iaload, 1) := by decide +kernel
theorem dX7_cutApart_22 : decode cX7_cutApart 22 = .ok (.i2l, 1) := by decide +kernel
theorem dX7_cutApart_23 : decode cX7_cutApart 23 = .ok (.lconst 1, 1) := by decide +kernel
theorem dX7_cutApart_24 : decode cX7_cutApart 24 = .ok (.lsub, 1) := by decide +kernel
theorem dX7_cutApart_25 : decode cX7_cutApart 25 = .ok (.invokestatic 47, 3) := by decide +kernel
theorem dX7_cutApart_28 : decode cX7_cutApart 28 = .ok (.ifCond .ne 6, 3) := by decide +kernel
theorem dX7_cutApart_31 : decode cX7_cutApart 31 = .ok (.bipush (-2), 2) := by decide +kernel
theorem dX7_cutApart_33 : decode cX7_cutApart 33 = .ok (.ireturn, 1) := by decide +kernel
theorem dX7_cutApart_34 : decode cX7_cutApart 34 = .ok (.aload_n 0, 1) := by decide +kernel
theorem dX7_cutApart_35 : decode cX7_cutApart 35 = .ok (.invokevirtual 100, 3) := by decide +kernel
theorem dX7_cutApart_38 : decode cX7_cutApart 38 = .ok (.istore_n 3, 1) := by decide +kernel
theorem dX7_cutApart_39 : decode cX7_cutApart 39 = .ok (.iload_n 3, 1) := by decide +kernel
theorem dX7_cutApart_40 : decode cX7_cutApart 40 = .ok (.bipush (-5), 2) := by decide +kernel
theorem dX7_cutApart_42 : decode cX7_cutApart 42 = .ok (.if_icmp .ne 6, 3) := by decide +kernel
theorem dX7_cutApart_45 : decode cX7_cutApart 45 = .ok (.bipush (-3), 2) := by decide +kernel
theorem dX7_cutApart_47 : decode cX7_cutApart 47 = .ok (.ireturn, 1) := by decide +kernel
theorem dX7_cutApart_48 : decode cX7_cutApart 48 = .ok (.aload_n 0, 1) := by decide +kernel
theorem dX7_cutApart_49 : decode cX7_cutApart 49 = .ok (.invokevirtual 81, 3) := by decide +kernel
theorem dX7_cutApart_52 : decode cX7_cutApart 52 = .ok (.iload_n 2, 1) := by decide +kernel
theorem dX7_cutApart_53 : decode cX7_cutApart 53 = .ok (.istore 4, 2) := by decide +kernel
theorem dX7_cutApart_55 : decode cX7_cutApart 55 = .ok (.iload 4, 2) := by decide +kernel
theorem dX7_cutApart_57 : decode cX7_cutApart 57 = .ok (.aload_n 0, 1) := by decide +kernel
theorem dX7_cutApart_58 : decode cX7_cutApart 58 = .ok (.getfield 7, 3) := by decide +kernel
theorem dX7_cutApart_61 : decode cX7_cutApart 61 = .ok (.bipush 22, 2) := by decide +kernel
theorem dX7_cutApart_63 : decode cX7_cutApart 63 = .ok (.iload_n 1, 1) := by decide +kernel
theorem dX7_cutApart_64 : decode cX7_cutApart 64 = .ok (.iadd, 1) := by decide +kernel
theorem dX7_cutApart_65 : decode cX7_cutApart 65 = .ok (.iaload, 1) := by decide +kernel
theorem dX7_cutApart_66 : decode cX7_cutApart 66 = .ok (.if_icmp .ge 33, 3) := by decide +kernel
theorem dX7_cutApart_69 : decode cX7_cutApart 69 = .ok (.aload_n 0, 1) := by decide +kernel
theorem dX7_cutApart_70 : decode cX7_cutApart 70 = .ok (.iload_n 3, 1) := by decide +kernel
theorem dX7_cutApart_71 : decode cX7_cutApart 71 = .ok (.iload 4, 2) := by decide +kernel
theorem dX7_cutApart_73 : decode cX7_cutApart 73 = .ok (.iload_n 2, 1) := by decide +kernel
theorem dX7_cutApart_74 : decode cX7_cutApart 74 = .ok (.isub, 1) := by decide +kernel
theorem dX7_cutApart_75 : decode cX7_cutApart 75 = .ok (.aload_n 0, 1) := by decide +kernel
theorem dX7_cutApart_76 : decode cX7_cutApart 76 = .ok (.iload_n 1, 1) := by decide +kernel
theorem dX7_cutApart_77 : decode cX7_cutApart 77 = .ok (.iload 4, 2) := by decide +kernel
theorem dX7_cutApart_79 : decode cX7_cutApart 79 = .ok (.invokevirtual 57, 3) := by decide +kernel
theorem dX7_cutApart_82 : decode cX7_cutApart 82 = .ok (.invokevirtual 71, 3) := by decide +kernel
theorem dX7_cutApart_85 : decode cX7_cutApart 85 = .ok (.aload_n 0, 1) := by decide +kernel
theorem dX7_cutApart_86 : decode cX7_cutApart 86 = .ok (.iload_n 1, 1) := by decide +kernel
theorem dX7_cutApart_87 : decode cX7_cutApart 87 = .ok (.iload 4, 2) := by decide +kernel
theorem dX7_cutApart_89 : decode cX7_cutApart 89 = .ok (.iconst 0, 1) := by decide +kernel
theorem dX7_cutApart_90 : decode cX7_cutApart 90 = .ok (.invokevirtual 71, 3) := by decide +kernel
theorem dX7_cutApart_93 : decode cX7_cutApart 93 = .ok (.iinc 4 1, 3) := by decide +kernel
theorem dX7_cutApart_96 : decode cX7_cutApart 96 = .ok (.goto (-41), 3) := by decide +kernel
theorem dX7_cutApart_99 : decode cX7_cutApart 99 = .ok (.aload_n 0, 1) := by decide +kernel
theorem dX7_cutApart_100 : decode cX7_cutApart 100 = .ok (.getfield 7, 3) := by decide +kernel
theorem dX7_cutApart_103 : decode cX7_cutApart 103 = .ok (.bipush 22, 2) := by decide +kernel
theorem dX7_cutApart_105 : decode cX7_cutApart 105 = .ok (.iload_n 3, 1) := by decide +kernel
theorem dX7_cutApart_106 : decode cX7_cutApart 106 = .ok (.iadd, 1) := by decide +kernel
theorem dX7_cutApart_107 : decode cX7_cutApart 107 = .ok (.aload_n 0, 1) := by decide +kernel
theorem dX7_cutApart_108 : decode cX7_cutApart 108 = .ok (.getfield 7, 3) := by decide +kernel
theorem dX7_cutApart_111 : decode cX7_cutApart 111 = .ok (.bipush 22, 2) := by decide +kernel
theorem dX7_cutApart_113 : decode cX7_cutApart 113 = .ok (.iload_n 1, 1) := by decide +kernel
theorem dX7_cutApart_114 : decode cX7_cutApart 114 = .ok (.iadd, 1) := by decide +kernel
theorem dX7_cutApart_115 : decode cX7_cutApart 115 = .ok (.iaload, 1) := by decide +kernel
theorem dX7_cutApart_116 : decode cX7_cutApart 116 = .ok (.iload_n 2, 1) := by decide +kernel
theorem dX7_cutApart_117 : decode cX7_cutApart 117 = .ok (.isub, 1) := by decide +kernel
theorem dX7_cutApart_118 : decode cX7_cutApart 118 = .ok (.iastore, 1) := by decide +kernel
theorem dX7_cutApart_119 : decode cX7_cutApart 119 = .ok (.aload_n 0, 1) := by decide +kernel
theorem dX7_cutApart_120 : decode cX7_cutApart 120 = .ok (.getfield 7, 3) := by decide +kernel
theorem dX7_cutApart_123 : decode cX7_cutApart 123 = .ok (.bipush 22, 2) := by decide +kernel
theorem dX7_cutApart_125 : decode cX7_cutApart 125 = .ok (.iload_n 1, 1) := by decide +kernel
theorem dX7_cutApart_126 : decode cX7_cutApart 126 = .ok (.iadd, 1) := by decide +kernel
theorem dX7_cutApart_127 : decode cX7_cutApart 127 = .ok (.iload_n 2, 1) := by decide +kernel
theorem dX7_cutApart_128 : decode cX7_cutApart 128 = .ok (.iastore, 1) := by decide +kernel
theorem dX7_cutApart_129 : decode cX7_cutApart 129 = .ok (.aload_n 0, 1) := by decide +kernel
theorem dX7_cutApart_130 : decode cX7_cutApart 130 = .ok (.iload_n 3, 1) := by decide +kernel
theorem dX7_cutApart_131 : decode cX7_cutApart 131 = .ok (.invokevirtual 88, 3) := by decide +kernel
theorem dX7_cutApart_134 : decode cX7_cutApart 134 = .ok (.ireturn, 1) := by decide +kernel
set_option maxRecDepth 20000 in
theorem ggX7_turn_X7_isGarland : GoodIn wsX7_turn wsX7_isGarland := goodIn_r _ [7, 8, 1, 9, 10, 6, 11, 55, 56, 57, 58, 59, 60, 61, 62, 63, 64, 65, 66, 67, 68] (by decide +kernel) (by decide +kernel)
set_option maxRecDepth 20000 in
theorem gX7_turn_X7_isGarland : GoodIn wsX7_turn (wsV RX7 103 RX7 yX7_isGarland wsX7_isGarland) := goodIn_app (goodIn_of _ (by decide +kernel)) ggX7_turn_X7_isGarland
set_option maxRecDepth 20000 in
theorem ggX7_turn_X7_isOwnImage : GoodIn wsX7_turn wsX7_isOwnImage := goodIn_r _ [15, 16, 17, 18, 6, 19, 1, 20, 21, 22, 23, 24, 25, 26, 27, 55, 56, 57, 58, 59, 60, 61, 62, 63, 64, 65, 66, 67, 68] (by decide +kernel) (by decide +kernel)
set_option maxRecDepth 20000 in
theorem gX7_turn_X7_isOwnImage : GoodIn wsX7_turn (wsV RX7 113 RX7 yX7_isOwnImage wsX7_isOwnImage) := goodIn_app (goodIn_of _ (by decide +kernel)) ggX7_turn_X7_isOwnImage
set_option maxRecDepth 20000 in
theorem ggX7_turn_X7_keeps : GoodIn wsX7_turn wsX7_keeps := goodIn_r _ [31, 32, 1, 55, 56, 57, 58, 59, 60, 61, 62, 63, 64, 65, 66, 67, 68] (by decide +kernel) (by decide +kernel)
set_option maxRecDepth 20000 in
theorem gX7_turn_X7_keeps : GoodIn wsX7_turn (wsV RX7 81 RX7 yX7_keeps wsX7_keeps) := goodIn_app (goodIn_of _ (by decide +kernel)) ggX7_turn_X7_keeps
set_option maxRecDepth 20000 in
theorem ggX7_turn_X7_turnedDoll : GoodIn wsX7_turn wsX7_turnedDoll := goodIn_r _ [27, 1, 20, 21, 22, 6, 23, 55, 56, 57, 58, 59, 60, 61, 62, 63, 64, 65, 66, 67, 68] (by decide +kernel) (by decide +kernel)
set_option maxRecDepth 20000 in
theorem gX7_turn_X7_turnedDoll : GoodIn wsX7_turn (wsV RX7 64 RX7 yX7_turnedDoll wsX7_turnedDoll) := goodIn_app (goodIn_of _ (by decide +kernel)) ggX7_turn_X7_turnedDoll
set_option maxRecDepth 20000 in
theorem ggX7_turn_X7_lays : GoodIn wsX7_turn wsX7_lays := goodIn_r _ [36, 1, 55, 56, 57, 58, 59, 60, 61, 62, 63, 64, 65, 66, 67, 68] (by decide +kernel) (by decide +kernel)
set_option maxRecDepth 20000 in
theorem gX7_turn_X7_lays : GoodIn wsX7_turn (wsV RX7 71 RX7 yX7_lays wsX7_lays) := goodIn_app (goodIn_of _ (by decide +kernel)) ggX7_turn_X7_lays
set_option maxRecDepth 20000 in
theorem ggX7_turn_X7_mirroredIn : GoodIn wsX7_turn wsX7_mirroredIn := goodIn_r _ [40, 1, 20, 21, 22, 6, 23, 55, 56, 57, 58, 59, 60, 61, 62, 63, 64, 65, 66, 67, 68] (by decide +kernel) (by decide +kernel)
set_option maxRecDepth 20000 in
theorem gX7_turn_X7_mirroredIn : GoodIn wsX7_turn (wsV RX7 116 RX7 yX7_mirroredIn wsX7_mirroredIn) := goodIn_app (goodIn_of _ (by decide +kernel)) ggX7_turn_X7_mirroredIn
set_option maxRecDepth 20000 in
theorem ggX7_turn_X7_ends : GoodIn wsX7_turn wsX7_ends := goodIn_r _ [44, 45, 46, 47, 6, 48, 1, 32, 49, 50, 51, 52, 53, 54, 55, 56, 57, 58, 59, 60, 61, 62, 63, 64, 65, 66, 67, 68] (by decide +kernel) (by decide +kernel)
set_option maxRecDepth 20000 in
theorem gX7_turn_X7_ends : GoodIn wsX7_turn (wsV RX7 88 RX7 yX7_ends wsX7_ends) := goodIn_app (goodIn_of _ (by decide +kernel)) ggX7_turn_X7_ends
theorem dX7_turn_0 : decode cX7_turn 0 = .ok (.aload_n 0, 1) := by decide +kernel
theorem dX7_turn_1 : decode cX7_turn 1 = .ok (.iload_n 1, 1) := by decide +kernel
theorem dX7_turn_2 : decode cX7_turn 2 = .ok (.invokevirtual 103, 3) := by decide +kernel
theorem dX7_turn_5 : decode cX7_turn 5 = .ok (.ifCond .ne 5, 3) := by decide +kernel
theorem dX7_turn_8 : decode cX7_turn 8 = .ok (.iconst (-1), 1) := by decide +kernel
theorem dX7_turn_9 : decode cX7_turn 9 = .ok (.ireturn, 1) := by decide +kernel
theorem dX7_turn_10 : decode cX7_turn 10 = .ok (.aload_n 0, 1) := by decide +kernel
theorem dX7_turn_11 : decode cX7_turn 11 = .ok (.iload_n 1, 1) := by decide +kernel
theorem dX7_turn_12 : decode cX7_turn 12 = .ok (.invokevirtual 113, 3) := by decide +kernel
theorem dX7_turn_15 : decode cX7_turn 15 = .ok (.ifCond .eq 6, 3) := by decide +kernel
theorem dX7_turn_18 : decode cX7_turn 18 = .ok (.bipush (-5), 2) := by decide +kernel
theorem dX7_turn_20 : decode cX7_turn 20 = .ok (.ireturn, 1) := by decide +kernel
theorem dX7_turn_21 : decode cX7_turn 21 = .ok (.aload_n 0, 1) := by decide +kernel
theorem dX7_turn_22 : decode cX7_turn 22 = .ok (.invokevirtual 81, 3) := by decide +kernel
theorem dX7_turn_25 : decode cX7_turn 25 = .ok (.iconst 0, 1) := by decide +kernel
theorem dX7_turn_26 : decode cX7_turn 26 = .ok (.istore_n 2, 1) := by decide +kernel
theorem dX7_turn_27 : decode cX7_turn 27 = .ok (.iload_n 2, 1) := by decide +kernel
theorem dX7_turn_28 : decode cX7_turn 28 = .ok (.aload_n 0, 1) := by decide +kernel
theorem dX7_turn_29 : decode cX7_turn 29 = .ok (.getfield 7, 3) := by decide +kernel
theorem dX7_turn_32 : decode cX7_turn 32 = .ok (.bipush 22, 2) := by decide +kernel
theorem dX7_turn_34 : decode cX7_turn 34 = .ok (.iload_n 1, 1) := by decide +kernel
theorem dX7_turn_35 : decode cX7_turn 35 = .ok (.iadd, 1) := by decide +kernel
theorem dX7_turn_36 : decode cX7_turn 36 = .ok (.iaload, 1) := by decide +kernel
theorem dX7_turn_37 : decode cX7_turn 37 = .ok (.if_icmp .ge 21, 3) := by decide +kernel
theorem dX7_turn_40 : decode cX7_turn 40 = .ok (.aload_n 0, 1) := by decide +kernel
theorem dX7_turn_41 : decode cX7_turn 41 = .ok (.getfield 22, 3) := by decide +kernel
theorem dX7_turn_44 : decode cX7_turn 44 = .ok (.iload_n 2, 1) := by decide +kernel
theorem dX7_turn_45 : decode cX7_turn 45 = .ok (.aload_n 0, 1) := by decide +kernel
theorem dX7_turn_46 : decode cX7_turn 46 = .ok (.iload_n 1, 1) := by decide +kernel
theorem dX7_turn_47 : decode cX7_turn 47 = .ok (.iload_n 2, 1) := by decide +kernel
theorem dX7_turn_48 : decode cX7_turn 48 = .ok (.invokevirtual 64, 3) := by decide +kernel
theorem dX7_turn_51 : decode cX7_turn 51 = .ok (.iastore, 1) := by decide +kernel
theorem dX7_turn_52 : decode cX7_turn 52 = .ok (.iinc 2 1, 3) := by decide +kernel
theorem dX7_turn_55 : decode cX7_turn 55 = .ok (.goto (-28), 3) := by decide +kernel
theorem dX7_turn_58 : decode cX7_turn 58 = .ok (.iconst 0, 1) := by decide +kernel
theorem dX7_turn_59 : decode cX7_turn 59 = .ok (.istore_n 2, 1) := by decide +kernel
theorem dX7_turn_60 : decode cX7_turn 60 = .ok (.iload_n 2, 1) := by decide +kernel
theorem dX7_turn_61 : decode cX7_turn 61 = .ok (.aload_n 0, 1) := by decide +kernel
theorem dX7_turn_62 : decode cX7_turn 62 = .ok (.getfield 7, 3) := by decide +kernel
theorem dX7_turn_65 : decode cX7_turn 65 = .ok (.bipush 22, 2) := by decide +kernel
theorem dX7_turn_67 : decode cX7_turn 67 = .ok (.iload_n 1, 1) := by decide +kernel
theorem dX7_turn_68 : decode cX7_turn 68 = .ok (.iadd, 1) := by decide +kernel
theorem dX7_turn_69 : decode cX7_turn 69 = .ok (.iaload, 1) := by decide +kernel
theorem dX7_turn_70 : decode cX7_turn 70 = .ok (.if_icmp .ge 21, 3) := by decide +kernel
theorem dX7_turn_73 : decode cX7_turn 73 = .ok (.aload_n 0, 1) := by decide +kernel
theorem dX7_turn_74 : decode cX7_turn 74 = .ok (.iload_n 1, 1) := by decide +kernel
theorem dX7_turn_75 : decode cX7_turn 75 = .ok (.iload_n 2, 1) := by decide +kernel
theorem dX7_turn_76 : decode cX7_turn 76 = .ok (.aload_n 0, 1) := by decide +kernel
theorem dX7_turn_77 : decode cX7_turn 77 = .ok (.getfield 22, 3) := by decide +kernel
theorem dX7_turn_80 : decode cX7_turn 80 = .ok (.iload_n 2, 1) := by decide +kernel
theorem dX7_turn_81 : decode cX7_turn 81 = .ok (.iaload, 1) := by decide +kernel
theorem dX7_turn_82 : decode cX7_turn 82 = .ok (.invokevirtual 71, 3) := by decide +kernel
theorem dX7_turn_85 : decode cX7_turn 85 = .ok (.iinc 2 1, 3) := by decide +kernel
theorem dX7_turn_88 : decode cX7_turn 88 = .ok (.goto (-28), 3) := by decide +kernel
theorem dX7_turn_91 : decode cX7_turn 91 = .ok (.aload_n 0, 1) := by decide +kernel
theorem dX7_turn_92 : decode cX7_turn 92 = .ok (.aload_n 0, 1) := by decide +kernel
theorem dX7_turn_93 : decode cX7_turn 93 = .ok (.iload_n 1, 1) := by decide +kernel
theorem dX7_turn_94 : decode cX7_turn 94 = .ok (.invokevirtual 116, 3) := by decide +kernel
theorem dX7_turn_97 : decode cX7_turn 97 = .ok (.invokevirtual 88, 3) := by decide +kernel
theorem dX7_turn_100 : decode cX7_turn 100 = .ok (.ireturn, 1) := by decide +kernel
set_option maxRecDepth 20000 in
theorem ggX7_fold_X7_isGarland : GoodIn wsX7_fold wsX7_isGarland := goodIn_r _ [6, 7, 1, 8, 9, 5, 10, 50, 51, 52, 53, 54, 55, 56, 57, 58, 59, 60, 61, 62, 63] (by decide +kernel) (by decide +kernel)
set_option maxRecDepth 20000 in
theorem gX7_fold_X7_isGarland : GoodIn wsX7_fold (wsV RX7 103 RX7 yX7_isGarland wsX7_isGarland) := goodIn_app (goodIn_of _ (by decide +kernel)) ggX7_fold_X7_isGarland
set_option maxRecDepth 20000 in
theorem ggX7_fold_X7_last : GoodIn wsX7_fold wsX7_last := goodIn_r _ [14, 1, 15, 16, 17, 5, 18, 50, 51, 52, 53, 54, 55, 56, 57, 58, 59, 60, 61, 62, 63] (by decide +kernel) (by decide +kernel)
set_option maxRecDepth 20000 in
theorem gX7_fold_X7_last : GoodIn wsX7_fold (wsV RX7 106 RX7 yX7_last wsX7_last) := goodIn_app (goodIn_of _ (by decide +kernel)) ggX7_fold_X7_last
set_option maxRecDepth 20000 in
theorem ggX7_fold_X7_clash : GoodIn wsX7_fold wsX7_clash := goodIn_r _ [22, 1, 23, 24, 25, 5, 26, 50, 51, 52, 53, 54, 55, 56, 57, 58, 59, 60, 61, 62, 63] (by decide +kernel) (by decide +kernel)
set_option maxRecDepth 20000 in
theorem gX7_fold_X7_clash : GoodIn wsX7_fold (wsV RX7 60 RX7 yX7_clash wsX7_clash) := goodIn_app (goodIn_of _ (by decide +kernel)) ggX7_fold_X7_clash
set_option maxRecDepth 20000 in
theorem ggX7_fold_X7_keeps : GoodIn wsX7_fold wsX7_keeps := goodIn_r _ [30, 31, 1, 50, 51, 52, 53, 54, 55, 56, 57, 58, 59, 60, 61, 62, 63] (by decide +kernel) (by decide +kernel)
set_option maxRecDepth 20000 in
theorem gX7_fold_X7_keeps : GoodIn wsX7_fold (wsV RX7 81 RX7 yX7_keeps wsX7_keeps) := goodIn_app (goodIn_of _ (by decide +kernel)) ggX7_fold_X7_keeps
set_option maxRecDepth 20000 in
theorem ggX7_fold_X7_dollAt : GoodIn wsX7_fold wsX7_dollAt := goodIn_r _ [18, 1, 50, 51, 52, 53, 54, 55, 56, 57, 58, 59, 60, 61, 62, 63] (by decide +kernel) (by decide +kernel)
set_option maxRecDepth 20000 in
theorem gX7_fold_X7_dollAt : GoodIn wsX7_fold (wsV RX7 57 RX7 yX7_dollAt wsX7_dollAt) := goodIn_app (goodIn_of _ (by decide +kernel)) ggX7_fold_X7_dollAt
set_option maxRecDepth 20000 in
theorem ggX7_fold_X7_lays : GoodIn wsX7_fold wsX7_lays := goodIn_r _ [35, 1, 50, 51, 52, 53, 54, 55, 56, 57, 58, 59, 60, 61, 62, 63] (by decide +kernel) (by decide +kernel)
set_option maxRecDepth 20000 in
theorem gX7_fold_X7_lays : GoodIn wsX7_fold (wsV RX7 71 RX7 yX7_lays wsX7_lays) := goodIn_app (goodIn_of _ (by decide +kernel)) ggX7_fold_X7_lays
set_option maxRecDepth 20000 in
theorem ggX7_fold_X7_ends : GoodIn wsX7_fold wsX7_ends := goodIn_r _ [39, 40, 41, 42, 5, 43, 1, 31, 44, 45, 46, 47, 48, 49, 50, 51, 52, 53, 54, 55, 56, 57, 58, 59, 60, 61, 62, 63] (by decide +kernel) (by decide +kernel)
set_option maxRecDepth 20000 in
theorem gX7_fold_X7_ends : GoodIn wsX7_fold (wsV RX7 88 RX7 yX7_ends wsX7_ends) := goodIn_app (goodIn_of _ (by decide +kernel)) ggX7_fold_X7_ends
theorem dX7_fold_0 : decode cX7_fold 0 = .ok (.aload_n 0, 1) := by decide +kernel
theorem dX7_fold_1 : decode cX7_fold 1 = .ok (.iload_n 1, 1) := by decide +kernel
theorem dX7_fold_2 : decode cX7_fold 2 = .ok (.invokevirtual 103, 3) := by decide +kernel
theorem dX7_fold_5 : decode cX7_fold 5 = .ok (.ifCond .ne 5, 3) := by decide +kernel
theorem dX7_fold_8 : decode cX7_fold 8 = .ok (.iconst (-1), 1) := by decide +kernel
theorem dX7_fold_9 : decode cX7_fold 9 = .ok (.ireturn, 1) := by decide +kernel
theorem dX7_fold_10 : decode cX7_fold 10 = .ok (.aload_n 0, 1) := by decide +kernel
theorem dX7_fold_11 : decode cX7_fold 11 = .ok (.aload_n 0, 1) := by decide +kernel
theorem dX7_fold_12 : decode cX7_fold 12 = .ok (.iload_n 1, 1) := by decide +kernel
theorem dX7_fold_13 : decode cX7_fold 13 = .ok (.invokevirtual 106, 3) := by decide +kernel
theorem dX7_fold_16 : decode cX7_fold 16 = .ok (.aload_n 0, 1) := by decide +kernel
theorem dX7_fold_17 : decode cX7_fold 17 = .ok (.iload_n 1, 1) := by decide +kernel
theorem dX7_fold_18 : decode cX7_fold 18 = .ok (.invokevirtual 106, 3) := by decide +kernel
theorem dX7_fold_21 : decode cX7_fold 21 = .ok (.iconst 1, 1) := by decide +kernel
theorem dX7_fold_22 : decode cX7_fold 22 = .ok (.ixor, 1) := by decide +kernel
theorem dX7_fold_23 : decode cX7_fold 23 = .ok (.invokevirtual 60, 3) := by decide +kernel
theorem dX7_fold_26 : decode cX7_fold 26 = .ok (.ifCond .eq 6, 3) := by decide +kernel
theorem dX7_fold_29 : decode cX7_fold 29 = .ok (.bipush (-4), 2) := by decide +kernel
theorem dX7_fold_31 : decode cX7_fold 31 = .ok (.ireturn, 1) := by decide +kernel
theorem dX7_fold_32 : decode cX7_fold 32 = .ok (.aload_n 0, 1) := by decide +kernel
theorem dX7_fold_33 : decode cX7_fold 33 = .ok (.getfield 7, 3) := by decide +kernel
theorem dX7_fold_36 : decode cX7_fold 36 = .ok (.bipush 22, 2) := by decide +kernel
theorem dX7_fold_38 : decode cX7_fold 38 = .ok (.iload_n 1, 1) := by decide +kernel
theorem dX7_fold_39 : decode cX7_fold 39 = .ok (.iadd, 1) := by decide +kernel
theorem dX7_fold_40 : decode cX7_fold 40 = .ok (.iaload, 1) := by decide +kernel
theorem dX7_fold_41 : decode cX7_fold 41 = .ok (.istore_n 2, 1) := by decide +kernel
theorem dX7_fold_42 : decode cX7_fold 42 = .ok (.iconst 2, 1) := by decide +kernel
theorem dX7_fold_43 : decode cX7_fold 43 = .ok (.iload_n 2, 1) := by decide +kernel
theorem dX7_fold_44 : decode cX7_fold 44 = .ok (.imul, 1) := by decide +kernel
theorem dX7_fold_45 : decode cX7_fold 45 = .ok (.bipush 32, 2) := by decide +kernel
theorem dX7_fold_47 : decode cX7_fold 47 = .ok (.if_icmp .le 6, 3) := by decide +kernel
theorem dX7_fold_50 : decode cX7_fold 50 = .ok (.bipush (-3), 2) := by decide +kernel
theorem dX7_fold_52 : decode cX7_fold 52 = .ok (.ireturn, 1) := by decide +kernel
theorem dX7_fold_53 : decode cX7_fold 53 = .ok (.aload_n 0, 1) := by decide +kernel
theorem dX7_fold_54 : decode cX7_fold 54 = .ok (.invokevirtual 81, 3) := by decide +kernel
theorem dX7_fold_57 : decode cX7_fold 57 = .ok (.iconst 0, 1) := by decide +kernel
theorem dX7_fold_58 : decode cX7_fold 58 = .ok (.istore_n 3, 1) := by decide +kernel
theorem dX7_fold_59 : decode cX7_fold 59 = .ok (.iload_n 3, 1) := by decide +kernel
theorem dX7_fold_60 : decode cX7_fold 60 = .ok (.iload_n 2, 1) := by decide +kernel
theorem dX7_fold_61 : decode cX7_fold 61 = .ok (.if_icmp .ge 29, 3) := by decide +kernel
theorem dX7_fold_64 : decode cX7_fold 64 = .ok (.aload_n 0, 1) := by decide +kernel
theorem dX7_fold_65 : decode cX7_fold 65 = .ok (.iload_n 1, 1) := by decide +kernel
theorem dX7_fold_66 : decode cX7_fold 66 = .ok (.iload_n 2, 1) := by decide +kernel
theorem dX7_fold_67 : decode cX7_fold 67 = .ok (.iload_n 3, 1) := by decide +kernel
theorem dX7_fold_68 : decode cX7_fold 68 = .ok (.iadd, 1) := by decide +kernel
theorem dX7_fold_69 : decode cX7_fold 69 = .ok (.aload_n 0, 1) := by decide +kernel
theorem dX7_fold_70 : decode cX7_fold 70 = .ok (.iload_n 1, 1) := by decide +kernel
theorem dX7_fold_71 : decode cX7_fold 71 = .ok (.iload_n 2, 1) := by decide +kernel
theorem dX7_fold_72 : decode cX7_fold 72 = .ok (.iconst 1, 1) := by decide +kernel
theorem dX7_fold_73 : decode cX7_fold 73 = .ok (.isub, 1) := by decide +kernel
theorem dX7_fold_74 : decode cX7_fold 74 = .ok (.iload_n 3, 1) := by decide +kernel
theorem dX7_fold_75 : decode cX7_fold 75 = .ok (.isub, 1) := by decide +kernel
theorem dX7_fold_76 : decode cX7_fold 76 = .ok (.invokevirtual 57, 3) := by decide +kernel
theorem dX7_fold_79 : decode cX7_fold 79 = .ok (.iconst 1, 1) := by decide +kernel
theorem dX7_fold_80 : decode cX7_fold 80 = .ok (.ixor, 1) := by decide +kernel
theorem dX7_fold_81 : decode cX7_fold 81 = .ok (.invokevirtual 71, 3) := by decide +kernel
theorem dX7_fold_84 : decode cX7_fold 84 = .ok (.iinc 3 1, 3) := by decide +kernel
theorem dX7_fold_87 : decode cX7_fold 87 = .ok (.goto (-28), 3) := by decide +kernel
theorem dX7_fold_90 : decode cX7_fold 90 = .ok (.aload_n 0, 1) := by decide +kernel
theorem dX7_fold_91 : decode cX7_fold 91 = .ok (.getfield 7, 3) := by decide +kernel
theorem dX7_fold_94 : decode cX7_fold 94 = .ok (.bipush 22, 2) := by decide +kernel
theorem dX7_fold_96 : decode cX7_fold 96 = .ok (.iload_n 1, 1) := by decide +kernel
theorem dX7_fold_97 : decode cX7_fold 97 = .ok (.iadd, 1) := by decide +kernel
theorem dX7_fold_98 : decode cX7_fold 98 = .ok (.iconst 2, 1) := by decide +kernel
theorem dX7_fold_99 : decode cX7_fold 99 = .ok (.iload_n 2, 1) := by decide +kernel
theorem dX7_fold_100 : decode cX7_fold 100 = .ok (.imul, 1) := by decide +kernel
theorem dX7_fold_101 : decode cX7_fold 101 = .ok (.iastore, 1) := by decide +kernel
theorem dX7_fold_102 : decode cX7_fold 102 = .ok (.aload_n 0, 1) := by decide +kernel
theorem dX7_fold_103 : decode cX7_fold 103 = .ok (.iconst 2, 1) := by decide +kernel
theorem dX7_fold_104 : decode cX7_fold 104 = .ok (.iload_n 2, 1) := by decide +kernel
theorem dX7_fold_105 : decode cX7_fold 105 = .ok (.imul, 1) := by decide +kernel
theorem dX7_fold_106 : decode cX7_fold 106 = .ok (.invokevirtual 88, 3) := by decide +kernel
theorem dX7_fold_109 : decode cX7_fold 109 = .ok (.ireturn, 1) := by decide +kernel
set_option maxRecDepth 20000 in
theorem ggX7_takeAway_X7_isGarland : GoodIn wsX7_takeAway wsX7_isGarland := goodIn_r _ [6, 7, 1, 8, 9, 5, 10, 38, 39, 40, 41, 42, 43, 44, 45, 46, 47, 48, 49, 50, 51] (by decide +kernel) (by decide +kernel)
set_option maxRecDepth 20000 in
theorem gX7_takeAway_X7_isGarland : GoodIn wsX7_takeAway (wsV RX7 103 RX7 yX7_isGarland wsX7_isGarland) := goodIn_app (goodIn_of _ (by decide +kernel)) ggX7_takeAway_X7_isGarland
set_option maxRecDepth 20000 in
theorem ggX7_takeAway_X7_keeps : GoodIn wsX7_takeAway wsX7_keeps := goodIn_r _ [14, 15, 1, 38, 39, 40, 41, 42, 43, 44, 45, 46, 47, 48, 49, 50, 51] (by decide +kernel) (by decide +kernel)
set_option maxRecDepth 20000 in
theorem gX7_takeAway_X7_keeps : GoodIn wsX7_takeAway (wsV RX7 81 RX7 yX7_keeps wsX7_keeps) := goodIn_app (goodIn_of _ (by decide +kernel)) ggX7_takeAway_X7_keeps
set_option maxRecDepth 20000 in
theorem ggX7_takeAway_X7_takes : GoodIn wsX7_takeAway wsX7_takes := goodIn_r _ [19, 1, 20, 21, 22, 5, 23, 38, 39, 40, 41, 42, 43, 44, 45, 46, 47, 48, 49, 50, 51] (by decide +kernel) (by decide +kernel)
set_option maxRecDepth 20000 in
theorem gX7_takeAway_X7_takes : GoodIn wsX7_takeAway (wsV RX7 109 RX7 yX7_takes wsX7_takes) := goodIn_app (goodIn_of _ (by decide +kernel)) ggX7_takeAway_X7_takes
set_option maxRecDepth 20000 in
theorem ggX7_takeAway_X7_ends : GoodIn wsX7_takeAway wsX7_ends := goodIn_r _ [27, 28, 29, 30, 5, 31, 1, 15, 32, 33, 34, 35, 36, 37, 38, 39, 40, 41, 42, 43, 44, 45, 46, 47, 48, 49, 50, 51] (by decide +kernel) (by decide +kernel)
set_option maxRecDepth 20000 in
theorem gX7_takeAway_X7_ends : GoodIn wsX7_takeAway (wsV RX7 88 RX7 yX7_ends wsX7_ends) := goodIn_app (goodIn_of _ (by decide +kernel)) ggX7_takeAway_X7_ends
theorem dX7_takeAway_0 : decode cX7_takeAway 0 = .ok (.aload_n 0, 1) := by decide +kernel
theorem dX7_takeAway_1 : decode cX7_takeAway 1 = .ok (.iload_n 1, 1) := by decide +kernel
theorem dX7_takeAway_2 : decode cX7_takeAway 2 = .ok (.invokevirtual 103, 3) := by decide +kernel
theorem dX7_takeAway_5 : decode cX7_takeAway 5 = .ok (.ifCond .ne 5, 3) := by decide +kernel
theorem dX7_takeAway_8 : decode cX7_takeAway 8 = .ok (.iconst (-1), 1) := by decide +kernel
theorem dX7_takeAway_9 : decode cX7_takeAway 9 = .ok (.ireturn, 1) := by decide +kernel
theorem dX7_takeAway_10 : decode cX7_takeAway 10 = .ok (.aload_n 0, 1) := by decide +kernel
theorem dX7_takeAway_11 : decode cX7_takeAway 11 = .ok (.invokevirtual 81, 3) := by decide +kernel
theorem dX7_takeAway_14 : decode cX7_takeAway 14 = .ok (.aload_n 0, 1) := by decide +kernel
theorem dX7_takeAway_15 : decode cX7_takeAway 15 = .ok (.getfield 7, 3) := by decide +kernel
theorem dX7_takeAway_18 : decode cX7_takeAway 18 = .ok (.bipush 22, 2) := by decide +kernel
theorem dX7_takeAway_20 : decode cX7_takeAway 20 = .ok (.iload_n 1, 1) := by decide +kernel
theorem dX7_takeAway_21 : decode cX7_takeAway 21 = .ok (.iadd, 1) := by decide +kernel
theorem dX7_takeAway_22 : decode cX7_takeAway 22 = .ok (.iaload, 1) := by decide +kernel
theorem dX7_takeAway_23 : decode cX7_takeAway 23 = .ok (.istore_n 2, 1) := by decide +kernel
theorem dX7_takeAway_24 : decode cX7_takeAway 24 = .ok (.aload_n 0, 1) := by decide +kernel
theorem dX7_takeAway_25 : decode cX7_takeAway 25 = .ok (.iload_n 1, 1) := by decide +kernel
theorem dX7_takeAway_26 : decode cX7_takeAway 26 = .ok (.invokevirtual 109, 3) := by decide +kernel
theorem dX7_takeAway_29 : decode cX7_takeAway 29 = .ok (.aload_n 0, 1) := by decide +kernel
theorem dX7_takeAway_30 : decode cX7_takeAway 30 = .ok (.iload_n 2, 1) := by decide +kernel
theorem dX7_takeAway_31 : decode cX7_takeAway 31 = .ok (.invokevirtual 88, 3) := by decide +kernel
theorem dX7_takeAway_34 : decode cX7_takeAway 34 = .ok (.ireturn, 1) := by decide +kernel
theorem dX7_type_0 : decode cX7_type 0 = .ok (.aload_n 0, 1) := by decide +kernel
theorem dX7_type_1 : decode cX7_type 1 = .ok (.getfield 119, 3) := by decide +kernel
theorem dX7_type_4 : decode cX7_type 4 = .ok (.bipush 80, 2) := by decide +kernel
theorem dX7_type_6 : decode cX7_type 6 = .ok (.if_icmp .ne 6, 3) := by decide +kernel
theorem dX7_type_9 : decode cX7_type 9 = .ok (.bipush (-3), 2) := by decide +kernel
theorem dX7_type_11 : decode cX7_type 11 = .ok (.ireturn, 1) := by decide +kernel
theorem dX7_type_12 : decode cX7_type 12 = .ok (.aload_n 0, 1) := by decide +kernel
theorem dX7_type_13 : decode cX7_type 13 = .ok (.getfield 25, 3) := by decide +kernel
theorem dX7_type_16 : decode cX7_type 16 = .ok (.aload_n 0, 1) := by decide +kernel
theorem dX7_type_17 : decode cX7_type 17 = .ok (.getfield 119, 3) := by decide +kernel
theorem dX7_type_20 : decode cX7_type 20 = .ok (.iload_n 1, 1) := by decide +kernel
theorem dX7_type_21 : decode cX7_type 21 = .ok (.iastore, 1) := by decide +kernel
theorem dX7_type_22 : decode cX7_type 22 = .ok (.aload_n 0, 1) := by decide +kernel
theorem dX7_type_23 : decode cX7_type 23 = .ok (.dup, 1) := by decide +kernel
theorem dX7_type_24 : decode cX7_type 24 = .ok (.getfield 119, 3) := by decide +kernel
theorem dX7_type_27 : decode cX7_type 27 = .ok (.iconst 1, 1) := by decide +kernel
theorem dX7_type_28 : decode cX7_type 28 = .ok (.iadd, 1) := by decide +kernel
theorem dX7_type_29 : decode cX7_type 29 = .ok (.putfield 119, 3) := by decide +kernel
theorem dX7_type_32 : decode cX7_type 32 = .ok (.aload_n 0, 1) := by decide +kernel
theorem dX7_type_33 : decode cX7_type 33 = .ok (.getfield 119, 3) := by decide +kernel
theorem dX7_type_36 : decode cX7_type 36 = .ok (.ireturn, 1) := by decide +kernel
theorem dX7_clearText_0 : decode cX7_clearText 0 = .ok (.aload_n 0, 1) := by decide +kernel
theorem dX7_clearText_1 : decode cX7_clearText 1 = .ok (.getfield 119, 3) := by decide +kernel
theorem dX7_clearText_4 : decode cX7_clearText 4 = .ok (.istore_n 1, 1) := by decide +kernel
theorem dX7_clearText_5 : decode cX7_clearText 5 = .ok (.aload_n 0, 1) := by decide +kernel
theorem dX7_clearText_6 : decode cX7_clearText 6 = .ok (.iconst 0, 1) := by decide +kernel
theorem dX7_clearText_7 : decode cX7_clearText 7 = .ok (.putfield 119, 3) := by decide +kernel
theorem dX7_clearText_10 : decode cX7_clearText 10 = .ok (.iload_n 1, 1) := by decide +kernel
theorem dX7_clearText_11 : decode cX7_clearText 11 = .ok (.ireturn, 1) := by decide +kernel
theorem dX7_takesOne_0 : decode cX7_takesOne 0 = .ok (.aload_n 0, 1) := by decide +kernel
theorem dX7_takesOne_1 : decode cX7_takesOne 1 = .ok (.getfield 122, 3) := by decide +kernel
theorem dX7_takesOne_4 : decode cX7_takesOne 4 = .ok (.aload_n 0, 1) := by decide +kernel
theorem dX7_takesOne_5 : decode cX7_takesOne 5 = .ok (.getfield 119, 3) := by decide +kernel
theorem dX7_takesOne_8 : decode cX7_takesOne 8 = .ok (.if_icmp .ge 20, 3) := by decide +kernel
theorem dX7_takesOne_11 : decode cX7_takesOne 11 = .ok (.aload_n 0, 1) := by decide +kernel
theorem dX7_takesOne_12 : decode cX7_takesOne 12 = .ok (.getfield 25, 3) := by decide +kernel
theorem dX7_takesOne_15 : decode cX7_takesOne 15 = .ok (.aload_n 0, 1) := by decide +kernel
theorem dX7_takesOne_16 : decode cX7_takesOne 16 = .ok (.getfield 122, 3) := by decide +kernel
theorem dX7_takesOne_19 : decode cX7_takesOne 19 = .ok (.iaload, 1) := by decide +kernel
theorem dX7_takesOne_20 : decode cX7_takesOne 20 = .ok (.iload_n 1, 1) := by decide +kernel
theorem dX7_takesOne_21 : decode cX7_takesOne 21 = .ok (.if_icmp .ne 7, 3) := by decide +kernel
theorem dX7_takesOne_24 : decode cX7_takesOne 24 = .ok (.iconst 1, 1) := by decide +kernel
theorem dX7_takesOne_25 : decode cX7_takesOne 25 = .ok (.goto 4, 3) := by decide +kernel
theorem dX7_takesOne_28 : decode cX7_takesOne 28 = .ok (.iconst 0, 1) := by decide +kernel
theorem dX7_takesOne_29 : decode cX7_takesOne 29 = .ok (.istore_n 2, 1) := by decide +kernel
theorem dX7_takesOne_30 : decode cX7_takesOne 30 = .ok (.aload_n 0, 1) := by decide +kernel
theorem dX7_takesOne_31 : decode cX7_takesOne 31 = .ok (.dup, 1) := by decide +kernel
theorem dX7_takesOne_32 : decode cX7_takesOne 32 = .ok (.getfield 122, 3) := by decide +kernel
theorem dX7_takesOne_35 : decode cX7_takesOne 35 = .ok (.iload_n 2, 1) := by decide +kernel
theorem dX7_takesOne_36 : decode cX7_takesOne 36 = .ok (.ifCond .eq 7, 3) := by decide +kernel
theorem dX7_takesOne_39 : decode cX7_takesOne 39 = .ok (.iconst 1, 1) := by decide +kernel
theorem dX7_takesOne_40 : decode cX7_takesOne 40 = .ok (.goto 4, 3) := by decide +kernel
theorem dX7_takesOne_43 : decode cX7_takesOne 43 = .ok (.iconst 0, 1) := by decide +kernel
theorem dX7_takesOne_44 : decode cX7_takesOne 44 = .ok (.iadd, 1) := by decide +kernel
theorem dX7_takesOne_45 : decode cX7_takesOne 45 = .ok (.putfield 122, 3) := by decide +kernel
theorem dX7_takesOne_48 : decode cX7_takesOne 48 = .ok (.iload_n 2, 1) := by decide +kernel
theorem dX7_takesOne_49 : decode cX7_takesOne 49 = .ok (.ireturn, 1) := by decide +kernel
set_option maxRecDepth 20000 in
theorem ggX7_readsDoll_X7_in : GoodIn wsX7_readsDoll wsX7_in := goodIn_r _ [11] (by decide +kernel) (by decide +kernel)
set_option maxRecDepth 20000 in
theorem gX7_readsDoll_X7_in : GoodIn wsX7_readsDoll (va_wsS RX7 47 yX7_in wsX7_in) := goodIn_app (goodIn_of _ (by decide +kernel)) ggX7_readsDoll_X7_in
set_option maxRecDepth 20000 in
theorem ggX7_readsDoll_X7_takesOne : GoodIn wsX7_readsDoll wsX7_takesOne := goodIn_r _ [15, 1, 2, 3, 16, 17, 18, 19, 20, 21, 22, 23, 24, 25, 26, 27, 28, 29] (by decide +kernel) (by decide +kernel)
set_option maxRecDepth 20000 in
theorem gX7_readsDoll_X7_takesOne : GoodIn wsX7_readsDoll (wsV RX7 132 RX7 yX7_takesOne wsX7_takesOne) := goodIn_app (goodIn_of _ (by decide +kernel)) ggX7_readsDoll_X7_takesOne
theorem dX7_readsDoll_0 : decode cX7_readsDoll 0 = .ok (.aload_n 0, 1) := by decide +kernel
theorem dX7_readsDoll_1 : decode cX7_readsDoll 1 = .ok (.getfield 122, 3) := by decide +kernel
theorem dX7_readsDoll_4 : decode cX7_readsDoll 4 = .ok (.aload_n 0, 1) := by decide +kernel
theorem dX7_readsDoll_5 : decode cX7_readsDoll 5 = .ok (.getfield 119, 3) := by decide +kernel
theorem dX7_readsDoll_8 : decode cX7_readsDoll 8 = .ok (.if_icmp .eq 25, 3) := by decide +kernel
theorem dX7_readsDoll_11 : decode cX7_readsDoll 11 = .ok (.aload_n 0, 1) := by decide +kernel
theorem dX7_readsDoll_12 : decode cX7_readsDoll 12 = .ok (.getfield 25, 3) := by decide +kernel
theorem dX7_readsDoll_15 : decode cX7_readsDoll 15 = .ok (.aload_n 0, 1) := by decide +kernel
theorem dX7_readsDoll_16 : decode cX7_readsDoll 16 = .ok (.getfield 122, 3) := by decide +kernel
theorem dX7_readsDoll_19 : decode cX7_readsDoll 19 = .ok (.iaload, 1) := by decide +kernel
theorem dX7_readsDoll_20 : decode cX7_readsDoll 20 = .ok (.i2l, 1) := by decide +kernel
theorem dX7_readsDoll_21 : decode cX7_readsDoll 21 = .ok (.ldc2_w 125, 3) := by decide +kernel
theorem dX7_readsDoll_24 : decode cX7_readsDoll 24 = .ok (.ldc2_w 127, 3) := by decide +kernel
theorem dX7_readsDoll_27 : decode cX7_readsDoll 27 = .ok (.invokestatic 47, 3) := by decide +kernel
theorem dX7_readsDoll_30 : decode cX7_readsDoll 30 = .ok (.ifCond .ne 5, 3) := by decide +kernel
theorem dX7_readsDoll_33 : decode cX7_readsDoll 33 = .ok (.iconst 0, 1) := by decide +kernel
theorem dX7_readsDoll_34 : decode cX7_readsDoll 34 = .ok (.ireturn, 1) := by decide +kernel
theorem dX7_readsDoll_35 : decode cX7_readsDoll 35 = .ok (.aload_n 0, 1) := by decide +kernel
theorem dX7_readsDoll_36 : decode cX7_readsDoll 36 = .ok (.getfield 22, 3) := by decide +kernel
theorem dX7_readsDoll_39 : decode cX7_readsDoll 39 = .ok (.aload_n 0, 1) := by decide +kernel
theorem dX7_readsDoll_40 : decode cX7_readsDoll 40 = .ok (.getfield 129, 3) := by decide +kernel
theorem dX7_readsDoll_43 : decode cX7_readsDoll 43 = .ok (.iconst 2, 1) := by decide +kernel
theorem dX7_readsDoll_44 : decode cX7_readsDoll 44 = .ok (.aload_n 0, 1) := by decide +kernel
theorem dX7_readsDoll_45 : decode cX7_readsDoll 45 = .ok (.getfield 25, 3) := by decide +kernel
theorem dX7_readsDoll_48 : decode cX7_readsDoll 48 = .ok (.aload_n 0, 1) := by decide +kernel
theorem dX7_readsDoll_49 : decode cX7_readsDoll 49 = .ok (.getfield 122, 3) := by decide +kernel
theorem dX7_readsDoll_52 : decode cX7_readsDoll 52 = .ok (.iaload, 1) := by decide +kernel
theorem dX7_readsDoll_53 : decode cX7_readsDoll 53 = .ok (.bipush 48, 2) := by decide +kernel
theorem dX7_readsDoll_55 : decode cX7_readsDoll 55 = .ok (.isub, 1) := by decide +kernel
theorem dX7_readsDoll_56 : decode cX7_readsDoll 56 = .ok (.imul, 1) := by decide +kernel
theorem dX7_readsDoll_57 : decode cX7_readsDoll 57 = .ok (.iastore, 1) := by decide +kernel
theorem dX7_readsDoll_58 : decode cX7_readsDoll 58 = .ok (.aload_n 0, 1) := by decide +kernel
theorem dX7_readsDoll_59 : decode cX7_readsDoll 59 = .ok (.dup, 1) := by decide +kernel
theorem dX7_readsDoll_60 : decode cX7_readsDoll 60 = .ok (.getfield 122, 3) := by decide +kernel
theorem dX7_readsDoll_63 : decode cX7_readsDoll 63 = .ok (.iconst 1, 1) := by decide +kernel
theorem dX7_readsDoll_64 : decode cX7_readsDoll 64 = .ok (.iadd, 1) := by decide +kernel
theorem dX7_readsDoll_65 : decode cX7_readsDoll 65 = .ok (.putfield 122, 3) := by decide +kernel
theorem dX7_readsDoll_68 : decode cX7_readsDoll 68 = .ok (.aload_n 0, 1) := by decide +kernel
theorem dX7_readsDoll_69 : decode cX7_readsDoll 69 = .ok (.getfield 22, 3) := by decide +kernel
theorem dX7_readsDoll_72 : decode cX7_readsDoll 72 = .ok (.aload_n 0, 1) := by decide +kernel
theorem dX7_readsDoll_73 : decode cX7_readsDoll 73 = .ok (.getfield 129, 3) := by decide +kernel
theorem dX7_readsDoll_76 : decode cX7_readsDoll 76 = .ok (.dup2, 1) := by decide +kernel
theorem dX7_readsDoll_77 : decode cX7_readsDoll 77 = .ok (.iaload, 1) := by decide +kernel
theorem dX7_readsDoll_78 : decode cX7_readsDoll 78 = .ok (.aload_n 0, 1) := by decide +kernel
theorem dX7_readsDoll_79 : decode cX7_readsDoll 79 = .ok (.bipush 39, 2) := by decide +kernel
theorem dX7_readsDoll_81 : decode cX7_readsDoll 81 = .ok (.invokevirtual 132, 3) := by decide +kernel
theorem dX7_readsDoll_84 : decode cX7_readsDoll 84 = .ok (.ifCond .eq 7, 3) := by decide +kernel
theorem dX7_readsDoll_87 : decode cX7_readsDoll 87 = .ok (.iconst 1, 1) := by decide +kernel
theorem dX7_readsDoll_88 : decode cX7_readsDoll 88 = .ok (.goto 4, 3) := by decide +kernel
theorem dX7_readsDoll_91 : decode cX7_readsDoll 91 = .ok (.iconst 0, 1) := by decide +kernel
theorem dX7_readsDoll_92 : decode cX7_readsDoll 92 = .ok (.iadd, 1) := by decide +kernel
theorem dX7_readsDoll_93 : decode cX7_readsDoll 93 = .ok (.iastore, 1) := by decide +kernel
theorem dX7_readsDoll_94 : decode cX7_readsDoll 94 = .ok (.aload_n 0, 1) := by decide +kernel
theorem dX7_readsDoll_95 : decode cX7_readsDoll 95 = .ok (.dup, 1) := by decide +kernel
theorem dX7_readsDoll_96 : decode cX7_readsDoll 96 = .ok (.getfield 129, 3) := by decide +kernel
theorem dX7_readsDoll_99 : decode cX7_readsDoll 99 = .ok (.iconst 1, 1) := by decide +kernel
theorem dX7_readsDoll_100 : decode cX7_readsDoll 100 = .ok (.iadd, 1) := by decide +kernel
theorem dX7_readsDoll_101 : decode cX7_readsDoll 101 = .ok (.putfield 129, 3) := by decide +kernel
theorem dX7_readsDoll_104 : decode cX7_readsDoll 104 = .ok (.iconst 1, 1) := by decide +kernel
theorem dX7_readsDoll_105 : decode cX7_readsDoll 105 = .ok (.ireturn, 1) := by decide +kernel
set_option maxRecDepth 20000 in
theorem ggX7_fault_X7_readsDoll : GoodIn wsX7_fault wsX7_readsDoll := goodIn_r _ [8, 1, 3, 9, 10, 11, 12, 2, 13, 14, 7, 15, 16, 17, 18, 19, 20, 21, 22, 23, 24, 25, 26, 27, 28, 29, 30, 31, 32, 33] (by decide +kernel) (by decide +kernel)
set_option maxRecDepth 20000 in
theorem gX7_fault_X7_readsDoll : GoodIn wsX7_fault (wsV RX7 135 RX7 yX7_readsDoll wsX7_readsDoll) := goodIn_app (goodIn_of _ (by decide +kernel)) ggX7_fault_X7_readsDoll
set_option maxRecDepth 20000 in
theorem ggX7_fault_X7_takesOne : GoodIn wsX7_fault wsX7_takesOne := goodIn_r _ [19, 1, 3, 9, 20, 21, 22, 23, 24, 25, 26, 27, 28, 29, 30, 31, 32, 33] (by decide +kernel) (by decide +kernel)
set_option maxRecDepth 20000 in
theorem gX7_fault_X7_takesOne : GoodIn wsX7_fault (wsV RX7 132 RX7 yX7_takesOne wsX7_takesOne) := goodIn_app (goodIn_of _ (by decide +kernel)) ggX7_fault_X7_takesOne
theorem dX7_fault_0 : decode cX7_fault 0 = .ok (.aload_n 0, 1) := by decide +kernel
theorem dX7_fault_1 : decode cX7_fault 1 = .ok (.iconst 0, 1) := by decide +kernel
theorem dX7_fault_2 : decode cX7_fault 2 = .ok (.putfield 122, 3) := by decide +kernel
theorem dX7_fault_5 : decode cX7_fault 5 = .ok (.aload_n 0, 1) := by decide +kernel
theorem dX7_fault_6 : decode cX7_fault 6 = .ok (.iconst 0, 1) := by decide +kernel
theorem dX7_fault_7 : decode cX7_fault 7 = .ok (.putfield 129, 3) := by decide +kernel
theorem dX7_fault_10 : decode cX7_fault 10 = .ok (.iconst 1, 1) := by decide +kernel
theorem dX7_fault_11 : decode cX7_fault 11 = .ok (.istore_n 1, 1) := by decide +kernel
theorem dX7_fault_12 : decode cX7_fault 12 = .ok (.iload_n 1, 1) := by decide +kernel
theorem dX7_fault_13 : decode cX7_fault 13 = .ok (.ifCond .eq 42, 3) := by decide +kernel
theorem dX7_fault_16 : decode cX7_fault 16 = .ok (.aload_n 0, 1) := by decide +kernel
theorem dX7_fault_17 : decode cX7_fault 17 = .ok (.invokevirtual 135, 3) := by decide +kernel
theorem dX7_fault_20 : decode cX7_fault 20 = .ok (.ifCond .ne 8, 3) := by decide +kernel
theorem dX7_fault_23 : decode cX7_fault 23 = .ok (.aload_n 0, 1) := by decide +kernel
theorem dX7_fault_24 : decode cX7_fault 24 = .ok (.getfield 122, 3) := by decide +kernel
theorem dX7_fault_27 : decode cX7_fault 27 = .ok (.ireturn, 1) := by decide +kernel
theorem dX7_fault_28 : decode cX7_fault 28 = .ok (.aload_n 0, 1) := by decide +kernel
theorem dX7_fault_29 : decode cX7_fault 29 = .ok (.getfield 129, 3) := by decide +kernel
theorem dX7_fault_32 : decode cX7_fault 32 = .ok (.bipush 32, 2) := by decide +kernel
theorem dX7_fault_34 : decode cX7_fault 34 = .ok (.if_icmp .ge 16, 3) := by decide +kernel
theorem dX7_fault_37 : decode cX7_fault 37 = .ok (.aload_n 0, 1) := by decide +kernel
theorem dX7_fault_38 : decode cX7_fault 38 = .ok (.bipush 44, 2) := by decide +kernel
theorem dX7_fault_40 : decode cX7_fault 40 = .ok (.invokevirtual 132, 3) := by decide +kernel
theorem dX7_fault_43 : decode cX7_fault 43 = .ok (.ifCond .eq 7, 3) := by decide +kernel
theorem dX7_fault_46 : decode cX7_fault 46 = .ok (.iconst 1, 1) := by decide +kernel
theorem dX7_fault_47 : decode cX7_fault 47 = .ok (.goto 4, 3) := by decide +kernel
theorem dX7_fault_50 : decode cX7_fault 50 = .ok (.iconst 0, 1) := by decide +kernel
theorem dX7_fault_51 : decode cX7_fault 51 = .ok (.istore_n 1, 1) := by decide +kernel
theorem dX7_fault_52 : decode cX7_fault 52 = .ok (.goto (-40), 3) := by decide +kernel
theorem dX7_fault_55 : decode cX7_fault 55 = .ok (.aload_n 0, 1) := by decide +kernel
theorem dX7_fault_56 : decode cX7_fault 56 = .ok (.getfield 122, 3) := by decide +kernel
theorem dX7_fault_59 : decode cX7_fault 59 = .ok (.aload_n 0, 1) := by decide +kernel
theorem dX7_fault_60 : decode cX7_fault 60 = .ok (.getfield 119, 3) := by decide +kernel
theorem dX7_fault_63 : decode cX7_fault 63 = .ok (.if_icmp .ne 8, 3) := by decide +kernel
theorem dX7_fault_66 : decode cX7_fault 66 = .ok (.bipush (-5), 2) := by decide +kernel
theorem dX7_fault_68 : decode cX7_fault 68 = .ok (.goto 7, 3) := by decide +kernel
theorem dX7_fault_71 : decode cX7_fault 71 = .ok (.aload_n 0, 1) := by decide +kernel
theorem dX7_fault_72 : decode cX7_fault 72 = .ok (.getfield 122, 3) := by decide +kernel
theorem dX7_fault_75 : decode cX7_fault 75 = .ok (.ireturn, 1) := by decide +kernel
set_option maxRecDepth 20000 in
theorem ggX7_wrong_X7_isKind : GoodIn wsX7_wrong wsX7_isKind := goodIn_r _ [7, 8, 9, 10, 6, 11, 24, 25, 26, 27, 28, 29, 30, 31, 32, 33, 34, 35, 36, 37] (by decide +kernel) (by decide +kernel)
set_option maxRecDepth 20000 in
theorem gX7_wrong_X7_isKind : GoodIn wsX7_wrong (wsV RX7 75 RX7 yX7_isKind wsX7_isKind) := goodIn_app (goodIn_of _ (by decide +kernel)) ggX7_wrong_X7_isKind
set_option maxRecDepth 20000 in
theorem ggX7_wrong_X7_clash : GoodIn wsX7_wrong wsX7_clash := goodIn_r _ [15, 8, 16, 17, 18, 6, 19, 24, 25, 26, 27, 28, 29, 30, 31, 32, 33, 34, 35, 36, 37] (by decide +kernel) (by decide +kernel)
set_option maxRecDepth 20000 in
theorem gX7_wrong_X7_clash : GoodIn wsX7_wrong (wsV RX7 60 RX7 yX7_clash wsX7_clash) := goodIn_app (goodIn_of _ (by decide +kernel)) ggX7_wrong_X7_clash
set_option maxRecDepth 20000 in
theorem ggX7_wrong_X7_freeNumber : GoodIn wsX7_wrong wsX7_freeNumber := goodIn_r _ [23, 8, 24, 25, 26, 27, 28, 29, 30, 31, 32, 33, 34, 35, 36, 37] (by decide +kernel) (by decide +kernel)
set_option maxRecDepth 20000 in
theorem gX7_wrong_X7_freeNumber : GoodIn wsX7_wrong (wsV RX7 100 RX7 yX7_freeNumber wsX7_freeNumber) := goodIn_app (goodIn_of _ (by decide +kernel)) ggX7_wrong_X7_freeNumber
theorem dX7_wrong_0 : decode cX7_wrong 0 = .ok (.iconst 0, 1) := by decide +kernel
theorem dX7_wrong_1 : decode cX7_wrong 1 = .ok (.istore_n 1, 1) := by decide +kernel
theorem dX7_wrong_2 : decode cX7_wrong 2 = .ok (.iconst 0, 1) := by decide +kernel
theorem dX7_wrong_3 : decode cX7_wrong 3 = .ok (.istore_n 2, 1) := by decide +kernel
theorem dX7_wrong_4 : decode cX7_wrong 4 = .ok (.iload_n 2, 1) := by decide +kernel
theorem dX7_wrong_5 : decode cX7_wrong 5 = .ok (.aload_n 0, 1) := by decide +kernel
theorem dX7_wrong_6 : decode cX7_wrong 6 = .ok (.getfield 129, 3) := by decide +kernel
theorem dX7_wrong_9 : decode cX7_wrong 9 = .ok (.if_icmp .ge 61, 3) := by decide +kernel
theorem dX7_wrong_12 : decode cX7_wrong 12 = .ok (.aload_n 0, 1) := by decide +kernel
theorem dX7_wrong_13 : decode cX7_wrong 13 = .ok (.aload_n 0, 1) := by decide +kernel
theorem dX7_wrong_14 : decode cX7_wrong 14 = .ok (.getfield 22, 3) := by decide +kernel
theorem dX7_wrong_17 : decode cX7_wrong 17 = .ok (.iload_n 2, 1) := by decide +kernel
theorem dX7_wrong_18 : decode cX7_wrong 18 = .ok (.iaload, 1) := by decide +kernel
theorem dX7_wrong_19 : decode cX7_wrong 19 = .ok (.iconst 2, 1) := by decide +kernel
theorem dX7_wrong_20 : decode cX7_wrong 20 = .ok (.idiv, 1) := by decide +kernel
theorem dX7_wrong_21 : decode cX7_wrong 21 = .ok (.invokevirtual 75, 3) := by decide +kernel
theorem dX7_wrong_24 : decode cX7_wrong 24 = .ok (.ifCond .ne 5, 3) := by decide +kernel
theorem dX7_wrong_27 : decode cX7_wrong 27 = .ok (.iconst (-1), 1) := by decide +kernel
theorem dX7_wrong_28 : decode cX7_wrong 28 = .ok (.ireturn, 1) := by decide +kernel
theorem dX7_wrong_29 : decode cX7_wrong 29 = .ok (.iload_n 1, 1) := by decide +kernel
theorem dX7_wrong_30 : decode cX7_wrong 30 = .ok (.ifCond .ne 28, 3) := by decide +kernel
theorem dX7_wrong_33 : decode cX7_wrong 33 = .ok (.iload_n 2, 1) := by decide +kernel
theorem dX7_wrong_34 : decode cX7_wrong 34 = .ok (.ifCond .le 28, 3) := by decide +kernel
theorem dX7_wrong_37 : decode cX7_wrong 37 = .ok (.aload_n 0, 1) := by decide +kernel
theorem dX7_wrong_38 : decode cX7_wrong 38 = .ok (.aload_n 0, 1) := by decide +kernel
theorem dX7_wrong_39 : decode cX7_wrong 39 = .ok (.getfield 22, 3) := by decide +kernel
theorem dX7_wrong_42 : decode cX7_wrong 42 = .ok (.iload_n 2, 1) := by decide +kernel
theorem dX7_wrong_43 : decode cX7_wrong 43 = .ok (.iconst 1, 1) := by decide +kernel
theorem dX7_wrong_44 : decode cX7_wrong 44 = .ok (.isub, 1) := by decide +kernel
theorem dX7_wrong_45 : decode cX7_wrong 45 = .ok (.iaload, 1) := by decide +kernel
theorem dX7_wrong_46 : decode cX7_wrong 46 = .ok (.aload_n 0, 1) := by decide +kernel
theorem dX7_wrong_47 : decode cX7_wrong 47 = .ok (.getfield 22, 3) := by decide +kernel
theorem dX7_wrong_50 : decode cX7_wrong 50 = .ok (.iload_n 2, 1) := by decide +kernel
theorem dX7_wrong_51 : decode cX7_wrong 51 = .ok (.iaload, 1) := by decide +kernel
theorem dX7_wrong_52 : decode cX7_wrong 52 = .ok (.invokevirtual 60, 3) := by decide +kernel
theorem dX7_wrong_55 : decode cX7_wrong 55 = .ok (.ifCond .eq 7, 3) := by decide +kernel
theorem dX7_wrong_58 : decode cX7_wrong 58 = .ok (.iconst 1, 1) := by decide +kernel
theorem dX7_wrong_59 : decode cX7_wrong 59 = .ok (.goto 4, 3) := by decide +kernel
theorem dX7_wrong_62 : decode cX7_wrong 62 = .ok (.iconst 0, 1) := by decide +kernel
theorem dX7_wrong_63 : decode cX7_wrong 63 = .ok (.istore_n 1, 1) := by decide +kernel
theorem dX7_wrong_64 : decode cX7_wrong 64 = .ok (.iinc 2 1, 3) := by decide +kernel
theorem dX7_wrong_67 : decode cX7_wrong 67 = .ok (.goto (-63), 3) := by decide +kernel
theorem dX7_wrong_70 : decode cX7_wrong 70 = .ok (.iload_n 1, 1) := by decide +kernel
theorem dX7_wrong_71 : decode cX7_wrong 71 = .ok (.ifCond .eq 8, 3) := by decide +kernel
theorem dX7_wrong_74 : decode cX7_wrong 74 = .ok (.bipush (-4), 2) := by decide +kernel
theorem dX7_wrong_76 : decode cX7_wrong 76 = .ok (.goto 18, 3) := by decide +kernel
theorem dX7_wrong_79 : decode cX7_wrong 79 = .ok (.aload_n 0, 1) := by decide +kernel
theorem dX7_wrong_80 : decode cX7_wrong 80 = .ok (.invokevirtual 100, 3) := by decide +kernel
theorem dX7_wrong_83 : decode cX7_wrong 83 = .ok (.bipush (-5), 2) := by decide +kernel
theorem dX7_wrong_85 : decode cX7_wrong 85 = .ok (.if_icmp .ne 8, 3) := by decide +kernel
theorem dX7_wrong_88 : decode cX7_wrong 88 = .ok (.bipush (-3), 2) := by decide +kernel
theorem dX7_wrong_90 : decode cX7_wrong 90 = .ok (.goto 4, 3) := by decide +kernel
theorem dX7_wrong_93 : decode cX7_wrong 93 = .ok (.iconst 0, 1) := by decide +kernel
theorem dX7_wrong_94 : decode cX7_wrong 94 = .ok (.ireturn, 1) := by decide +kernel
set_option maxRecDepth 20000 in
theorem ggX7_readGarland_X7_fault : GoodIn wsX7_readGarland wsX7_fault := goodIn_r _ [8, 9, 2, 10, 11, 12, 13, 7, 14, 15, 16, 17, 3, 18, 19, 20, 21, 22, 23, 24, 68, 69, 70, 71, 72, 73, 74, 75, 76, 77, 78, 79, 80, 81] (by decide +kernel) (by decide +kernel)
set_option maxRecDepth 20000 in
theorem gX7_readGarland_X7_fault : GoodIn wsX7_readGarland (wsV RX7 138 RX7 yX7_fault wsX7_fault) := goodIn_app (goodIn_of _ (by decide +kernel)) ggX7_readGarland_X7_fault
set_option maxRecDepth 20000 in
theorem ggX7_readGarland_X7_wrong : GoodIn wsX7_readGarland wsX7_wrong := goodIn_r _ [28, 2, 3, 29, 30, 31, 7, 32, 1, 18, 19, 20, 33, 34, 35, 36, 37, 38, 39, 40, 41, 42, 43, 44, 68, 69, 70, 71, 72, 73, 74, 75, 76, 77, 78, 79, 80, 81] (by decide +kernel) (by decide +kernel)
set_option maxRecDepth 20000 in
theorem gX7_readGarland_X7_wrong : GoodIn wsX7_readGarland (wsV RX7 141 RX7 yX7_wrong wsX7_wrong) := goodIn_app (goodIn_of _ (by decide +kernel)) ggX7_readGarland_X7_wrong
set_option maxRecDepth 20000 in
theorem ggX7_readGarland_X7_keeps : GoodIn wsX7_readGarland wsX7_keeps := goodIn_r _ [48, 49, 1, 68, 69, 70, 71, 72, 73, 74, 75, 76, 77, 78, 79, 80, 81] (by decide +kernel) (by decide +kernel)
set_option maxRecDepth 20000 in
theorem gX7_readGarland_X7_keeps : GoodIn wsX7_readGarland (wsV RX7 81 RX7 yX7_keeps wsX7_keeps) := goodIn_app (goodIn_of _ (by decide +kernel)) ggX7_readGarland_X7_keeps
set_option maxRecDepth 20000 in
theorem ggX7_readGarland_X7_freeNumber : GoodIn wsX7_readGarland wsX7_freeNumber := goodIn_r _ [44, 1, 68, 69, 70, 71, 72, 73, 74, 75, 76, 77, 78, 79, 80, 81] (by decide +kernel) (by decide +kernel)
set_option maxRecDepth 20000 in
theorem gX7_readGarland_X7_freeNumber : GoodIn wsX7_readGarland (wsV RX7 100 RX7 yX7_freeNumber wsX7_freeNumber) := goodIn_app (goodIn_of _ (by decide +kernel)) ggX7_readGarland_X7_freeNumber
set_option maxRecDepth 20000 in
theorem ggX7_readGarland_X7_lays : GoodIn wsX7_readGarland wsX7_lays := goodIn_r _ [53, 1, 68, 69, 70, 71, 72, 73, 74, 75, 76, 77, 78, 79, 80, 81] (by decide +kernel) (by decide +kernel)
set_option maxRecDepth 20000 in
theorem gX7_readGarland_X7_lays : GoodIn wsX7_readGarland (wsV RX7 71 RX7 yX7_lays wsX7_lays) := goodIn_app (goodIn_of _ (by decide +kernel)) ggX7_readGarland_X7_lays
set_option maxRecDepth 20000 in
theorem ggX7_readGarland_X7_ends : GoodIn wsX7_readGarland wsX7_ends := goodIn_r _ [57, 58, 59, 60, 7, 61, 1, 49, 62, 63, 64, 65, 66, 67, 68, 69, 70, 71, 72, 73, 74, 75, 76, 77, 78, 79, 80, 81] (by decide +kernel) (by decide +kernel)
set_option maxRecDepth 20000 in
theorem gX7_readGarland_X7_ends : GoodIn wsX7_readGarland (wsV RX7 88 RX7 yX7_ends wsX7_ends) := goodIn_app (goodIn_of _ (by decide +kernel)) ggX7_readGarland_X7_ends
theorem dX7_readGarland_0 : decode cX7_readGarland 0 = .ok (.aload_n 0, 1) := by decide +kernel
theorem dX7_readGarland_1 : decode cX7_readGarland 1 = .ok (.invokevirtual 138, 3) := by decide +kernel
theorem dX7_readGarland_4 : decode cX7_readGarland 4 = .ok (.istore_n 1, 1) := by decide +kernel
theorem dX7_readGarland_5 : decode cX7_readGarland 5 = .ok (.iload_n 1, 1) := by decide +kernel
theorem dX7_readGarland_6 : decode cX7_readGarland 6 = .ok (.bipush (-5), 2) := by decide +kernel
theorem dX7_readGarland_8 : decode cX7_readGarland 8 = .ok (.if_icmp .eq 8, 3) := by decide +kernel
theorem dX7_readGarland_11 : decode cX7_readGarland 11 = .ok (.bipush (-100), 2) := by decide +kernel
theorem dX7_readGarland_13 : decode cX7_readGarland 13 = .ok (.iload_n 1, 1) := by decide +kernel
theorem dX7_readGarland_14 : decode cX7_readGarland 14 = .ok (.isub, 1) := by decide +kernel
theorem dX7_readGarland_15 : decode cX7_readGarland 15 = .ok (.ireturn, 1) := by decide +kernel
theorem dX7_readGarland_16 : decode cX7_readGarland 16 = .ok (.aload_n 0, 1) := by decide +kernel
theorem dX7_readGarland_17 : decode cX7_readGarland 17 = .ok (.invokevirtual 141, 3) := by decide +kernel
theorem dX7_readGarland_20 : decode cX7_readGarland 20 = .ok (.istore_n 2, 1) := by decide +kernel
theorem dX7_readGarland_21 : decode cX7_readGarland 21 = .ok (.iload_n 2, 1) := by decide +kernel
theorem dX7_readGarland_22 : decode cX7_readGarland 22 = .ok (.ifCond .ge 5, 3) := by decide +kernel
theorem dX7_readGarland_25 : decode cX7_readGarland 25 = .ok (.iload_n 2, 1) := by decide +kernel
theorem dX7_readGarland_26 : decode cX7_readGarland 26 = .ok (.ireturn, 1) := by decide +kernel
theorem dX7_readGarland_27 : decode cX7_readGarland 27 = .ok (.aload_n 0, 1) := by decide +kernel
theorem dX7_readGarland_28 : decode cX7_readGarland 28 = .ok (.invokevirtual 81, 3) := by decide +kernel
theorem dX7_readGarland_31 : decode cX7_readGarland 31 = .ok (.aload_n 0, 1) := by decide +kernel
theorem dX7_readGarland_32 : decode cX7_readGarland 32 = .ok (.invokevirtual 100, 3) := by decide +kernel
theorem dX7_readGarland_35 : decode cX7_readGarland 35 = .ok (.istore_n 3, 1) := by decide +kernel
theorem dX7_readGarland_36 : decode cX7_readGarland 36 = .ok (.aload_n 0, 1) := by decide +kernel
theorem dX7_readGarland_37 : decode cX7_readGarland 37 = .ok (.getfield 7, 3) := by decide +kernel
theorem dX7_readGarland_40 : decode cX7_readGarland 40 = .ok (.bipush 22, 2) := by decide +kernel
theorem dX7_readGarland_42 : decode cX7_readGarland 42 = .ok (.iload_n 3, 1) := by decide +kernel
theorem dX7_readGarland_43 : decode cX7_readGarland 43 = .ok (.iadd, 1) := by decide +kernel
theorem dX7_readGarland_44 : decode cX7_readGarland 44 = .ok (.aload_n 0, 1) := by decide +kernel
theorem dX7_readGarland_45 : decode cX7_readGarland 45 = .ok (.getfield 129, 3) := by decide +kernel
theorem dX7_readGarland_48 : decode cX7_readGarland 48 = .ok (.iastore, 1) := by decide +kernel
theorem dX7_readGarland_49 : decode cX7_readGarland 49 = .ok (.iconst 0, 1) := by decide +kernel
theorem dX7_readGarland_50 : decode cX7_readGarland 50 = .ok (.istore 4, 2) := by decide +kernel
theorem dX7_readGarland_52 : decode cX7_readGarland 52 = .ok (.iload 4, 2) := by decide +kernel
theorem dX7_readGarland_54 : decode cX7_readGarland 54 = .ok (.aload_n 0, 1) := by decide +kernel
theorem dX7_readGarland_55 : decode cX7_readGarland 55 = .ok (.getfield 129, 3) := by decide +kernel
theorem dX7_readGarland_58 : decode cX7_readGarland 58 = .ok (.if_icmp .ge 23, 3) := by decide +kernel
theorem dX7_readGarland_61 : decode cX7_readGarland 61 = .ok (.aload_n 0, 1) := by decide +kernel
theorem dX7_readGarland_62 : decode cX7_readGarland 62 = .ok (.iload_n 3, 1) := by decide +kernel
theorem dX7_readGarland_63 : decode cX7_readGarland 63 = .ok (.iload 4, 2) := by decide +kernel
theorem dX7_readGarland_65 : decode cX7_readGarland 65 = .ok (.aload_n 0, 1) := by decide +kernel
theorem dX7_readGarland_66 : decode cX7_readGarland 66 = .ok (.getfield 22, 3) := by decide +kernel
theorem dX7_readGarland_69 : decode cX7_readGarland 69 = .ok (.iload 4, 2) := by decide +kernel
theorem dX7_readGarland_71 : decode cX7_readGarland 71 = .ok (.iaload, 1) := by decide +kernel
theorem dX7_readGarland_72 : decode cX7_readGarland 72 = .ok (.invokevirtual 71, 3) := by decide +kernel
theorem dX7_readGarland_75 : decode cX7_readGarland 75 = .ok (.iinc 4 1, 3) := by decide +kernel
theorem dX7_readGarland_78 : decode cX7_readGarland 78 = .ok (.goto (-26), 3) := by decide +kernel
theorem dX7_readGarland_81 : decode cX7_readGarland 81 = .ok (.aload_n 0, 1) := by decide +kernel
theorem dX7_readGarland_82 : decode cX7_readGarland 82 = .ok (.iload_n 3, 1) := by decide +kernel
theorem dX7_readGarland_83 : decode cX7_readGarland 83 = .ok (.invokevirtual 88, 3) := by decide +kernel
theorem dX7_readGarland_86 : decode cX7_readGarland 86 = .ok (.ireturn, 1) := by decide +kernel
theorem dX7_undo_0 : decode cX7_undo 0 = .ok (.aload_n 0, 1) := by decide +kernel
theorem dX7_undo_1 : decode cX7_undo 1 = .ok (.getfield 37, 3) := by decide +kernel
theorem dX7_undo_4 : decode cX7_undo 4 = .ok (.ifCond .ne 6, 3) := by decide +kernel
theorem dX7_undo_7 : decode cX7_undo 7 = .ok (.bipush (-5), 2) := by decide +kernel
theorem dX7_undo_9 : decode cX7_undo 9 = .ok (.ireturn, 1) := by decide +kernel
theorem dX7_undo_10 : decode cX7_undo 10 = .ok (.aload_n 0, 1) := by decide +kernel
theorem dX7_undo_11 : decode cX7_undo 11 = .ok (.dup, 1) := by decide +kernel
theorem dX7_undo_12 : decode cX7_undo 12 = .ok (.getfield 37, 3) := by decide +kernel
theorem dX7_undo_15 : decode cX7_undo 15 = .ok (.iconst 1, 1) := by decide +kernel
theorem dX7_undo_16 : decode cX7_undo 16 = .ok (.isub, 1) := by decide +kernel
theorem dX7_undo_17 : decode cX7_undo 17 = .ok (.putfield 37, 3) := by decide +kernel
theorem dX7_undo_20 : decode cX7_undo 20 = .ok (.iconst 0, 1) := by decide +kernel
theorem dX7_undo_21 : decode cX7_undo 21 = .ok (.istore_n 1, 1) := by decide +kernel
theorem dX7_undo_22 : decode cX7_undo 22 = .ok (.iload_n 1, 1) := by decide +kernel
theorem dX7_undo_23 : decode cX7_undo 23 = .ok (.sipush 286, 3) := by decide +kernel
theorem dX7_undo_26 : decode cX7_undo 26 = .ok (.if_icmp .ge 30, 3) := by decide +kernel
theorem dX7_undo_29 : decode cX7_undo 29 = .ok (.aload_n 0, 1) := by decide +kernel
theorem dX7_undo_30 : decode cX7_undo 30 = .ok (.getfield 7, 3) := by decide +kernel
theorem dX7_undo_33 : decode cX7_undo 33 = .ok (.iload_n 1, 1) := by decide +kernel
theorem dX7_undo_34 : decode cX7_undo 34 = .ok (.aload_n 0, 1) := by decide +kernel
theorem dX7_undo_35 : decode cX7_undo 35 = .ok (.getfield 16, 3) := by decide +kernel
theorem dX7_undo_38 : decode cX7_undo 38 = .ok (.sipush 286, 3) := by decide +kernel
theorem dX7_undo_41 : decode cX7_undo 41 = .ok (.aload_n 0, 1) := by decide +kernel
theorem dX7_undo_42 : decode cX7_undo 42 = .ok (.getfield 37, 3) := by decide +kernel
theorem dX7_undo_45 : decode cX7_undo 45 = .ok (.imul, 1) := by decide +kernel
theorem dX7_undo_46 : decode cX7_undo 46 = .ok (.iload_n 1, 1) := by decide +kernel
theorem dX7_undo_47 : decode cX7_undo 47 = .ok (.iadd, 1) := by decide +kernel
theorem dX7_undo_48 : decode cX7_undo 48 = .ok (.iaload, 1) := by decide +kernel
theorem dX7_undo_49 : decode cX7_undo 49 = .ok (.iastore, 1) := by decide +kernel
theorem dX7_undo_50 : decode cX7_undo 50 = .ok (.iinc 1 1, 3) := by decide +kernel
theorem dX7_undo_53 : decode cX7_undo 53 = .ok (.goto (-31), 3) := by decide +kernel
theorem dX7_undo_56 : decode cX7_undo 56 = .ok (.aload_n 0, 1) := by decide +kernel
theorem dX7_undo_57 : decode cX7_undo 57 = .ok (.getfield 37, 3) := by decide +kernel
theorem dX7_undo_60 : decode cX7_undo 60 = .ok (.ireturn, 1) := by decide +kernel
theorem dX7_garlands_0 : decode cX7_garlands 0 = .ok (.iconst 0, 1) := by decide +kernel
theorem dX7_garlands_1 : decode cX7_garlands 1 = .ok (.istore_n 1, 1) := by decide +kernel
theorem dX7_garlands_2 : decode cX7_garlands 2 = .ok (.iconst 0, 1) := by decide +kernel
theorem dX7_garlands_3 : decode cX7_garlands 3 = .ok (.istore_n 2, 1) := by decide +kernel
theorem dX7_garlands_4 : decode cX7_garlands 4 = .ok (.iload_n 2, 1) := by decide +kernel
theorem dX7_garlands_5 : decode cX7_garlands 5 = .ok (.bipush 8, 2) := by decide +kernel
theorem dX7_garlands_7 : decode cX7_garlands 7 = .ok (.if_icmp .ge 29, 3) := by decide +kernel
theorem dX7_garlands_10 : decode cX7_garlands 10 = .ok (.iload_n 1, 1) := by decide +kernel
theorem dX7_garlands_11 : decode cX7_garlands 11 = .ok (.aload_n 0, 1) := by decide +kernel
theorem dX7_garlands_12 : decode cX7_garlands 12 = .ok (.getfield 7, 3) := by decide +kernel
theorem dX7_garlands_15 : decode cX7_garlands 15 = .ok (.bipush 22, 2) := by decide +kernel
theorem dX7_garlands_17 : decode cX7_garlands 17 = .ok (.iload_n 2, 1) := by decide +kernel
theorem dX7_garlands_18 : decode cX7_garlands 18 = .ok (.iadd, 1) := by decide +kernel
theorem dX7_garlands_19 : decode cX7_garlands 19 = .ok (.iaload, 1) := by decide +kernel
theorem dX7_garlands_20 : decode cX7_garlands 20 = .ok (.ifCond .le 7, 3) := by decide +kernel
theorem dX7_garlands_23 : decode cX7_garlands 23 = .ok (.iconst 1, 1) := by decide +kernel
theorem dX7_garlands_24 : decode cX7_garlands 24 = .ok (.goto 4, 3) := by decide +kernel
theorem dX7_garlands_27 : decode cX7_garlands 27 = .ok (.iconst 0, 1) := by decide +kernel
theorem dX7_garlands_28 : decode cX7_garlands 28 = .ok (.iadd, 1) := by decide +kernel
theorem dX7_garlands_29 : decode cX7_garlands 29 = .ok (.istore_n 1, 1) := by decide +kernel
theorem dX7_garlands_30 : decode cX7_garlands 30 = .ok (.iinc 2 1, 3) := by decide +kernel
theorem dX7_garlands_33 : decode cX7_garlands 33 = .ok (.goto (-29), 3) := by decide +kernel
theorem dX7_garlands_36 : decode cX7_garlands 36 = .ok (.iload_n 1, 1) := by decide +kernel
theorem dX7_garlands_37 : decode cX7_garlands 37 = .ok (.ireturn, 1) := by decide +kernel
set_option maxRecDepth 20000 in
theorem ggX7_keep_X7_garlands : GoodIn wsX7_keep wsX7_garlands := goodIn_r _ [8, 2, 9, 10, 11, 12, 13, 14, 15, 16, 17, 18, 19, 20, 21, 22] (by decide +kernel) (by decide +kernel)
set_option maxRecDepth 20000 in
theorem gX7_keep_X7_garlands : GoodIn wsX7_keep (wsV RX7 147 RX7 yX7_garlands wsX7_garlands) := goodIn_app (goodIn_of _ (by decide +kernel)) ggX7_keep_X7_garlands
theorem dX7_keep_0 : decode cX7_keep 0 = .ok (.iconst 0, 1) := by decide +kernel
theorem dX7_keep_1 : decode cX7_keep 1 = .ok (.istore_n 1, 1) := by decide +kernel
theorem dX7_keep_2 : decode cX7_keep 2 = .ok (.iload_n 1, 1) := by decide +kernel
theorem dX7_keep_3 : decode cX7_keep 3 = .ok (.sipush 286, 3) := by decide +kernel
theorem dX7_keep_6 : decode cX7_keep 6 = .ok (.if_icmp .ge 21, 3) := by decide +kernel
theorem dX7_keep_9 : decode cX7_keep 9 = .ok (.aload_n 0, 1) := by decide +kernel
theorem dX7_keep_10 : decode cX7_keep 10 = .ok (.getfield 19, 3) := by decide +kernel
theorem dX7_keep_13 : decode cX7_keep 13 = .ok (.iload_n 1, 1) := by decide +kernel
theorem dX7_keep_14 : decode cX7_keep 14 = .ok (.aload_n 0, 1) := by decide +kernel
theorem dX7_keep_15 : decode cX7_keep 15 = .ok (.getfield 7, 3) := by decide +kernel
theorem dX7_keep_18 : decode cX7_keep 18 = .ok (.iload_n 1, 1) := by decide +kernel
theorem dX7_keep_19 : decode cX7_keep 19 = .ok (.iaload, 1) := by decide +kernel
theorem dX7_keep_20 : decode cX7_keep 20 = .ok (.iastore, 1) := by decide +kernel
theorem dX7_keep_21 : decode cX7_keep 21 = .ok (.iinc 1 1, 3) := by decide +kernel
theorem dX7_keep_24 : decode cX7_keep 24 = .ok (.goto (-22), 3) := by decide +kernel
theorem dX7_keep_27 : decode cX7_keep 27 = .ok (.aload_n 0, 1) := by decide +kernel
theorem dX7_keep_28 : decode cX7_keep 28 = .ok (.iconst 1, 1) := by decide +kernel
theorem dX7_keep_29 : decode cX7_keep 29 = .ok (.putfield 144, 3) := by decide +kernel
theorem dX7_keep_32 : decode cX7_keep 32 = .ok (.aload_n 0, 1) := by decide +kernel
theorem dX7_keep_33 : decode cX7_keep 33 = .ok (.invokevirtual 147, 3) := by decide +kernel
theorem dX7_keep_36 : decode cX7_keep 36 = .ok (.ireturn, 1) := by decide +kernel
set_option maxRecDepth 20000 in
theorem ggX7_restore_X7_keeps : GoodIn wsX7_restore wsX7_keeps := goodIn_r _ [8, 9, 2, 28, 29, 30, 31, 32, 33, 34, 35, 36, 37, 38, 39, 40, 41] (by decide +kernel) (by decide +kernel)
set_option maxRecDepth 20000 in
theorem gX7_restore_X7_keeps : GoodIn wsX7_restore (wsV RX7 81 RX7 yX7_keeps wsX7_keeps) := goodIn_app (goodIn_of _ (by decide +kernel)) ggX7_restore_X7_keeps
set_option maxRecDepth 20000 in
theorem ggX7_restore_X7_garlands : GoodIn wsX7_restore wsX7_garlands := goodIn_r _ [13, 2, 28, 29, 30, 31, 32, 33, 34, 35, 36, 37, 38, 39, 40, 41] (by decide +kernel) (by decide +kernel)
set_option maxRecDepth 20000 in
theorem gX7_restore_X7_garlands : GoodIn wsX7_restore (wsV RX7 147 RX7 yX7_garlands wsX7_garlands) := goodIn_app (goodIn_of _ (by decide +kernel)) ggX7_restore_X7_garlands
set_option maxRecDepth 20000 in
theorem ggX7_restore_X7_ends : GoodIn wsX7_restore wsX7_ends := goodIn_r _ [17, 18, 19, 20, 7, 21, 2, 9, 22, 23, 24, 25, 26, 27, 28, 29, 30, 31, 32, 33, 34, 35, 36, 37, 38, 39, 40, 41] (by decide +kernel) (by decide +kernel)
set_option maxRecDepth 20000 in
theorem gX7_restore_X7_ends : GoodIn wsX7_restore (wsV RX7 88 RX7 yX7_ends wsX7_ends) := goodIn_app (goodIn_of _ (by decide +kernel)) ggX7_restore_X7_ends
theorem dX7_restore_0 : decode cX7_restore 0 = .ok (.aload_n 0, 1) := by decide +kernel
theorem dX7_restore_1 : decode cX7_restore 1 = .ok (.getfield 144, 3) := by decide +kernel
theorem dX7_restore_4 : decode cX7_restore 4 = .ok (.ifCond .ne 6, 3) := by decide +kernel
theorem dX7_restore_7 : decode cX7_restore 7 = .ok (.bipush (-5), 2) := by decide +kernel
theorem dX7_restore_9 : decode cX7_restore 9 = .ok (.ireturn, 1) := by decide +kernel
theorem dX7_restore_10 : decode cX7_restore 10 = .ok (.aload_n 0, 1) := by decide +kernel
theorem dX7_restore_11 : decode cX7_restore 11 = .ok (.invokevirtual 81, 3) := by decide +kernel
theorem dX7_restore_14 : decode cX7_restore 14 = .ok (.iconst 0, 1) := by decide +kernel
theorem dX7_restore_15 : decode cX7_restore 15 = .ok (.istore_n 1, 1) := by decide +kernel
theorem dX7_restore_16 : decode cX7_restore 16 = .ok (.iload_n 1, 1) := by decide +kernel
theorem dX7_restore_17 : decode cX7_restore 17 = .ok (.sipush 286, 3) := by decide +kernel
theorem dX7_restore_20 : decode cX7_restore 20 = .ok (.if_icmp .ge 21, 3) := by decide +kernel
theorem dX7_restore_23 : decode cX7_restore 23 = .ok (.aload_n 0, 1) := by decide +kernel
theorem dX7_restore_24 : decode cX7_restore 24 = .ok (.getfield 7, 3) := by decide +kernel
theorem dX7_restore_27 : decode cX7_restore 27 = .ok (.iload_n 1, 1) := by decide +kernel
theorem dX7_restore_28 : decode cX7_restore 28 = .ok (.aload_n 0, 1) := by decide +kernel
theorem dX7_restore_29 : decode cX7_restore 29 = .ok (.getfield 19, 3) := by decide +kernel
theorem dX7_restore_32 : decode cX7_restore 32 = .ok (.iload_n 1, 1) := by decide +kernel
theorem dX7_restore_33 : decode cX7_restore 33 = .ok (.iaload, 1) := by decide +kernel
theorem dX7_restore_34 : decode cX7_restore 34 = .ok (.iastore, 1) := by decide +kernel
theorem dX7_restore_35 : decode cX7_restore 35 = .ok (.iinc 1 1, 3) := by decide +kernel
theorem dX7_restore_38 : decode cX7_restore 38 = .ok (.goto (-22), 3) := by decide +kernel
theorem dX7_restore_41 : decode cX7_restore 41 = .ok (.aload_n 0, 1) := by decide +kernel
theorem dX7_restore_42 : decode cX7_restore 42 = .ok (.aload_n 0, 1) := by decide +kernel
theorem dX7_restore_43 : decode cX7_restore 43 = .ok (.invokevirtual 147, 3) := by decide +kernel
theorem dX7_restore_46 : decode cX7_restore 46 = .ok (.invokevirtual 88, 3) := by decide +kernel
theorem dX7_restore_49 : decode cX7_restore 49 = .ok (.ireturn, 1) := by decide +kernel
set_option maxRecDepth 20000 in
theorem ggX7_dollsOf_X7_dollAt : GoodIn wsX7_dollsOf wsX7_dollAt := goodIn_r _ [6, 1, 7, 8, 9, 10, 11, 12, 13, 14, 15, 16, 17, 18, 19, 20] (by decide +kernel) (by decide +kernel)
set_option maxRecDepth 20000 in
theorem gX7_dollsOf_X7_dollAt : GoodIn wsX7_dollsOf (wsV RX7 57 RX7 yX7_dollAt wsX7_dollAt) := goodIn_app (goodIn_of _ (by decide +kernel)) ggX7_dollsOf_X7_dollAt
theorem dX7_dollsOf_0 : decode cX7_dollsOf 0 = .ok (.iconst 0, 1) := by decide +kernel
theorem dX7_dollsOf_1 : decode cX7_dollsOf 1 = .ok (.istore_n 3, 1) := by decide +kernel
theorem dX7_dollsOf_2 : decode cX7_dollsOf 2 = .ok (.iconst 0, 1) := by decide +kernel
theorem dX7_dollsOf_3 : decode cX7_dollsOf 3 = .ok (.istore 4, 2) := by decide +kernel
theorem dX7_dollsOf_5 : decode cX7_dollsOf 5 = .ok (.iload 4, 2) := by decide +kernel
theorem dX7_dollsOf_7 : decode cX7_dollsOf 7 = .ok (.bipush 8, 2) := by decide +kernel
theorem dX7_dollsOf_9 : decode cX7_dollsOf 9 = .ok (.if_icmp .ge 73, 3) := by decide +kernel
theorem dX7_dollsOf_12 : decode cX7_dollsOf 12 = .ok (.iconst 0, 1) := by decide +kernel
theorem dX7_dollsOf_13 : decode cX7_dollsOf 13 = .ok (.istore 5, 2) := by decide +kernel
theorem dX7_dollsOf_15 : decode cX7_dollsOf 15 = .ok (.iload 5, 2) := by decide +kernel
theorem dX7_dollsOf_17 : decode cX7_dollsOf 17 = .ok (.aload_n 0, 1) := by decide +kernel
theorem dX7_dollsOf_18 : decode cX7_dollsOf 18 = .ok (.getfield 7, 3) := by decide +kernel
theorem dX7_dollsOf_21 : decode cX7_dollsOf 21 = .ok (.bipush 22, 2) := by decide +kernel
theorem dX7_dollsOf_23 : decode cX7_dollsOf 23 = .ok (.iload 4, 2) := by decide +kernel
theorem dX7_dollsOf_25 : decode cX7_dollsOf 25 = .ok (.iadd, 1) := by decide +kernel
theorem dX7_dollsOf_26 : decode cX7_dollsOf 26 = .ok (.iaload, 1) := by decide +kernel
theorem dX7_dollsOf_27 : decode cX7_dollsOf 27 = .ok (.if_icmp .ge 49, 3) := by decide +kernel
theorem dX7_dollsOf_30 : decode cX7_dollsOf 30 = .ok (.iload_n 3, 1) := by decide +kernel
theorem dX7_dollsOf_31 : decode cX7_dollsOf 31 = .ok (.aload_n 0, 1) := by decide +kernel
theorem dX7_dollsOf_32 : decode cX7_dollsOf 32 = .ok (.iload 4, 2) := by decide +kernel
theorem dX7_dollsOf_34 : decode cX7_dollsOf 34 = .ok (.iload 5, 2) := by decide +kernel
theorem dX7_dollsOf_36 : decode cX7_dollsOf 36 = .ok (.invokevirtual 57, 3) := by decide +kernel
theorem dX7_dollsOf_39 : decode cX7_dollsOf 39 = .ok (.iconst 2, 1) := by decide +kernel
theorem dX7_dollsOf_40 : decode cX7_dollsOf 40 = .ok (.idiv, 1) := by decide +kernel
theorem dX7_dollsOf_41 : decode cX7_dollsOf 41 = .ok (.iload_n 1, 1) := by decide +kernel
theorem dX7_dollsOf_42 : decode cX7_dollsOf 42 = .ok (.if_icmp .ne 25, 3) := by decide +kernel
theorem dX7_dollsOf_45 : decode cX7_dollsOf 45 = .ok (.iload_n 2, 1) := by decide +kernel
theorem dX7_dollsOf_46 : decode cX7_dollsOf 46 = .ok (.ifCond .eq 17, 3) := by decide +kernel
theorem dX7_dollsOf_49 : decode cX7_dollsOf 49 = .ok (.aload_n 0, 1) := by decide +kernel
theorem dX7_dollsOf_50 : decode cX7_dollsOf 50 = .ok (.iload 4, 2) := by decide +kernel
theorem dX7_dollsOf_52 : decode cX7_dollsOf 52 = .ok (.iload 5, 2) := by decide +kernel
theorem dX7_dollsOf_54 : decode cX7_dollsOf 54 = .ok (.invokevirtual 57, 3) := by decide +kernel
theorem dX7_dollsOf_57 : decode cX7_dollsOf 57 = .ok (.iconst 2, 1) := by decide +kernel
theorem dX7_dollsOf_58 : decode cX7_dollsOf 58 = .ok (.irem, 1) := by decide +kernel
theorem dX7_dollsOf_59 : decode cX7_dollsOf 59 = .ok (.iconst 1, 1) := by decide +kernel
theorem dX7_dollsOf_60 : decode cX7_dollsOf 60 = .ok (.if_icmp .ne 7, 3) := by decide +kernel
theorem dX7_dollsOf_63 : decode cX7_dollsOf 63 = .ok (.iconst 1, 1) := by decide +kernel
theorem dX7_dollsOf_64 : decode cX7_dollsOf 64 = .ok (.goto 4, 3) := by decide +kernel
theorem dX7_dollsOf_67 : decode cX7_dollsOf 67 = .ok (.iconst 0, 1) := by decide +kernel
theorem dX7_dollsOf_68 : decode cX7_dollsOf 68 = .ok (.iadd, 1) := by decide +kernel
theorem dX7_dollsOf_69 : decode cX7_dollsOf 69 = .ok (.istore_n 3, 1) := by decide +kernel
theorem dX7_dollsOf_70 : decode cX7_dollsOf 70 = .ok (.iinc 5 1, 3) := by decide +kernel
theorem dX7_dollsOf_73 : decode cX7_dollsOf 73 = .ok (.goto (-58), 3) := by decide +kernel
theorem dX7_dollsOf_76 : decode cX7_dollsOf 76 = .ok (.iinc 4 1, 3) := by decide +kernel
theorem dX7_dollsOf_79 : decode cX7_dollsOf 79 = .ok (.goto (-74), 3) := by decide +kernel
theorem dX7_dollsOf_82 : decode cX7_dollsOf 82 = .ok (.iload_n 3, 1) := by decide +kernel
theorem dX7_dollsOf_83 : decode cX7_dollsOf 83 = .ok (.ireturn, 1) := by decide +kernel
set_option maxRecDepth 20000 in
theorem ggX7_kind_X7_isKind : GoodIn wsX7_kind wsX7_isKind := goodIn_r _ [6, 1, 7, 8, 5, 9, 18, 19, 20, 21, 22, 23, 24, 25, 26, 27, 28, 29, 30, 31] (by decide +kernel) (by decide +kernel)
set_option maxRecDepth 20000 in
theorem gX7_kind_X7_isKind : GoodIn wsX7_kind (wsV RX7 75 RX7 yX7_isKind wsX7_isKind) := goodIn_app (goodIn_of _ (by decide +kernel)) ggX7_kind_X7_isKind
set_option maxRecDepth 20000 in
theorem ggX7_kind_X7_dollsOf : GoodIn wsX7_kind wsX7_dollsOf := goodIn_r _ [13, 1, 14, 15, 16, 5, 17, 18, 19, 20, 21, 22, 23, 24, 25, 26, 27, 28, 29, 30, 31] (by decide +kernel) (by decide +kernel)
set_option maxRecDepth 20000 in
theorem gX7_kind_X7_dollsOf : GoodIn wsX7_kind (wsV RX7 150 RX7 yX7_dollsOf wsX7_dollsOf) := goodIn_app (goodIn_of _ (by decide +kernel)) ggX7_kind_X7_dollsOf
theorem dX7_kind_0 : decode cX7_kind 0 = .ok (.aload_n 0, 1) := by decide +kernel
theorem dX7_kind_1 : decode cX7_kind 1 = .ok (.iload_n 1, 1) := by decide +kernel
theorem dX7_kind_2 : decode cX7_kind 2 = .ok (.invokevirtual 75, 3) := by decide +kernel
theorem dX7_kind_5 : decode cX7_kind 5 = .ok (.ifCond .ne 5, 3) := by decide +kernel
theorem dX7_kind_8 : decode cX7_kind 8 = .ok (.iconst (-1), 1) := by decide +kernel
theorem dX7_kind_9 : decode cX7_kind 9 = .ok (.ireturn, 1) := by decide +kernel
theorem dX7_kind_10 : decode cX7_kind 10 = .ok (.iconst 2, 1) := by decide +kernel
theorem dX7_kind_11 : decode cX7_kind 11 = .ok (.iconst 2, 1) := by decide +kernel
theorem dX7_kind_12 : decode cX7_kind 12 = .ok (.iload_n 1, 1) := by decide +kernel
theorem dX7_kind_13 : decode cX7_kind 13 = .ok (.imul, 1) := by decide +kernel
theorem dX7_kind_14 : decode cX7_kind 14 = .ok (.iadd, 1) := by decide +kernel
theorem dX7_kind_15 : decode cX7_kind 15 = .ok (.istore_n 3, 1) := by decide +kernel
theorem dX7_kind_16 : decode cX7_kind 16 = .ok (.iload_n 2, 1) := by decide +kernel
theorem dX7_kind_17 : decode cX7_kind 17 = .ok (.tableswitch 83 0 4 #[35, 35, 44, 44, 60], 35) := by decide +kernel
theorem dX7_kind_52 : decode cX7_kind 52 = .ok (.aload_n 0, 1) := by decide +kernel
theorem dX7_kind_53 : decode cX7_kind 53 = .ok (.getfield 7, 3) := by decide +kernel
theorem dX7_kind_56 : decode cX7_kind 56 = .ok (.iload_n 3, 1) := by decide +kernel
theorem dX7_kind_57 : decode cX7_kind 57 = .ok (.iload_n 2, 1) := by decide +kernel
theorem dX7_kind_58 : decode cX7_kind 58 = .ok (.iadd, 1) := by decide +kernel
theorem dX7_kind_59 : decode cX7_kind 59 = .ok (.iaload, 1) := by decide +kernel
theorem dX7_kind_60 : decode cX7_kind 60 = .ok (.ireturn, 1) := by decide +kernel
theorem dX7_kind_61 : decode cX7_kind 61 = .ok (.aload_n 0, 1) := by decide +kernel
theorem dX7_kind_62 : decode cX7_kind 62 = .ok (.iload_n 1, 1) := by decide +kernel
theorem dX7_kind_63 : decode cX7_kind 63 = .ok (.iload_n 2, 1) := by decide +kernel
theorem dX7_kind_64 : decode cX7_kind 64 = .ok (.iconst 3, 1) := by decide +kernel
theorem dX7_kind_65 : decode cX7_kind 65 = .ok (.if_icmp .ne 7, 3) := by decide +kernel
theorem dX7_kind_68 : decode cX7_kind 68 = .ok (.iconst 1, 1) := by decide +kernel
theorem dX7_kind_69 : decode cX7_kind 69 = .ok (.goto 4, 3) := by decide +kernel
theorem dX7_kind_72 : decode cX7_kind 72 = .ok (.iconst 0, 1) := by decide +kernel
theorem dX7_kind_73 : decode cX7_kind 73 = .ok (.invokevirtual 150, 3) := by decide +kernel
theorem dX7_kind_76 : decode cX7_kind 76 = .ok (.ireturn, 1) := by decide +kernel
theorem dX7_kind_77 : decode cX7_kind 77 = .ok (.aload_n 0, 1) := by decide +kernel
theorem dX7_kind_78 : decode cX7_kind 78 = .ok (.getfield 7, 3) := by decide +kernel
theorem dX7_kind_81 : decode cX7_kind 81 = .ok (.iload_n 3, 1) := by decide +kernel
theorem dX7_kind_82 : decode cX7_kind 82 = .ok (.iaload, 1) := by decide +kernel
theorem dX7_kind_83 : decode cX7_kind 83 = .ok (.aload_n 0, 1) := by decide +kernel
theorem dX7_kind_84 : decode cX7_kind 84 = .ok (.getfield 7, 3) := by decide +kernel
theorem dX7_kind_87 : decode cX7_kind 87 = .ok (.iload_n 3, 1) := by decide +kernel
theorem dX7_kind_88 : decode cX7_kind 88 = .ok (.iconst 1, 1) := by decide +kernel
theorem dX7_kind_89 : decode cX7_kind 89 = .ok (.iadd, 1) := by decide +kernel
theorem dX7_kind_90 : decode cX7_kind 90 = .ok (.iaload, 1) := by decide +kernel
theorem dX7_kind_91 : decode cX7_kind 91 = .ok (.if_icmp .ne 7, 3) := by decide +kernel
theorem dX7_kind_94 : decode cX7_kind 94 = .ok (.iconst 1, 1) := by decide +kernel
theorem dX7_kind_95 : decode cX7_kind 95 = .ok (.goto 4, 3) := by decide +kernel
theorem dX7_kind_98 : decode cX7_kind 98 = .ok (.iconst 0, 1) := by decide +kernel
theorem dX7_kind_99 : decode cX7_kind 99 = .ok (.ireturn, 1) := by decide +kernel
theorem dX7_kind_100 : decode cX7_kind 100 = .ok (.bipush (-2), 2) := by decide +kernel
theorem dX7_kind_102 : decode cX7_kind 102 = .ok (.ireturn, 1) := by decide +kernel
set_option maxRecDepth 20000 in
theorem ggX7_kindsIn_X7_dollAt : GoodIn wsX7_kindsIn wsX7_dollAt := goodIn_r _ [6, 1, 7, 8, 9, 10, 11, 12, 13, 14, 15, 16, 17, 18, 19, 20] (by decide +kernel) (by decide +kernel)
set_option maxRecDepth 20000 in
theorem gX7_kindsIn_X7_dollAt : GoodIn wsX7_kindsIn (wsV RX7 57 RX7 yX7_dollAt wsX7_dollAt) := goodIn_app (goodIn_of _ (by decide +kernel)) ggX7_kindsIn_X7_dollAt
theorem dX7_kindsIn_0 : decode cX7_kindsIn 0 = .ok (.iconst 0, 1) := by decide +kernel
theorem dX7_kindsIn_1 : decode cX7_kindsIn 1 = .ok (.istore_n 2, 1) := by decide +kernel
theorem dX7_kindsIn_2 : decode cX7_kindsIn 2 = .ok (.iconst 0, 1) := by decide +kernel
theorem dX7_kindsIn_3 : decode cX7_kindsIn 3 = .ok (.istore_n 3, 1) := by decide +kernel
theorem dX7_kindsIn_4 : decode cX7_kindsIn 4 = .ok (.iload_n 3, 1) := by decide +kernel
theorem dX7_kindsIn_5 : decode cX7_kindsIn 5 = .ok (.aload_n 0, 1) := by decide +kernel
theorem dX7_kindsIn_6 : decode cX7_kindsIn 6 = .ok (.getfield 7, 3) := by decide +kernel
theorem dX7_kindsIn_9 : decode cX7_kindsIn 9 = .ok (.bipush 22, 2) := by decide +kernel
theorem dX7_kindsIn_11 : decode cX7_kindsIn 11 = .ok (.iload_n 1, 1) := by decide +kernel
theorem dX7_kindsIn_12 : decode cX7_kindsIn 12 = .ok (.iadd, 1) := by decide +kernel
theorem dX7_kindsIn_13 : decode cX7_kindsIn 13 = .ok (.iaload, 1) := by decide +kernel
theorem dX7_kindsIn_14 : decode cX7_kindsIn 14 = .ok (.if_icmp .ge 22, 3) := by decide +kernel
theorem dX7_kindsIn_17 : decode cX7_kindsIn 17 = .ok (.iload_n 2, 1) := by decide +kernel
theorem dX7_kindsIn_18 : decode cX7_kindsIn 18 = .ok (.iconst 1, 1) := by decide +kernel
theorem dX7_kindsIn_19 : decode cX7_kindsIn 19 = .ok (.aload_n 0, 1) := by decide +kernel
theorem dX7_kindsIn_20 : decode cX7_kindsIn 20 = .ok (.iload_n 1, 1) := by decide +kernel
theorem dX7_kindsIn_21 : decode cX7_kindsIn 21 = .ok (.iload_n 3, 1) := by decide +kernel
theorem dX7_kindsIn_22 : decode cX7_kindsIn 22 = .ok (.invokevirtual 57, 3) := by decide +kernel
theorem dX7_kindsIn_25 : decode cX7_kindsIn 25 = .ok (.iconst 2, 1) := by decide +kernel
theorem dX7_kindsIn_26 : decode cX7_kindsIn 26 = .ok (.idiv, 1) := by decide +kernel
theorem dX7_kindsIn_27 : decode cX7_kindsIn 27 = .ok (.ishl, 1) := by decide +kernel
theorem dX7_kindsIn_28 : decode cX7_kindsIn 28 = .ok (.ior, 1) := by decide +kernel
theorem dX7_kindsIn_29 : decode cX7_kindsIn 29 = .ok (.istore_n 2, 1) := by decide +kernel
theorem dX7_kindsIn_30 : decode cX7_kindsIn 30 = .ok (.iinc 3 1, 3) := by decide +kernel
theorem dX7_kindsIn_33 : decode cX7_kindsIn 33 = .ok (.goto (-29), 3) := by decide +kernel
theorem dX7_kindsIn_36 : decode cX7_kindsIn 36 = .ok (.iload_n 2, 1) := by decide +kernel
theorem dX7_kindsIn_37 : decode cX7_kindsIn 37 = .ok (.ireturn, 1) := by decide +kernel
set_option maxRecDepth 20000 in
theorem ggX7_repeatOf_X7_dollAt : GoodIn wsX7_repeatOf wsX7_dollAt := goodIn_r _ [6, 1, 7, 8, 9, 10, 11, 12, 13, 14, 15, 16, 17, 18, 19, 20] (by decide +kernel) (by decide +kernel)
set_option maxRecDepth 20000 in
theorem gX7_repeatOf_X7_dollAt : GoodIn wsX7_repeatOf (wsV RX7 57 RX7 yX7_dollAt wsX7_dollAt) := goodIn_app (goodIn_of _ (by decide +kernel)) ggX7_repeatOf_X7_dollAt
theorem dX7_repeatOf_0 : decode cX7_repeatOf 0 = .ok (.iconst 0, 1) := by decide +kernel
theorem dX7_repeatOf_1 : decode cX7_repeatOf 1 = .ok (.istore_n 2, 1) := by decide +kernel
theorem dX7_repeatOf_2 : decode cX7_repeatOf 2 = .ok (.iconst 0, 1) := by decide +kernel
theorem dX7_repeatOf_3 : decode cX7_repeatOf 3 = .ok (.istore_n 3, 1) := by decide +kernel
theorem dX7_repeatOf_4 : decode cX7_repeatOf 4 = .ok (.iload_n 3, 1) := by decide +kernel
theorem dX7_repeatOf_5 : decode cX7_repeatOf 5 = .ok (.ifCond .ne 63, 3) := by decide +kernel
theorem dX7_repeatOf_8 : decode cX7_repeatOf 8 = .ok (.iinc 2 1, 3) := by decide +kernel
theorem dX7_repeatOf_11 : decode cX7_repeatOf 11 = .ok (.iconst 1, 1) := by decide +kernel
theorem dX7_repeatOf_12 : decode cX7_repeatOf 12 = .ok (.istore_n 3, 1) := by decide +kernel
theorem dX7_repeatOf_13 : decode cX7_repeatOf 13 = .ok (.iload_n 2, 1) := by decide +kernel
theorem dX7_repeatOf_14 : decode cX7_repeatOf 14 = .ok (.istore 4, 2) := by decide +kernel
theorem dX7_repeatOf_16 : decode cX7_repeatOf 16 = .ok (.iload 4, 2) := by decide +kernel
theorem dX7_repeatOf_18 : decode cX7_repeatOf 18 = .ok (.aload_n 0, 1) := by decide +kernel
theorem dX7_repeatOf_19 : decode cX7_repeatOf 19 = .ok (.getfield 7, 3) := by decide +kernel
theorem dX7_repeatOf_22 : decode cX7_repeatOf 22 = .ok (.bipush 22, 2) := by decide +kernel
theorem dX7_repeatOf_24 : decode cX7_repeatOf 24 = .ok (.iload_n 1, 1) := by decide +kernel
theorem dX7_repeatOf_25 : decode cX7_repeatOf 25 = .ok (.iadd, 1) := by decide +kernel
theorem dX7_repeatOf_26 : decode cX7_repeatOf 26 = .ok (.iaload, 1) := by decide +kernel
theorem dX7_repeatOf_27 : decode cX7_repeatOf 27 = .ok (.if_icmp .ge 38, 3) := by decide +kernel
theorem dX7_repeatOf_30 : decode cX7_repeatOf 30 = .ok (.iload_n 3, 1) := by decide +kernel
theorem dX7_repeatOf_31 : decode cX7_repeatOf 31 = .ok (.ifCond .eq 26, 3) := by decide +kernel
theorem dX7_repeatOf_34 : decode cX7_repeatOf 34 = .ok (.aload_n 0, 1) := by decide +kernel
theorem dX7_repeatOf_35 : decode cX7_repeatOf 35 = .ok (.iload_n 1, 1) := by decide +kernel
theorem dX7_repeatOf_36 : decode cX7_repeatOf 36 = .ok (.iload 4, 2) := by decide +kernel
theorem dX7_repeatOf_38 : decode cX7_repeatOf 38 = .ok (.invokevirtual 57, 3) := by decide +kernel
theorem dX7_repeatOf_41 : decode cX7_repeatOf 41 = .ok (.aload_n 0, 1) := by decide +kernel
theorem dX7_repeatOf_42 : decode cX7_repeatOf 42 = .ok (.iload_n 1, 1) := by decide +kernel
theorem dX7_repeatOf_43 : decode cX7_repeatOf 43 = .ok (.iload 4, 2) := by decide +kernel
theorem dX7_repeatOf_45 : decode cX7_repeatOf 45 = .ok (.iload_n 2, 1) := by decide +kernel
theorem dX7_repeatOf_46 : decode cX7_repeatOf 46 = .ok (.isub, 1) := by decide +kernel
theorem dX7_repeatOf_47 : decode cX7_repeatOf 47 = .ok (.invokevirtual 57, 3) := by decide +kernel
theorem dX7_repeatOf_50 : decode cX7_repeatOf 50 = .ok (.if_icmp .ne 7, 3) := by decide +kernel
theorem dX7_repeatOf_53 : decode cX7_repeatOf 53 = .ok (.iconst 1, 1) := by decide +kernel
theorem dX7_repeatOf_54 : decode cX7_repeatOf 54 = .ok (.goto 4, 3) := by decide +kernel
theorem dX7_repeatOf_57 : decode cX7_repeatOf 57 = .ok (.iconst 0, 1) := by decide +kernel
theorem dX7_repeatOf_58 : decode cX7_repeatOf 58 = .ok (.istore_n 3, 1) := by decide +kernel
theorem dX7_repeatOf_59 : decode cX7_repeatOf 59 = .ok (.iinc 4 1, 3) := by decide +kernel
theorem dX7_repeatOf_62 : decode cX7_repeatOf 62 = .ok (.goto (-46), 3) := by decide +kernel
theorem dX7_repeatOf_65 : decode cX7_repeatOf 65 = .ok (.goto (-61), 3) := by decide +kernel
theorem dX7_repeatOf_68 : decode cX7_repeatOf 68 = .ok (.iload_n 2, 1) := by decide +kernel
theorem dX7_repeatOf_69 : decode cX7_repeatOf 69 = .ok (.ireturn, 1) := by decide +kernel
set_option maxRecDepth 20000 in
theorem ggX7_firstLike_X7_isLike : GoodIn wsX7_firstLike wsX7_isLike := goodIn_r _ [5, 6, 7, 8, 9, 4, 10, 11, 12, 13, 14, 15, 16, 17, 18, 19, 20, 21, 22, 23, 24, 25, 26, 27, 28] (by decide +kernel) (by decide +kernel)
set_option maxRecDepth 20000 in
theorem gX7_firstLike_X7_isLike : GoodIn wsX7_firstLike (wsV RX7 67 RX7 yX7_isLike wsX7_isLike) := goodIn_app (goodIn_of _ (by decide +kernel)) ggX7_firstLike_X7_isLike
theorem dX7_firstLike_0 : decode cX7_firstLike 0 = .ok (.iconst 0, 1) := by decide +kernel
theorem dX7_firstLike_1 : decode cX7_firstLike 1 = .ok (.istore_n 2, 1) := by decide +kernel
theorem dX7_firstLike_2 : decode cX7_firstLike 2 = .ok (.aload_n 0, 1) := by decide +kernel
theorem dX7_firstLike_3 : decode cX7_firstLike 3 = .ok (.iload_n 2, 1) := by decide +kernel
theorem dX7_firstLike_4 : decode cX7_firstLike 4 = .ok (.iload_n 1, 1) := by decide +kernel
theorem dX7_firstLike_5 : decode cX7_firstLike 5 = .ok (.iconst 0, 1) := by decide +kernel
theorem dX7_firstLike_6 : decode cX7_firstLike 6 = .ok (.invokevirtual 67, 3) := by decide +kernel
end
section
theorem dX7_firstLike_9 : decode cX7_firstLike 9 = .ok (.ifCond .ne 19, 3) := by decide +kernel
theorem dX7_firstLike_12 : decode cX7_firstLike 12 = .ok (.aload_n 0, 1) := by decide +kernel
theorem dX7_firstLike_13 : decode cX7_firstLike 13 = .ok (.iload_n 2, 1) := by decide +kernel
theorem dX7_firstLike_14 : decode cX7_firstLike 14 = .ok (.iload_n 1, 1) := by decide +kernel
theorem dX7_firstLike_15 : decode cX7_firstLike 15 = .ok (.iconst 1, 1) := by decide +kernel
theorem dX7_firstLike_16 : decode cX7_firstLike 16 = .ok (.invokevirtual 67, 3) := by decide +kernel
theorem dX7_firstLike_19 : decode cX7_firstLike 19 = .ok (.ifCond .ne 9, 3) := by decide +kernel
theorem dX7_firstLike_22 : decode cX7_firstLike 22 = .ok (.iinc 2 1, 3) := by decide +kernel
theorem dX7_firstLike_25 : decode cX7_firstLike 25 = .ok (.goto (-23), 3) := by decide +kernel
theorem dX7_firstLike_28 : decode cX7_firstLike 28 = .ok (.iload_n 2, 1) := by decide +kernel
theorem dX7_firstLike_29 : decode cX7_firstLike 29 = .ok (.ireturn, 1) := by decide +kernel
set_option maxRecDepth 20000 in
theorem ggX7_garland_X7_isGarland : GoodIn wsX7_garland wsX7_isGarland := goodIn_r _ [6, 7, 1, 8, 9, 5, 10, 51, 52, 53, 54, 55, 56, 57, 58, 59, 60, 61, 62, 63, 64] (by decide +kernel) (by decide +kernel)
set_option maxRecDepth 20000 in
theorem gX7_garland_X7_isGarland : GoodIn wsX7_garland (wsV RX7 103 RX7 yX7_isGarland wsX7_isGarland) := goodIn_app (goodIn_of _ (by decide +kernel)) ggX7_garland_X7_isGarland
set_option maxRecDepth 20000 in
theorem ggX7_garland_X7_dollAt : GoodIn wsX7_garland wsX7_dollAt := goodIn_r _ [14, 1, 51, 52, 53, 54, 55, 56, 57, 58, 59, 60, 61, 62, 63, 64] (by decide +kernel) (by decide +kernel)
set_option maxRecDepth 20000 in
theorem gX7_garland_X7_dollAt : GoodIn wsX7_garland (wsV RX7 57 RX7 yX7_dollAt wsX7_dollAt) := goodIn_app (goodIn_of _ (by decide +kernel)) ggX7_garland_X7_dollAt
set_option maxRecDepth 20000 in
theorem ggX7_garland_X7_handOf : GoodIn wsX7_garland wsX7_handOf := goodIn_r _ [18, 1, 51, 52, 53, 54, 55, 56, 57, 58, 59, 60, 61, 62, 63, 64] (by decide +kernel) (by decide +kernel)
set_option maxRecDepth 20000 in
theorem gX7_garland_X7_handOf : GoodIn wsX7_garland (wsV RX7 51 RX7 yX7_handOf wsX7_handOf) := goodIn_app (goodIn_of _ (by decide +kernel)) ggX7_garland_X7_handOf
set_option maxRecDepth 20000 in
theorem ggX7_garland_X7_last : GoodIn wsX7_garland wsX7_last := goodIn_r _ [22, 1, 11, 12, 13, 5, 14, 51, 52, 53, 54, 55, 56, 57, 58, 59, 60, 61, 62, 63, 64] (by decide +kernel) (by decide +kernel)
set_option maxRecDepth 20000 in
theorem gX7_garland_X7_last : GoodIn wsX7_garland (wsV RX7 106 RX7 yX7_last wsX7_last) := goodIn_app (goodIn_of _ (by decide +kernel)) ggX7_garland_X7_last
set_option maxRecDepth 20000 in
theorem ggX7_garland_X7_mirroredIn : GoodIn wsX7_garland wsX7_mirroredIn := goodIn_r _ [26, 1, 11, 12, 13, 5, 14, 51, 52, 53, 54, 55, 56, 57, 58, 59, 60, 61, 62, 63, 64] (by decide +kernel) (by decide +kernel)
set_option maxRecDepth 20000 in
theorem gX7_garland_X7_mirroredIn : GoodIn wsX7_garland (wsV RX7 116 RX7 yX7_mirroredIn wsX7_mirroredIn) := goodIn_app (goodIn_of _ (by decide +kernel)) ggX7_garland_X7_mirroredIn
set_option maxRecDepth 20000 in
theorem ggX7_garland_X7_kindsIn : GoodIn wsX7_garland wsX7_kindsIn := goodIn_r _ [30, 1, 11, 12, 13, 5, 14, 51, 52, 53, 54, 55, 56, 57, 58, 59, 60, 61, 62, 63, 64] (by decide +kernel) (by decide +kernel)
set_option maxRecDepth 20000 in
theorem gX7_garland_X7_kindsIn : GoodIn wsX7_garland (wsV RX7 154 RX7 yX7_kindsIn wsX7_kindsIn) := goodIn_app (goodIn_of _ (by decide +kernel)) ggX7_garland_X7_kindsIn
set_option maxRecDepth 20000 in
theorem ggX7_garland_X7_isOwnImage : GoodIn wsX7_garland wsX7_isOwnImage := goodIn_r _ [34, 35, 36, 37, 5, 38, 1, 11, 12, 13, 14, 39, 40, 41, 42, 51, 52, 53, 54, 55, 56, 57, 58, 59, 60, 61, 62, 63, 64] (by decide +kernel) (by decide +kernel)
set_option maxRecDepth 20000 in
theorem gX7_garland_X7_isOwnImage : GoodIn wsX7_garland (wsV RX7 113 RX7 yX7_isOwnImage wsX7_isOwnImage) := goodIn_app (goodIn_of _ (by decide +kernel)) ggX7_garland_X7_isOwnImage
set_option maxRecDepth 20000 in
theorem ggX7_garland_X7_repeatOf : GoodIn wsX7_garland wsX7_repeatOf := goodIn_r _ [46, 1, 11, 12, 13, 5, 14, 51, 52, 53, 54, 55, 56, 57, 58, 59, 60, 61, 62, 63, 64] (by decide +kernel) (by decide +kernel)
set_option maxRecDepth 20000 in
theorem gX7_garland_X7_repeatOf : GoodIn wsX7_garland (wsV RX7 157 RX7 yX7_repeatOf wsX7_repeatOf) := goodIn_app (goodIn_of _ (by decide +kernel)) ggX7_garland_X7_repeatOf
set_option maxRecDepth 20000 in
theorem ggX7_garland_X7_firstLike : GoodIn wsX7_garland wsX7_firstLike := goodIn_r _ [50, 35, 36, 37, 5, 38, 1, 11, 12, 13, 14, 39, 40, 41, 42, 51, 52, 53, 54, 55, 56, 57, 58, 59, 60, 61, 62, 63, 64] (by decide +kernel) (by decide +kernel)
set_option maxRecDepth 20000 in
theorem gX7_garland_X7_firstLike : GoodIn wsX7_garland (wsV RX7 160 RX7 yX7_firstLike wsX7_firstLike) := goodIn_app (goodIn_of _ (by decide +kernel)) ggX7_garland_X7_firstLike
theorem dX7_garland_0 : decode cX7_garland 0 = .ok (.aload_n 0, 1) := by decide +kernel
theorem dX7_garland_1 : decode cX7_garland 1 = .ok (.iload_n 1, 1) := by decide +kernel
theorem dX7_garland_2 : decode cX7_garland 2 = .ok (.invokevirtual 103, 3) := by decide +kernel
theorem dX7_garland_5 : decode cX7_garland 5 = .ok (.ifCond .ne 5, 3) := by decide +kernel
theorem dX7_garland_8 : decode cX7_garland 8 = .ok (.iconst (-1), 1) := by decide +kernel
theorem dX7_garland_9 : decode cX7_garland 9 = .ok (.ireturn, 1) := by decide +kernel
theorem dX7_garland_10 : decode cX7_garland 10 = .ok (.iload_n 2, 1) := by decide +kernel
theorem dX7_garland_11 : decode cX7_garland 11 = .ok (.tableswitch 116 0 7 #[45, 55, 67, 78, 84, 90, 104, 110], 45) := by decide +kernel
theorem dX7_garland_56 : decode cX7_garland 56 = .ok (.aload_n 0, 1) := by decide +kernel
theorem dX7_garland_57 : decode cX7_garland 57 = .ok (.getfield 7, 3) := by decide +kernel
theorem dX7_garland_60 : decode cX7_garland 60 = .ok (.bipush 22, 2) := by decide +kernel
theorem dX7_garland_62 : decode cX7_garland 62 = .ok (.iload_n 1, 1) := by decide +kernel
theorem dX7_garland_63 : decode cX7_garland 63 = .ok (.iadd, 1) := by decide +kernel
theorem dX7_garland_64 : decode cX7_garland 64 = .ok (.iaload, 1) := by decide +kernel
theorem dX7_garland_65 : decode cX7_garland 65 = .ok (.ireturn, 1) := by decide +kernel
theorem dX7_garland_66 : decode cX7_garland 66 = .ok (.aload_n 0, 1) := by decide +kernel
theorem dX7_garland_67 : decode cX7_garland 67 = .ok (.aload_n 0, 1) := by decide +kernel
theorem dX7_garland_68 : decode cX7_garland 68 = .ok (.iload_n 1, 1) := by decide +kernel
theorem dX7_garland_69 : decode cX7_garland 69 = .ok (.iconst 0, 1) := by decide +kernel
theorem dX7_garland_70 : decode cX7_garland 70 = .ok (.invokevirtual 57, 3) := by decide +kernel
theorem dX7_garland_73 : decode cX7_garland 73 = .ok (.iconst 0, 1) := by decide +kernel
theorem dX7_garland_74 : decode cX7_garland 74 = .ok (.invokevirtual 51, 3) := by decide +kernel
theorem dX7_garland_77 : decode cX7_garland 77 = .ok (.ireturn, 1) := by decide +kernel
theorem dX7_garland_78 : decode cX7_garland 78 = .ok (.aload_n 0, 1) := by decide +kernel
theorem dX7_garland_79 : decode cX7_garland 79 = .ok (.aload_n 0, 1) := by decide +kernel
theorem dX7_garland_80 : decode cX7_garland 80 = .ok (.iload_n 1, 1) := by decide +kernel
theorem dX7_garland_81 : decode cX7_garland 81 = .ok (.invokevirtual 106, 3) := by decide +kernel
theorem dX7_garland_84 : decode cX7_garland 84 = .ok (.iconst 1, 1) := by decide +kernel
theorem dX7_garland_85 : decode cX7_garland 85 = .ok (.invokevirtual 51, 3) := by decide +kernel
theorem dX7_garland_88 : decode cX7_garland 88 = .ok (.ireturn, 1) := by decide +kernel
theorem dX7_garland_89 : decode cX7_garland 89 = .ok (.aload_n 0, 1) := by decide +kernel
theorem dX7_garland_90 : decode cX7_garland 90 = .ok (.iload_n 1, 1) := by decide +kernel
theorem dX7_garland_91 : decode cX7_garland 91 = .ok (.invokevirtual 116, 3) := by decide +kernel
theorem dX7_garland_94 : decode cX7_garland 94 = .ok (.ireturn, 1) := by decide +kernel
theorem dX7_garland_95 : decode cX7_garland 95 = .ok (.aload_n 0, 1) := by decide +kernel
theorem dX7_garland_96 : decode cX7_garland 96 = .ok (.iload_n 1, 1) := by decide +kernel
theorem dX7_garland_97 : decode cX7_garland 97 = .ok (.invokevirtual 154, 3) := by decide +kernel
theorem dX7_garland_100 : decode cX7_garland 100 = .ok (.ireturn, 1) := by decide +kernel
theorem dX7_garland_101 : decode cX7_garland 101 = .ok (.aload_n 0, 1) := by decide +kernel
theorem dX7_garland_102 : decode cX7_garland 102 = .ok (.iload_n 1, 1) := by decide +kernel
theorem dX7_garland_103 : decode cX7_garland 103 = .ok (.invokevirtual 113, 3) := by decide +kernel
theorem dX7_garland_106 : decode cX7_garland 106 = .ok (.ifCond .eq 7, 3) := by decide +kernel
theorem dX7_garland_109 : decode cX7_garland 109 = .ok (.iconst 1, 1) := by decide +kernel
theorem dX7_garland_110 : decode cX7_garland 110 = .ok (.goto 4, 3) := by decide +kernel
theorem dX7_garland_113 : decode cX7_garland 113 = .ok (.iconst 0, 1) := by decide +kernel
theorem dX7_garland_114 : decode cX7_garland 114 = .ok (.ireturn, 1) := by decide +kernel
theorem dX7_garland_115 : decode cX7_garland 115 = .ok (.aload_n 0, 1) := by decide +kernel
theorem dX7_garland_116 : decode cX7_garland 116 = .ok (.iload_n 1, 1) := by decide +kernel
theorem dX7_garland_117 : decode cX7_garland 117 = .ok (.invokevirtual 157, 3) := by decide +kernel
theorem dX7_garland_120 : decode cX7_garland 120 = .ok (.ireturn, 1) := by decide +kernel
theorem dX7_garland_121 : decode cX7_garland 121 = .ok (.aload_n 0, 1) := by decide +kernel
theorem dX7_garland_122 : decode cX7_garland 122 = .ok (.iload_n 1, 1) := by decide +kernel
theorem dX7_garland_123 : decode cX7_garland 123 = .ok (.invokevirtual 160, 3) := by decide +kernel
theorem dX7_garland_126 : decode cX7_garland 126 = .ok (.ireturn, 1) := by decide +kernel
theorem dX7_garland_127 : decode cX7_garland 127 = .ok (.bipush (-2), 2) := by decide +kernel
theorem dX7_garland_129 : decode cX7_garland 129 = .ok (.ireturn, 1) := by decide +kernel
set_option maxRecDepth 20000 in
theorem ggX7_doll_X7_isGarland : GoodIn wsX7_doll wsX7_isGarland := goodIn_r _ [6, 7, 1, 8, 9, 5, 10, 19, 20, 21, 22, 23, 24, 25, 26, 27, 28, 29, 30, 31, 32] (by decide +kernel) (by decide +kernel)
set_option maxRecDepth 20000 in
theorem gX7_doll_X7_isGarland : GoodIn wsX7_doll (wsV RX7 103 RX7 yX7_isGarland wsX7_isGarland) := goodIn_app (goodIn_of _ (by decide +kernel)) ggX7_doll_X7_isGarland
set_option maxRecDepth 20000 in
theorem ggX7_doll_X7_in : GoodIn wsX7_doll wsX7_in := goodIn_r _ [10] (by decide +kernel) (by decide +kernel)
set_option maxRecDepth 20000 in
theorem gX7_doll_X7_in : GoodIn wsX7_doll (va_wsS RX7 47 yX7_in wsX7_in) := goodIn_app (goodIn_of _ (by decide +kernel)) ggX7_doll_X7_in
set_option maxRecDepth 20000 in
theorem ggX7_doll_X7_dollAt : GoodIn wsX7_doll wsX7_dollAt := goodIn_r _ [14, 1, 19, 20, 21, 22, 23, 24, 25, 26, 27, 28, 29, 30, 31, 32] (by decide +kernel) (by decide +kernel)
set_option maxRecDepth 20000 in
theorem gX7_doll_X7_dollAt : GoodIn wsX7_doll (wsV RX7 57 RX7 yX7_dollAt wsX7_dollAt) := goodIn_app (goodIn_of _ (by decide +kernel)) ggX7_doll_X7_dollAt
set_option maxRecDepth 20000 in
theorem ggX7_doll_X7_handOf : GoodIn wsX7_doll wsX7_handOf := goodIn_r _ [18, 1, 19, 20, 21, 22, 23, 24, 25, 26, 27, 28, 29, 30, 31, 32] (by decide +kernel) (by decide +kernel)
set_option maxRecDepth 20000 in
theorem gX7_doll_X7_handOf : GoodIn wsX7_doll (wsV RX7 51 RX7 yX7_handOf wsX7_handOf) := goodIn_app (goodIn_of _ (by decide +kernel)) ggX7_doll_X7_handOf
theorem dX7_doll_0 : decode cX7_doll 0 = .ok (.aload_n 0, 1) := by decide +kernel
theorem dX7_doll_1 : decode cX7_doll 1 = .ok (.iload_n 1, 1) := by decide +kernel
theorem dX7_doll_2 : decode cX7_doll 2 = .ok (.invokevirtual 103, 3) := by decide +kernel
theorem dX7_doll_5 : decode cX7_doll 5 = .ok (.ifCond .eq 24, 3) := by decide +kernel
theorem dX7_doll_8 : decode cX7_doll 8 = .ok (.iload_n 2, 1) := by decide +kernel
theorem dX7_doll_9 : decode cX7_doll 9 = .ok (.i2l, 1) := by decide +kernel
theorem dX7_doll_10 : decode cX7_doll 10 = .ok (.lconst 0, 1) := by decide +kernel
theorem dX7_doll_11 : decode cX7_doll 11 = .ok (.aload_n 0, 1) := by decide +kernel
theorem dX7_doll_12 : decode cX7_doll 12 = .ok (.getfield 7, 3) := by decide +kernel
theorem dX7_doll_15 : decode cX7_doll 15 = .ok (.bipush 22, 2) := by decide +kernel
theorem dX7_doll_17 : decode cX7_doll 17 = .ok (.iload_n 1, 1) := by decide +kernel
theorem dX7_doll_18 : decode cX7_doll 18 = .ok (.iadd, 1) := by decide +kernel
theorem dX7_doll_19 : decode cX7_doll 19 = .ok (.iaload, 1) := by decide +kernel
theorem dX7_doll_20 : decode cX7_doll 20 = .ok (.i2l, 1) := by decide +kernel
theorem dX7_doll_21 : decode cX7_doll 21 = .ok (.lconst 1, 1) := by decide +kernel
theorem dX7_doll_22 : decode cX7_doll 22 = .ok (.lsub, 1) := by decide +kernel
theorem dX7_doll_23 : decode cX7_doll 23 = .ok (.invokestatic 47, 3) := by decide +kernel
theorem dX7_doll_26 : decode cX7_doll 26 = .ok (.ifCond .ne 5, 3) := by decide +kernel
theorem dX7_doll_29 : decode cX7_doll 29 = .ok (.iconst (-1), 1) := by decide +kernel
theorem dX7_doll_30 : decode cX7_doll 30 = .ok (.ireturn, 1) := by decide +kernel
theorem dX7_doll_31 : decode cX7_doll 31 = .ok (.aload_n 0, 1) := by decide +kernel
theorem dX7_doll_32 : decode cX7_doll 32 = .ok (.iload_n 1, 1) := by decide +kernel
theorem dX7_doll_33 : decode cX7_doll 33 = .ok (.iload_n 2, 1) := by decide +kernel
theorem dX7_doll_34 : decode cX7_doll 34 = .ok (.invokevirtual 57, 3) := by decide +kernel
theorem dX7_doll_37 : decode cX7_doll 37 = .ok (.istore 4, 2) := by decide +kernel
theorem dX7_doll_39 : decode cX7_doll 39 = .ok (.iload_n 3, 1) := by decide +kernel
theorem dX7_doll_40 : decode cX7_doll 40 = .ok (.tableswitch 52 0 3 #[32, 37, 42, 42], 32) := by decide +kernel
theorem dX7_doll_72 : decode cX7_doll 72 = .ok (.iload 4, 2) := by decide +kernel
theorem dX7_doll_74 : decode cX7_doll 74 = .ok (.iconst 2, 1) := by decide +kernel
theorem dX7_doll_75 : decode cX7_doll 75 = .ok (.idiv, 1) := by decide +kernel
theorem dX7_doll_76 : decode cX7_doll 76 = .ok (.ireturn, 1) := by decide +kernel
theorem dX7_doll_77 : decode cX7_doll 77 = .ok (.iload 4, 2) := by decide +kernel
theorem dX7_doll_79 : decode cX7_doll 79 = .ok (.iconst 2, 1) := by decide +kernel
theorem dX7_doll_80 : decode cX7_doll 80 = .ok (.irem, 1) := by decide +kernel
theorem dX7_doll_81 : decode cX7_doll 81 = .ok (.ireturn, 1) := by decide +kernel
theorem dX7_doll_82 : decode cX7_doll 82 = .ok (.aload_n 0, 1) := by decide +kernel
theorem dX7_doll_83 : decode cX7_doll 83 = .ok (.iload 4, 2) := by decide +kernel
theorem dX7_doll_85 : decode cX7_doll 85 = .ok (.iload_n 3, 1) := by decide +kernel
theorem dX7_doll_86 : decode cX7_doll 86 = .ok (.iconst 2, 1) := by decide +kernel
theorem dX7_doll_87 : decode cX7_doll 87 = .ok (.isub, 1) := by decide +kernel
theorem dX7_doll_88 : decode cX7_doll 88 = .ok (.invokevirtual 51, 3) := by decide +kernel
theorem dX7_doll_91 : decode cX7_doll 91 = .ok (.ireturn, 1) := by decide +kernel
theorem dX7_doll_92 : decode cX7_doll 92 = .ok (.bipush (-2), 2) := by decide +kernel
theorem dX7_doll_94 : decode cX7_doll 94 = .ok (.ireturn, 1) := by decide +kernel
set_option maxRecDepth 20000 in
theorem ggX7_reason_X7_isGarland : GoodIn wsX7_reason wsX7_isGarland := goodIn_r _ [6, 7, 1, 8, 9, 5, 10, 27, 28, 29, 30, 31, 32, 33, 34, 35, 36, 37, 38, 39, 40] (by decide +kernel) (by decide +kernel)
set_option maxRecDepth 20000 in
theorem gX7_reason_X7_isGarland : GoodIn wsX7_reason (wsV RX7 103 RX7 yX7_isGarland wsX7_isGarland) := goodIn_app (goodIn_of _ (by decide +kernel)) ggX7_reason_X7_isGarland
set_option maxRecDepth 20000 in
theorem ggX7_reason_X7_last : GoodIn wsX7_reason wsX7_last := goodIn_r _ [14, 1, 15, 16, 17, 5, 18, 27, 28, 29, 30, 31, 32, 33, 34, 35, 36, 37, 38, 39, 40] (by decide +kernel) (by decide +kernel)
set_option maxRecDepth 20000 in
theorem gX7_reason_X7_last : GoodIn wsX7_reason (wsV RX7 106 RX7 yX7_last wsX7_last) := goodIn_app (goodIn_of _ (by decide +kernel)) ggX7_reason_X7_last
set_option maxRecDepth 20000 in
theorem ggX7_reason_X7_dollAt : GoodIn wsX7_reason wsX7_dollAt := goodIn_r _ [18, 1, 27, 28, 29, 30, 31, 32, 33, 34, 35, 36, 37, 38, 39, 40] (by decide +kernel) (by decide +kernel)
set_option maxRecDepth 20000 in
theorem gX7_reason_X7_dollAt : GoodIn wsX7_reason (wsV RX7 57 RX7 yX7_dollAt wsX7_dollAt) := goodIn_app (goodIn_of _ (by decide +kernel)) ggX7_reason_X7_dollAt
set_option maxRecDepth 20000 in
theorem ggX7_reason_X7_clash : GoodIn wsX7_reason wsX7_clash := goodIn_r _ [22, 1, 23, 24, 25, 5, 26, 27, 28, 29, 30, 31, 32, 33, 34, 35, 36, 37, 38, 39, 40] (by decide +kernel) (by decide +kernel)
set_option maxRecDepth 20000 in
theorem gX7_reason_X7_clash : GoodIn wsX7_reason (wsV RX7 60 RX7 yX7_clash wsX7_clash) := goodIn_app (goodIn_of _ (by decide +kernel)) ggX7_reason_X7_clash
theorem dX7_reason_0 : decode cX7_reason 0 = .ok (.aload_n 0, 1) := by decide +kernel
theorem dX7_reason_1 : decode cX7_reason 1 = .ok (.iload_n 1, 1) := by decide +kernel
theorem dX7_reason_2 : decode cX7_reason 2 = .ok (.invokevirtual 103, 3) := by decide +kernel
theorem dX7_reason_5 : decode cX7_reason 5 = .ok (.ifCond .eq 11, 3) := by decide +kernel
theorem dX7_reason_8 : decode cX7_reason 8 = .ok (.aload_n 0, 1) := by decide +kernel
theorem dX7_reason_9 : decode cX7_reason 9 = .ok (.iload_n 2, 1) := by decide +kernel
theorem dX7_reason_10 : decode cX7_reason 10 = .ok (.invokevirtual 103, 3) := by decide +kernel
theorem dX7_reason_13 : decode cX7_reason 13 = .ok (.ifCond .ne 5, 3) := by decide +kernel
theorem dX7_reason_16 : decode cX7_reason 16 = .ok (.iconst (-1), 1) := by decide +kernel
theorem dX7_reason_17 : decode cX7_reason 17 = .ok (.ireturn, 1) := by decide +kernel
theorem dX7_reason_18 : decode cX7_reason 18 = .ok (.iload_n 1, 1) := by decide +kernel
theorem dX7_reason_19 : decode cX7_reason 19 = .ok (.iload_n 2, 1) := by decide +kernel
theorem dX7_reason_20 : decode cX7_reason 20 = .ok (.if_icmp .ne 7, 3) := by decide +kernel
theorem dX7_reason_23 : decode cX7_reason 23 = .ok (.iconst 1, 1) := by decide +kernel
theorem dX7_reason_24 : decode cX7_reason 24 = .ok (.goto 54, 3) := by decide +kernel
theorem dX7_reason_27 : decode cX7_reason 27 = .ok (.aload_n 0, 1) := by decide +kernel
theorem dX7_reason_28 : decode cX7_reason 28 = .ok (.aload_n 0, 1) := by decide +kernel
theorem dX7_reason_29 : decode cX7_reason 29 = .ok (.iload_n 1, 1) := by decide +kernel
theorem dX7_reason_30 : decode cX7_reason 30 = .ok (.invokevirtual 106, 3) := by decide +kernel
theorem dX7_reason_33 : decode cX7_reason 33 = .ok (.aload_n 0, 1) := by decide +kernel
theorem dX7_reason_34 : decode cX7_reason 34 = .ok (.iload_n 2, 1) := by decide +kernel
theorem dX7_reason_35 : decode cX7_reason 35 = .ok (.iconst 0, 1) := by decide +kernel
theorem dX7_reason_36 : decode cX7_reason 36 = .ok (.invokevirtual 57, 3) := by decide +kernel
theorem dX7_reason_39 : decode cX7_reason 39 = .ok (.invokevirtual 60, 3) := by decide +kernel
theorem dX7_reason_42 : decode cX7_reason 42 = .ok (.ifCond .eq 7, 3) := by decide +kernel
theorem dX7_reason_45 : decode cX7_reason 45 = .ok (.iconst 2, 1) := by decide +kernel
theorem dX7_reason_46 : decode cX7_reason 46 = .ok (.goto 32, 3) := by decide +kernel
theorem dX7_reason_49 : decode cX7_reason 49 = .ok (.aload_n 0, 1) := by decide +kernel
theorem dX7_reason_50 : decode cX7_reason 50 = .ok (.getfield 7, 3) := by decide +kernel
theorem dX7_reason_53 : decode cX7_reason 53 = .ok (.bipush 22, 2) := by decide +kernel
theorem dX7_reason_55 : decode cX7_reason 55 = .ok (.iload_n 1, 1) := by decide +kernel
theorem dX7_reason_56 : decode cX7_reason 56 = .ok (.iadd, 1) := by decide +kernel
theorem dX7_reason_57 : decode cX7_reason 57 = .ok (.iaload, 1) := by decide +kernel
theorem dX7_reason_58 : decode cX7_reason 58 = .ok (.aload_n 0, 1) := by decide +kernel
theorem dX7_reason_59 : decode cX7_reason 59 = .ok (.getfield 7, 3) := by decide +kernel
theorem dX7_reason_62 : decode cX7_reason 62 = .ok (.bipush 22, 2) := by decide +kernel
theorem dX7_reason_64 : decode cX7_reason 64 = .ok (.iload_n 2, 1) := by decide +kernel
theorem dX7_reason_65 : decode cX7_reason 65 = .ok (.iadd, 1) := by decide +kernel
theorem dX7_reason_66 : decode cX7_reason 66 = .ok (.iaload, 1) := by decide +kernel
theorem dX7_reason_67 : decode cX7_reason 67 = .ok (.iadd, 1) := by decide +kernel
theorem dX7_reason_68 : decode cX7_reason 68 = .ok (.bipush 32, 2) := by decide +kernel
theorem dX7_reason_70 : decode cX7_reason 70 = .ok (.if_icmp .le 7, 3) := by decide +kernel
theorem dX7_reason_73 : decode cX7_reason 73 = .ok (.iconst 3, 1) := by decide +kernel
theorem dX7_reason_74 : decode cX7_reason 74 = .ok (.goto 4, 3) := by decide +kernel
theorem dX7_reason_77 : decode cX7_reason 77 = .ok (.iconst 0, 1) := by decide +kernel
theorem dX7_reason_78 : decode cX7_reason 78 = .ok (.ireturn, 1) := by decide +kernel
set_option maxRecDepth 20000 in
theorem ggX7_between_X7_isGarland : GoodIn wsX7_between wsX7_isGarland := goodIn_r _ [7, 8, 1, 9, 10, 6, 11, 28, 29, 30, 31, 32, 33, 34, 35, 36, 37, 38, 39, 40, 41] (by decide +kernel) (by decide +kernel)
set_option maxRecDepth 20000 in
theorem gX7_between_X7_isGarland : GoodIn wsX7_between (wsV RX7 103 RX7 yX7_isGarland wsX7_isGarland) := goodIn_app (goodIn_of _ (by decide +kernel)) ggX7_between_X7_isGarland
set_option maxRecDepth 20000 in
theorem ggX7_between_X7_last : GoodIn wsX7_between wsX7_last := goodIn_r _ [15, 1, 16, 17, 18, 6, 19, 28, 29, 30, 31, 32, 33, 34, 35, 36, 37, 38, 39, 40, 41] (by decide +kernel) (by decide +kernel)
set_option maxRecDepth 20000 in
theorem gX7_between_X7_last : GoodIn wsX7_between (wsV RX7 106 RX7 yX7_last wsX7_last) := goodIn_app (goodIn_of _ (by decide +kernel)) ggX7_between_X7_last
set_option maxRecDepth 20000 in
theorem ggX7_between_X7_dollAt : GoodIn wsX7_between wsX7_dollAt := goodIn_r _ [19, 1, 28, 29, 30, 31, 32, 33, 34, 35, 36, 37, 38, 39, 40, 41] (by decide +kernel) (by decide +kernel)
set_option maxRecDepth 20000 in
theorem gX7_between_X7_dollAt : GoodIn wsX7_between (wsV RX7 57 RX7 yX7_dollAt wsX7_dollAt) := goodIn_app (goodIn_of _ (by decide +kernel)) ggX7_between_X7_dollAt
set_option maxRecDepth 20000 in
theorem ggX7_between_X7_clash : GoodIn wsX7_between wsX7_clash := goodIn_r _ [23, 1, 24, 25, 26, 6, 27, 28, 29, 30, 31, 32, 33, 34, 35, 36, 37, 38, 39, 40, 41] (by decide +kernel) (by decide +kernel)
set_option maxRecDepth 20000 in
theorem gX7_between_X7_clash : GoodIn wsX7_between (wsV RX7 60 RX7 yX7_clash wsX7_clash) := goodIn_app (goodIn_of _ (by decide +kernel)) ggX7_between_X7_clash
theorem dX7_between_0 : decode cX7_between 0 = .ok (.aload_n 0, 1) := by decide +kernel
theorem dX7_between_1 : decode cX7_between 1 = .ok (.iload_n 1, 1) := by decide +kernel
theorem dX7_between_2 : decode cX7_between 2 = .ok (.invokevirtual 103, 3) := by decide +kernel
theorem dX7_between_5 : decode cX7_between 5 = .ok (.ifCond .eq 11, 3) := by decide +kernel
theorem dX7_between_8 : decode cX7_between 8 = .ok (.aload_n 0, 1) := by decide +kernel
theorem dX7_between_9 : decode cX7_between 9 = .ok (.iload_n 2, 1) := by decide +kernel
theorem dX7_between_10 : decode cX7_between 10 = .ok (.invokevirtual 103, 3) := by decide +kernel
theorem dX7_between_13 : decode cX7_between 13 = .ok (.ifCond .ne 5, 3) := by decide +kernel
theorem dX7_between_16 : decode cX7_between 16 = .ok (.iconst (-1), 1) := by decide +kernel
theorem dX7_between_17 : decode cX7_between 17 = .ok (.ireturn, 1) := by decide +kernel
theorem dX7_between_18 : decode cX7_between 18 = .ok (.aload_n 0, 1) := by decide +kernel
theorem dX7_between_19 : decode cX7_between 19 = .ok (.iload_n 1, 1) := by decide +kernel
theorem dX7_between_20 : decode cX7_between 20 = .ok (.invokevirtual 106, 3) := by decide +kernel
theorem dX7_between_23 : decode cX7_between 23 = .ok (.istore_n 3, 1) := by decide +kernel
theorem dX7_between_24 : decode cX7_between 24 = .ok (.aload_n 0, 1) := by decide +kernel
theorem dX7_between_25 : decode cX7_between 25 = .ok (.iload_n 2, 1) := by decide +kernel
theorem dX7_between_26 : decode cX7_between 26 = .ok (.iconst 0, 1) := by decide +kernel
theorem dX7_between_27 : decode cX7_between 27 = .ok (.invokevirtual 57, 3) := by decide +kernel
theorem dX7_between_30 : decode cX7_between 30 = .ok (.istore 4, 2) := by decide +kernel
theorem dX7_between_32 : decode cX7_between 32 = .ok (.aload_n 0, 1) := by decide +kernel
theorem dX7_between_33 : decode cX7_between 33 = .ok (.iload_n 3, 1) := by decide +kernel
theorem dX7_between_34 : decode cX7_between 34 = .ok (.iload 4, 2) := by decide +kernel
theorem dX7_between_36 : decode cX7_between 36 = .ok (.invokevirtual 60, 3) := by decide +kernel
theorem dX7_between_39 : decode cX7_between 39 = .ok (.ifCond .ne 5, 3) := by decide +kernel
theorem dX7_between_42 : decode cX7_between 42 = .ok (.iconst 0, 1) := by decide +kernel
theorem dX7_between_43 : decode cX7_between 43 = .ok (.ireturn, 1) := by decide +kernel
theorem dX7_between_44 : decode cX7_between 44 = .ok (.iconst 2, 1) := by decide +kernel
theorem dX7_between_45 : decode cX7_between 45 = .ok (.aload_n 0, 1) := by decide +kernel
theorem dX7_between_46 : decode cX7_between 46 = .ok (.getfield 7, 3) := by decide +kernel
theorem dX7_between_49 : decode cX7_between 49 = .ok (.iconst 1, 1) := by decide +kernel
theorem dX7_between_50 : decode cX7_between 50 = .ok (.iaload, 1) := by decide +kernel
theorem dX7_between_51 : decode cX7_between 51 = .ok (.imul, 1) := by decide +kernel
theorem dX7_between_52 : decode cX7_between 52 = .ok (.istore 5, 2) := by decide +kernel
theorem dX7_between_54 : decode cX7_between 54 = .ok (.iconst 0, 1) := by decide +kernel
theorem dX7_between_55 : decode cX7_between 55 = .ok (.istore 6, 2) := by decide +kernel
theorem dX7_between_57 : decode cX7_between 57 = .ok (.iload 6, 2) := by decide +kernel
theorem dX7_between_59 : decode cX7_between 59 = .ok (.iload 5, 2) := by decide +kernel
theorem dX7_between_61 : decode cX7_between 61 = .ok (.if_icmp .ge 32, 3) := by decide +kernel
theorem dX7_between_64 : decode cX7_between 64 = .ok (.aload_n 0, 1) := by decide +kernel
theorem dX7_between_65 : decode cX7_between 65 = .ok (.getfield 28, 3) := by decide +kernel
theorem dX7_between_68 : decode cX7_between 68 = .ok (.iload 6, 2) := by decide +kernel
theorem dX7_between_70 : decode cX7_between 70 = .ok (.aload_n 0, 1) := by decide +kernel
theorem dX7_between_71 : decode cX7_between 71 = .ok (.iload_n 3, 1) := by decide +kernel
theorem dX7_between_72 : decode cX7_between 72 = .ok (.iload 6, 2) := by decide +kernel
theorem dX7_between_74 : decode cX7_between 74 = .ok (.invokevirtual 60, 3) := by decide +kernel
theorem dX7_between_77 : decode cX7_between 77 = .ok (.ifCond .eq 8, 3) := by decide +kernel
theorem dX7_between_80 : decode cX7_between 80 = .ok (.bipush (-5), 2) := by decide +kernel
theorem dX7_between_82 : decode cX7_between 82 = .ok (.goto 4, 3) := by decide +kernel
theorem dX7_between_85 : decode cX7_between 85 = .ok (.iconst 1, 1) := by decide +kernel
theorem dX7_between_86 : decode cX7_between 86 = .ok (.iastore, 1) := by decide +kernel
theorem dX7_between_87 : decode cX7_between 87 = .ok (.iinc 6 1, 3) := by decide +kernel
theorem dX7_between_90 : decode cX7_between 90 = .ok (.goto (-33), 3) := by decide +kernel
theorem dX7_between_93 : decode cX7_between 93 = .ok (.iconst 1, 1) := by decide +kernel
theorem dX7_between_94 : decode cX7_between 94 = .ok (.istore 6, 2) := by decide +kernel
theorem dX7_between_96 : decode cX7_between 96 = .ok (.iload 6, 2) := by decide +kernel
theorem dX7_between_98 : decode cX7_between 98 = .ok (.iload 5, 2) := by decide +kernel
theorem dX7_between_100 : decode cX7_between 100 = .ok (.if_icmp .gt 140, 3) := by decide +kernel
theorem dX7_between_103 : decode cX7_between 103 = .ok (.iconst 0, 1) := by decide +kernel
theorem dX7_between_104 : decode cX7_between 104 = .ok (.istore 7, 2) := by decide +kernel
theorem dX7_between_106 : decode cX7_between 106 = .ok (.iload 7, 2) := by decide +kernel
theorem dX7_between_108 : decode cX7_between 108 = .ok (.iload 5, 2) := by decide +kernel
theorem dX7_between_110 : decode cX7_between 110 = .ok (.if_icmp .ge 35, 3) := by decide +kernel
theorem dX7_between_113 : decode cX7_between 113 = .ok (.aload_n 0, 1) := by decide +kernel
theorem dX7_between_114 : decode cX7_between 114 = .ok (.getfield 28, 3) := by decide +kernel
theorem dX7_between_117 : decode cX7_between 117 = .ok (.iload 7, 2) := by decide +kernel
theorem dX7_between_119 : decode cX7_between 119 = .ok (.iaload, 1) := by decide +kernel
theorem dX7_between_120 : decode cX7_between 120 = .ok (.iload 6, 2) := by decide +kernel
theorem dX7_between_122 : decode cX7_between 122 = .ok (.if_icmp .ne 17, 3) := by decide +kernel
theorem dX7_between_125 : decode cX7_between 125 = .ok (.aload_n 0, 1) := by decide +kernel
theorem dX7_between_126 : decode cX7_between 126 = .ok (.iload 7, 2) := by decide +kernel
theorem dX7_between_128 : decode cX7_between 128 = .ok (.iload 4, 2) := by decide +kernel
theorem dX7_between_130 : decode cX7_between 130 = .ok (.invokevirtual 60, 3) := by decide +kernel
theorem dX7_between_133 : decode cX7_between 133 = .ok (.ifCond .ne 6, 3) := by decide +kernel
theorem dX7_between_136 : decode cX7_between 136 = .ok (.iload 6, 2) := by decide +kernel
theorem dX7_between_138 : decode cX7_between 138 = .ok (.ireturn, 1) := by decide +kernel
theorem dX7_between_139 : decode cX7_between 139 = .ok (.iinc 7 1, 3) := by decide +kernel
theorem dX7_between_142 : decode cX7_between 142 = .ok (.goto (-36), 3) := by decide +kernel
theorem dX7_between_145 : decode cX7_between 145 = .ok (.iconst 0, 1) := by decide +kernel
theorem dX7_between_146 : decode cX7_between 146 = .ok (.istore 7, 2) := by decide +kernel
theorem dX7_between_148 : decode cX7_between 148 = .ok (.iload 7, 2) := by decide +kernel
theorem dX7_between_150 : decode cX7_between 150 = .ok (.iload 5, 2) := by decide +kernel
theorem dX7_between_152 : decode cX7_between 152 = .ok (.iload 5, 2) := by decide +kernel
theorem dX7_between_154 : decode cX7_between 154 = .ok (.imul, 1) := by decide +kernel
theorem dX7_between_155 : decode cX7_between 155 = .ok (.if_icmp .ge 79, 3) := by decide +kernel
theorem dX7_between_158 : decode cX7_between 158 = .ok (.iload 7, 2) := by decide +kernel
theorem dX7_between_160 : decode cX7_between 160 = .ok (.iload 5, 2) := by decide +kernel
theorem dX7_between_162 : decode cX7_between 162 = .ok (.idiv, 1) := by decide +kernel
theorem dX7_between_163 : decode cX7_between 163 = .ok (.istore 8, 2) := by decide +kernel
theorem dX7_between_165 : decode cX7_between 165 = .ok (.iload 7, 2) := by decide +kernel
theorem dX7_between_167 : decode cX7_between 167 = .ok (.iload 5, 2) := by decide +kernel
theorem dX7_between_169 : decode cX7_between 169 = .ok (.irem, 1) := by decide +kernel
theorem dX7_between_170 : decode cX7_between 170 = .ok (.istore 9, 2) := by decide +kernel
theorem dX7_between_172 : decode cX7_between 172 = .ok (.aload_n 0, 1) := by decide +kernel
theorem dX7_between_173 : decode cX7_between 173 = .ok (.getfield 28, 3) := by decide +kernel
theorem dX7_between_176 : decode cX7_between 176 = .ok (.iload 9, 2) := by decide +kernel
theorem dX7_between_178 : decode cX7_between 178 = .ok (.aload_n 0, 1) := by decide +kernel
theorem dX7_between_179 : decode cX7_between 179 = .ok (.getfield 28, 3) := by decide +kernel
theorem dX7_between_182 : decode cX7_between 182 = .ok (.iload 8, 2) := by decide +kernel
theorem dX7_between_184 : decode cX7_between 184 = .ok (.iaload, 1) := by decide +kernel
theorem dX7_between_185 : decode cX7_between 185 = .ok (.iload 6, 2) := by decide +kernel
theorem dX7_between_187 : decode cX7_between 187 = .ok (.if_icmp .ne 33, 3) := by decide +kernel
theorem dX7_between_190 : decode cX7_between 190 = .ok (.aload_n 0, 1) := by decide +kernel
theorem dX7_between_191 : decode cX7_between 191 = .ok (.getfield 28, 3) := by decide +kernel
theorem dX7_between_194 : decode cX7_between 194 = .ok (.iload 9, 2) := by decide +kernel
theorem dX7_between_196 : decode cX7_between 196 = .ok (.iaload, 1) := by decide +kernel
theorem dX7_between_197 : decode cX7_between 197 = .ok (.bipush (-5), 2) := by decide +kernel
theorem dX7_between_199 : decode cX7_between 199 = .ok (.if_icmp .ne 21, 3) := by decide +kernel
theorem dX7_between_202 : decode cX7_between 202 = .ok (.aload_n 0, 1) := by decide +kernel
theorem dX7_between_203 : decode cX7_between 203 = .ok (.iload 8, 2) := by decide +kernel
theorem dX7_between_205 : decode cX7_between 205 = .ok (.iload 9, 2) := by decide +kernel
theorem dX7_between_207 : decode cX7_between 207 = .ok (.invokevirtual 60, 3) := by decide +kernel
theorem dX7_between_210 : decode cX7_between 210 = .ok (.ifCond .ne 10, 3) := by decide +kernel
theorem dX7_between_213 : decode cX7_between 213 = .ok (.iload 6, 2) := by decide +kernel
theorem dX7_between_215 : decode cX7_between 215 = .ok (.iconst 1, 1) := by decide +kernel
theorem dX7_between_216 : decode cX7_between 216 = .ok (.iadd, 1) := by decide +kernel
theorem dX7_between_217 : decode cX7_between 217 = .ok (.goto 10, 3) := by decide +kernel
theorem dX7_between_220 : decode cX7_between 220 = .ok (.aload_n 0, 1) := by decide +kernel
theorem dX7_between_221 : decode cX7_between 221 = .ok (.getfield 28, 3) := by decide +kernel
theorem dX7_between_224 : decode cX7_between 224 = .ok (.iload 9, 2) := by decide +kernel
theorem dX7_between_226 : decode cX7_between 226 = .ok (.iaload, 1) := by decide +kernel
theorem dX7_between_227 : decode cX7_between 227 = .ok (.iastore, 1) := by decide +kernel
theorem dX7_between_228 : decode cX7_between 228 = .ok (.iinc 7 1, 3) := by decide +kernel
theorem dX7_between_231 : decode cX7_between 231 = .ok (.goto (-83), 3) := by decide +kernel
theorem dX7_between_234 : decode cX7_between 234 = .ok (.iinc 6 1, 3) := by decide +kernel
theorem dX7_between_237 : decode cX7_between 237 = .ok (.goto (-141), 3) := by decide +kernel
theorem dX7_between_240 : decode cX7_between 240 = .ok (.bipush (-5), 2) := by decide +kernel
theorem dX7_between_242 : decode cX7_between 242 = .ok (.ireturn, 1) := by decide +kernel
set_option maxRecDepth 20000 in
theorem ggX7_counts_X7_clash : GoodIn wsX7_counts wsX7_clash := goodIn_r _ [8, 1, 9, 10, 11, 7, 12, 13, 14, 15, 16, 17, 18, 19, 20, 21, 22, 23, 24, 25, 26] (by decide +kernel) (by decide +kernel)
set_option maxRecDepth 20000 in
theorem gX7_counts_X7_clash : GoodIn wsX7_counts (wsV RX7 60 RX7 yX7_clash wsX7_clash) := goodIn_app (goodIn_of _ (by decide +kernel)) ggX7_counts_X7_clash
theorem dX7_counts_0 : decode cX7_counts 0 = .ok (.iconst 2, 1) := by decide +kernel
theorem dX7_counts_1 : decode cX7_counts 1 = .ok (.aload_n 0, 1) := by decide +kernel
theorem dX7_counts_2 : decode cX7_counts 2 = .ok (.getfield 7, 3) := by decide +kernel
theorem dX7_counts_5 : decode cX7_counts 5 = .ok (.iconst 1, 1) := by decide +kernel
theorem dX7_counts_6 : decode cX7_counts 6 = .ok (.iaload, 1) := by decide +kernel
theorem dX7_counts_7 : decode cX7_counts 7 = .ok (.imul, 1) := by decide +kernel
theorem dX7_counts_8 : decode cX7_counts 8 = .ok (.istore_n 2, 1) := by decide +kernel
theorem dX7_counts_9 : decode cX7_counts 9 = .ok (.iconst 0, 1) := by decide +kernel
theorem dX7_counts_10 : decode cX7_counts 10 = .ok (.istore_n 3, 1) := by decide +kernel
theorem dX7_counts_11 : decode cX7_counts 11 = .ok (.iload_n 3, 1) := by decide +kernel
theorem dX7_counts_12 : decode cX7_counts 12 = .ok (.iload_n 2, 1) := by decide +kernel
theorem dX7_counts_13 : decode cX7_counts 13 = .ok (.if_icmp .ge 16, 3) := by decide +kernel
theorem dX7_counts_16 : decode cX7_counts 16 = .ok (.aload_n 0, 1) := by decide +kernel
theorem dX7_counts_17 : decode cX7_counts 17 = .ok (.getfield 31, 3) := by decide +kernel
theorem dX7_counts_20 : decode cX7_counts 20 = .ok (.iload_n 3, 1) := by decide +kernel
theorem dX7_counts_21 : decode cX7_counts 21 = .ok (.iconst 1, 1) := by decide +kernel
theorem dX7_counts_22 : decode cX7_counts 22 = .ok (.iastore, 1) := by decide +kernel
theorem dX7_counts_23 : decode cX7_counts 23 = .ok (.iinc 3 1, 3) := by decide +kernel
theorem dX7_counts_26 : decode cX7_counts 26 = .ok (.goto (-15), 3) := by decide +kernel
theorem dX7_counts_29 : decode cX7_counts 29 = .ok (.iconst 1, 1) := by decide +kernel
theorem dX7_counts_30 : decode cX7_counts 30 = .ok (.istore_n 3, 1) := by decide +kernel
theorem dX7_counts_31 : decode cX7_counts 31 = .ok (.iload_n 3, 1) := by decide +kernel
theorem dX7_counts_32 : decode cX7_counts 32 = .ok (.iload_n 1, 1) := by decide +kernel
theorem dX7_counts_33 : decode cX7_counts 33 = .ok (.if_icmp .ge 108, 3) := by decide +kernel
theorem dX7_counts_36 : decode cX7_counts 36 = .ok (.iconst 0, 1) := by decide +kernel
theorem dX7_counts_37 : decode cX7_counts 37 = .ok (.istore 4, 2) := by decide +kernel
theorem dX7_counts_39 : decode cX7_counts 39 = .ok (.iload 4, 2) := by decide +kernel
theorem dX7_counts_41 : decode cX7_counts 41 = .ok (.iload_n 2, 1) := by decide +kernel
theorem dX7_counts_42 : decode cX7_counts 42 = .ok (.if_icmp .ge 64, 3) := by decide +kernel
theorem dX7_counts_45 : decode cX7_counts 45 = .ok (.aload_n 0, 1) := by decide +kernel
theorem dX7_counts_46 : decode cX7_counts 46 = .ok (.getfield 34, 3) := by decide +kernel
theorem dX7_counts_49 : decode cX7_counts 49 = .ok (.iload 4, 2) := by decide +kernel
theorem dX7_counts_51 : decode cX7_counts 51 = .ok (.iconst 0, 1) := by decide +kernel
theorem dX7_counts_52 : decode cX7_counts 52 = .ok (.iastore, 1) := by decide +kernel
theorem dX7_counts_53 : decode cX7_counts 53 = .ok (.iconst 0, 1) := by decide +kernel
theorem dX7_counts_54 : decode cX7_counts 54 = .ok (.istore 5, 2) := by decide +kernel
theorem dX7_counts_56 : decode cX7_counts 56 = .ok (.iload 5, 2) := by decide +kernel
theorem dX7_counts_58 : decode cX7_counts 58 = .ok (.iload_n 2, 1) := by decide +kernel
theorem dX7_counts_59 : decode cX7_counts 59 = .ok (.if_icmp .ge 41, 3) := by decide +kernel
theorem dX7_counts_62 : decode cX7_counts 62 = .ok (.aload_n 0, 1) := by decide +kernel
theorem dX7_counts_63 : decode cX7_counts 63 = .ok (.getfield 34, 3) := by decide +kernel
theorem dX7_counts_66 : decode cX7_counts 66 = .ok (.iload 4, 2) := by decide +kernel
theorem dX7_counts_68 : decode cX7_counts 68 = .ok (.dup2, 1) := by decide +kernel
theorem dX7_counts_69 : decode cX7_counts 69 = .ok (.iaload, 1) := by decide +kernel
theorem dX7_counts_70 : decode cX7_counts 70 = .ok (.aload_n 0, 1) := by decide +kernel
theorem dX7_counts_71 : decode cX7_counts 71 = .ok (.iload 5, 2) := by decide +kernel
theorem dX7_counts_73 : decode cX7_counts 73 = .ok (.iload 4, 2) := by decide +kernel
theorem dX7_counts_75 : decode cX7_counts 75 = .ok (.invokevirtual 60, 3) := by decide +kernel
theorem dX7_counts_78 : decode cX7_counts 78 = .ok (.ifCond .eq 7, 3) := by decide +kernel
theorem dX7_counts_81 : decode cX7_counts 81 = .ok (.iconst 0, 1) := by decide +kernel
theorem dX7_counts_82 : decode cX7_counts 82 = .ok (.goto 10, 3) := by decide +kernel
theorem dX7_counts_85 : decode cX7_counts 85 = .ok (.aload_n 0, 1) := by decide +kernel
theorem dX7_counts_86 : decode cX7_counts 86 = .ok (.getfield 31, 3) := by decide +kernel
theorem dX7_counts_89 : decode cX7_counts 89 = .ok (.iload 5, 2) := by decide +kernel
theorem dX7_counts_91 : decode cX7_counts 91 = .ok (.iaload, 1) := by decide +kernel
theorem dX7_counts_92 : decode cX7_counts 92 = .ok (.iadd, 1) := by decide +kernel
theorem dX7_counts_93 : decode cX7_counts 93 = .ok (.iastore, 1) := by decide +kernel
theorem dX7_counts_94 : decode cX7_counts 94 = .ok (.iinc 5 1, 3) := by decide +kernel
theorem dX7_counts_97 : decode cX7_counts 97 = .ok (.goto (-41), 3) := by decide +kernel
theorem dX7_counts_100 : decode cX7_counts 100 = .ok (.iinc 4 1, 3) := by decide +kernel
theorem dX7_counts_103 : decode cX7_counts 103 = .ok (.goto (-64), 3) := by decide +kernel
theorem dX7_counts_106 : decode cX7_counts 106 = .ok (.iconst 0, 1) := by decide +kernel
theorem dX7_counts_107 : decode cX7_counts 107 = .ok (.istore 4, 2) := by decide +kernel
theorem dX7_counts_109 : decode cX7_counts 109 = .ok (.iload 4, 2) := by decide +kernel
theorem dX7_counts_111 : decode cX7_counts 111 = .ok (.iload_n 2, 1) := by decide +kernel
theorem dX7_counts_112 : decode cX7_counts 112 = .ok (.if_icmp .ge 23, 3) := by decide +kernel
theorem dX7_counts_115 : decode cX7_counts 115 = .ok (.aload_n 0, 1) := by decide +kernel
theorem dX7_counts_116 : decode cX7_counts 116 = .ok (.getfield 31, 3) := by decide +kernel
theorem dX7_counts_119 : decode cX7_counts 119 = .ok (.iload 4, 2) := by decide +kernel
theorem dX7_counts_121 : decode cX7_counts 121 = .ok (.aload_n 0, 1) := by decide +kernel
theorem dX7_counts_122 : decode cX7_counts 122 = .ok (.getfield 34, 3) := by decide +kernel
theorem dX7_counts_125 : decode cX7_counts 125 = .ok (.iload 4, 2) := by decide +kernel
theorem dX7_counts_127 : decode cX7_counts 127 = .ok (.iaload, 1) := by decide +kernel
theorem dX7_counts_128 : decode cX7_counts 128 = .ok (.iastore, 1) := by decide +kernel
theorem dX7_counts_129 : decode cX7_counts 129 = .ok (.iinc 4 1, 3) := by decide +kernel
theorem dX7_counts_132 : decode cX7_counts 132 = .ok (.goto (-23), 3) := by decide +kernel
theorem dX7_counts_135 : decode cX7_counts 135 = .ok (.iinc 3 1, 3) := by decide +kernel
theorem dX7_counts_138 : decode cX7_counts 138 = .ok (.goto (-107), 3) := by decide +kernel
theorem dX7_counts_141 : decode cX7_counts 141 = .ok (.return_, 1) := by decide +kernel
set_option maxRecDepth 20000 in
theorem ggX7_allOf_X7_counts : GoodIn wsX7_allOf wsX7_counts := goodIn_r _ [7, 1, 2, 8, 9, 10, 11, 6, 12, 13, 14, 15, 16, 17, 18, 19, 20, 21, 22, 23, 24, 25, 26, 27, 28, 29, 30] (by decide +kernel) (by decide +kernel)
set_option maxRecDepth 20000 in
theorem gX7_allOf_X7_counts : GoodIn wsX7_allOf (wsV RX7 163 RX7 yX7_counts wsX7_counts) := goodIn_app (goodIn_of _ (by decide +kernel)) ggX7_allOf_X7_counts
theorem dX7_allOf_0 : decode cX7_allOf 0 = .ok (.aload_n 0, 1) := by decide +kernel
theorem dX7_allOf_1 : decode cX7_allOf 1 = .ok (.iload_n 1, 1) := by decide +kernel
theorem dX7_allOf_2 : decode cX7_allOf 2 = .ok (.invokevirtual 163, 3) := by decide +kernel
theorem dX7_allOf_5 : decode cX7_allOf 5 = .ok (.iconst 0, 1) := by decide +kernel
theorem dX7_allOf_6 : decode cX7_allOf 6 = .ok (.istore_n 2, 1) := by decide +kernel
theorem dX7_allOf_7 : decode cX7_allOf 7 = .ok (.iconst 0, 1) := by decide +kernel
theorem dX7_allOf_8 : decode cX7_allOf 8 = .ok (.istore_n 3, 1) := by decide +kernel
theorem dX7_allOf_9 : decode cX7_allOf 9 = .ok (.iload_n 3, 1) := by decide +kernel
theorem dX7_allOf_10 : decode cX7_allOf 10 = .ok (.iconst 2, 1) := by decide +kernel
theorem dX7_allOf_11 : decode cX7_allOf 11 = .ok (.aload_n 0, 1) := by decide +kernel
theorem dX7_allOf_12 : decode cX7_allOf 12 = .ok (.getfield 7, 3) := by decide +kernel
theorem dX7_allOf_15 : decode cX7_allOf 15 = .ok (.iconst 1, 1) := by decide +kernel
theorem dX7_allOf_16 : decode cX7_allOf 16 = .ok (.iaload, 1) := by decide +kernel
theorem dX7_allOf_17 : decode cX7_allOf 17 = .ok (.imul, 1) := by decide +kernel
theorem dX7_allOf_18 : decode cX7_allOf 18 = .ok (.if_icmp .ge 18, 3) := by decide +kernel
theorem dX7_allOf_21 : decode cX7_allOf 21 = .ok (.iload_n 2, 1) := by decide +kernel
theorem dX7_allOf_22 : decode cX7_allOf 22 = .ok (.aload_n 0, 1) := by decide +kernel
theorem dX7_allOf_23 : decode cX7_allOf 23 = .ok (.getfield 31, 3) := by decide +kernel
theorem dX7_allOf_26 : decode cX7_allOf 26 = .ok (.iload_n 3, 1) := by decide +kernel
theorem dX7_allOf_27 : decode cX7_allOf 27 = .ok (.iaload, 1) := by decide +kernel
theorem dX7_allOf_28 : decode cX7_allOf 28 = .ok (.iadd, 1) := by decide +kernel
theorem dX7_allOf_29 : decode cX7_allOf 29 = .ok (.istore_n 2, 1) := by decide +kernel
theorem dX7_allOf_30 : decode cX7_allOf 30 = .ok (.iinc 3 1, 3) := by decide +kernel
theorem dX7_allOf_33 : decode cX7_allOf 33 = .ok (.goto (-24), 3) := by decide +kernel
theorem dX7_allOf_36 : decode cX7_allOf 36 = .ok (.iload_n 2, 1) := by decide +kernel
theorem dX7_allOf_37 : decode cX7_allOf 37 = .ok (.ireturn, 1) := by decide +kernel
set_option maxRecDepth 20000 in
theorem ggX7_ownImages_X7_counts : GoodIn wsX7_ownImages wsX7_counts := goodIn_r _ [7, 1, 2, 8, 9, 10, 11, 6, 12, 13, 14, 15, 16, 17, 18, 19, 20, 21, 22, 23, 24, 25, 26, 27, 28, 29, 30] (by decide +kernel) (by decide +kernel)
set_option maxRecDepth 20000 in
theorem gX7_ownImages_X7_counts : GoodIn wsX7_ownImages (wsV RX7 163 RX7 yX7_counts wsX7_counts) := goodIn_app (goodIn_of _ (by decide +kernel)) ggX7_ownImages_X7_counts
set_option maxRecDepth 20000 in
theorem ggX7_ownImages_X7_clash : GoodIn wsX7_ownImages wsX7_clash := goodIn_r _ [12, 1, 13, 14, 15, 6, 16, 17, 18, 19, 20, 21, 22, 23, 24, 25, 26, 27, 28, 29, 30] (by decide +kernel) (by decide +kernel)
set_option maxRecDepth 20000 in
theorem gX7_ownImages_X7_clash : GoodIn wsX7_ownImages (wsV RX7 60 RX7 yX7_clash wsX7_clash) := goodIn_app (goodIn_of _ (by decide +kernel)) ggX7_ownImages_X7_clash
theorem dX7_ownImages_0 : decode cX7_ownImages 0 = .ok (.iload_n 1, 1) := by decide +kernel
theorem dX7_ownImages_1 : decode cX7_ownImages 1 = .ok (.iconst 2, 1) := by decide +kernel
theorem dX7_ownImages_2 : decode cX7_ownImages 2 = .ok (.irem, 1) := by decide +kernel
theorem dX7_ownImages_3 : decode cX7_ownImages 3 = .ok (.iconst 1, 1) := by decide +kernel
theorem dX7_ownImages_4 : decode cX7_ownImages 4 = .ok (.if_icmp .ne 5, 3) := by decide +kernel
theorem dX7_ownImages_7 : decode cX7_ownImages 7 = .ok (.iconst 0, 1) := by decide +kernel
theorem dX7_ownImages_8 : decode cX7_ownImages 8 = .ok (.ireturn, 1) := by decide +kernel
theorem dX7_ownImages_9 : decode cX7_ownImages 9 = .ok (.aload_n 0, 1) := by decide +kernel
theorem dX7_ownImages_10 : decode cX7_ownImages 10 = .ok (.iload_n 1, 1) := by decide +kernel
theorem dX7_ownImages_11 : decode cX7_ownImages 11 = .ok (.iconst 2, 1) := by decide +kernel
theorem dX7_ownImages_12 : decode cX7_ownImages 12 = .ok (.idiv, 1) := by decide +kernel
theorem dX7_ownImages_13 : decode cX7_ownImages 13 = .ok (.invokevirtual 163, 3) := by decide +kernel
theorem dX7_ownImages_16 : decode cX7_ownImages 16 = .ok (.iconst 0, 1) := by decide +kernel
theorem dX7_ownImages_17 : decode cX7_ownImages 17 = .ok (.istore_n 2, 1) := by decide +kernel
theorem dX7_ownImages_18 : decode cX7_ownImages 18 = .ok (.iconst 0, 1) := by decide +kernel
theorem dX7_ownImages_19 : decode cX7_ownImages 19 = .ok (.istore_n 3, 1) := by decide +kernel
theorem dX7_ownImages_20 : decode cX7_ownImages 20 = .ok (.iload_n 3, 1) := by decide +kernel
theorem dX7_ownImages_21 : decode cX7_ownImages 21 = .ok (.iconst 2, 1) := by decide +kernel
theorem dX7_ownImages_22 : decode cX7_ownImages 22 = .ok (.aload_n 0, 1) := by decide +kernel
theorem dX7_ownImages_23 : decode cX7_ownImages 23 = .ok (.getfield 7, 3) := by decide +kernel
theorem dX7_ownImages_26 : decode cX7_ownImages 26 = .ok (.iconst 1, 1) := by decide +kernel
theorem dX7_ownImages_27 : decode cX7_ownImages 27 = .ok (.iaload, 1) := by decide +kernel
theorem dX7_ownImages_28 : decode cX7_ownImages 28 = .ok (.imul, 1) := by decide +kernel
theorem dX7_ownImages_29 : decode cX7_ownImages 29 = .ok (.if_icmp .ge 33, 3) := by decide +kernel
theorem dX7_ownImages_32 : decode cX7_ownImages 32 = .ok (.iload_n 2, 1) := by decide +kernel
theorem dX7_ownImages_33 : decode cX7_ownImages 33 = .ok (.aload_n 0, 1) := by decide +kernel
theorem dX7_ownImages_34 : decode cX7_ownImages 34 = .ok (.iload_n 3, 1) := by decide +kernel
theorem dX7_ownImages_35 : decode cX7_ownImages 35 = .ok (.iload_n 3, 1) := by decide +kernel
theorem dX7_ownImages_36 : decode cX7_ownImages 36 = .ok (.iconst 1, 1) := by decide +kernel
theorem dX7_ownImages_37 : decode cX7_ownImages 37 = .ok (.ixor, 1) := by decide +kernel
theorem dX7_ownImages_38 : decode cX7_ownImages 38 = .ok (.invokevirtual 60, 3) := by decide +kernel
theorem dX7_ownImages_41 : decode cX7_ownImages 41 = .ok (.ifCond .eq 7, 3) := by decide +kernel
theorem dX7_ownImages_44 : decode cX7_ownImages 44 = .ok (.iconst 0, 1) := by decide +kernel
theorem dX7_ownImages_45 : decode cX7_ownImages 45 = .ok (.goto 9, 3) := by decide +kernel
theorem dX7_ownImages_48 : decode cX7_ownImages 48 = .ok (.aload_n 0, 1) := by decide +kernel
theorem dX7_ownImages_49 : decode cX7_ownImages 49 = .ok (.getfield 31, 3) := by decide +kernel
theorem dX7_ownImages_52 : decode cX7_ownImages 52 = .ok (.iload_n 3, 1) := by decide +kernel
theorem dX7_ownImages_53 : decode cX7_ownImages 53 = .ok (.iaload, 1) := by decide +kernel
theorem dX7_ownImages_54 : decode cX7_ownImages 54 = .ok (.iadd, 1) := by decide +kernel
theorem dX7_ownImages_55 : decode cX7_ownImages 55 = .ok (.istore_n 2, 1) := by decide +kernel
theorem dX7_ownImages_56 : decode cX7_ownImages 56 = .ok (.iinc 3 1, 3) := by decide +kernel
theorem dX7_ownImages_59 : decode cX7_ownImages 59 = .ok (.goto (-39), 3) := by decide +kernel
theorem dX7_ownImages_62 : decode cX7_ownImages 62 = .ok (.iload_n 2, 1) := by decide +kernel
theorem dX7_ownImages_63 : decode cX7_ownImages 63 = .ok (.ireturn, 1) := by decide +kernel
set_option maxRecDepth 20000 in
theorem ggX7_ways_X7_in : GoodIn wsX7_ways wsX7_in := goodIn_r _ [6] (by decide +kernel) (by decide +kernel)
set_option maxRecDepth 20000 in
theorem gX7_ways_X7_in : GoodIn wsX7_ways (va_wsS RX7 47 yX7_in wsX7_in) := goodIn_app (goodIn_of _ (by decide +kernel)) ggX7_ways_X7_in
set_option maxRecDepth 20000 in
theorem ggX7_ways_X7_allOf : GoodIn wsX7_ways wsX7_allOf := goodIn_r _ [10, 11, 12, 13, 14, 15, 5, 16, 17, 18, 19, 20, 21, 22, 23, 24, 25, 30, 31, 32, 33, 34, 35, 36, 37, 38, 39, 40, 41, 42, 43] (by decide +kernel) (by decide +kernel)
set_option maxRecDepth 20000 in
theorem gX7_ways_X7_allOf : GoodIn wsX7_ways (wsV RX7 168 RX7 yX7_allOf wsX7_allOf) := goodIn_app (goodIn_of _ (by decide +kernel)) ggX7_ways_X7_allOf
set_option maxRecDepth 20000 in
theorem ggX7_ways_X7_ownImages : GoodIn wsX7_ways wsX7_ownImages := goodIn_r _ [29, 11, 12, 13, 14, 15, 5, 16, 17, 18, 19, 20, 21, 22, 23, 24, 25, 30, 31, 32, 33, 34, 35, 36, 37, 38, 39, 40, 41, 42, 43] (by decide +kernel) (by decide +kernel)
set_option maxRecDepth 20000 in
theorem gX7_ways_X7_ownImages : GoodIn wsX7_ways (wsV RX7 171 RX7 yX7_ownImages wsX7_ownImages) := goodIn_app (goodIn_of _ (by decide +kernel)) ggX7_ways_X7_ownImages
theorem dX7_ways_0 : decode cX7_ways 0 = .ok (.iload_n 1, 1) := by decide +kernel
theorem dX7_ways_1 : decode cX7_ways 1 = .ok (.i2l, 1) := by decide +kernel
theorem dX7_ways_2 : decode cX7_ways 2 = .ok (.lconst 1, 1) := by decide +kernel
theorem dX7_ways_3 : decode cX7_ways 3 = .ok (.ldc2_w 166, 3) := by decide +kernel
theorem dX7_ways_6 : decode cX7_ways 6 = .ok (.invokestatic 47, 3) := by decide +kernel
theorem dX7_ways_9 : decode cX7_ways 9 = .ok (.ifCond .eq 15, 3) := by decide +kernel
theorem dX7_ways_12 : decode cX7_ways 12 = .ok (.iload_n 2, 1) := by decide +kernel
theorem dX7_ways_13 : decode cX7_ways 13 = .ok (.i2l, 1) := by decide +kernel
theorem dX7_ways_14 : decode cX7_ways 14 = .ok (.lconst 0, 1) := by decide +kernel
theorem dX7_ways_15 : decode cX7_ways 15 = .ok (.ldc2_w 92, 3) := by decide +kernel
theorem dX7_ways_18 : decode cX7_ways 18 = .ok (.invokestatic 47, 3) := by decide +kernel
theorem dX7_ways_21 : decode cX7_ways 21 = .ok (.ifCond .ne 6, 3) := by decide +kernel
theorem dX7_ways_24 : decode cX7_ways 24 = .ok (.bipush (-2), 2) := by decide +kernel
theorem dX7_ways_26 : decode cX7_ways 26 = .ok (.ireturn, 1) := by decide +kernel
theorem dX7_ways_27 : decode cX7_ways 27 = .ok (.iload_n 2, 1) := by decide +kernel
theorem dX7_ways_28 : decode cX7_ways 28 = .ok (.ifCond .ne 11, 3) := by decide +kernel
theorem dX7_ways_31 : decode cX7_ways 31 = .ok (.aload_n 0, 1) := by decide +kernel
theorem dX7_ways_32 : decode cX7_ways 32 = .ok (.iload_n 1, 1) := by decide +kernel
theorem dX7_ways_33 : decode cX7_ways 33 = .ok (.invokevirtual 168, 3) := by decide +kernel
theorem dX7_ways_36 : decode cX7_ways 36 = .ok (.goto 29, 3) := by decide +kernel
theorem dX7_ways_39 : decode cX7_ways 39 = .ok (.iload_n 2, 1) := by decide +kernel
theorem dX7_ways_40 : decode cX7_ways 40 = .ok (.iconst 1, 1) := by decide +kernel
theorem dX7_ways_41 : decode cX7_ways 41 = .ok (.if_icmp .ne 11, 3) := by decide +kernel
theorem dX7_ways_44 : decode cX7_ways 44 = .ok (.aload_n 0, 1) := by decide +kernel
theorem dX7_ways_45 : decode cX7_ways 45 = .ok (.iload_n 1, 1) := by decide +kernel
theorem dX7_ways_46 : decode cX7_ways 46 = .ok (.invokevirtual 171, 3) := by decide +kernel
theorem dX7_ways_49 : decode cX7_ways 49 = .ok (.goto 16, 3) := by decide +kernel
theorem dX7_ways_52 : decode cX7_ways 52 = .ok (.aload_n 0, 1) := by decide +kernel
theorem dX7_ways_53 : decode cX7_ways 53 = .ok (.iload_n 1, 1) := by decide +kernel
theorem dX7_ways_54 : decode cX7_ways 54 = .ok (.invokevirtual 168, 3) := by decide +kernel
theorem dX7_ways_57 : decode cX7_ways 57 = .ok (.aload_n 0, 1) := by decide +kernel
theorem dX7_ways_58 : decode cX7_ways 58 = .ok (.iload_n 1, 1) := by decide +kernel
theorem dX7_ways_59 : decode cX7_ways 59 = .ok (.invokevirtual 171, 3) := by decide +kernel
theorem dX7_ways_62 : decode cX7_ways 62 = .ok (.iadd, 1) := by decide +kernel
theorem dX7_ways_63 : decode cX7_ways 63 = .ok (.iconst 2, 1) := by decide +kernel
theorem dX7_ways_64 : decode cX7_ways 64 = .ok (.idiv, 1) := by decide +kernel
theorem dX7_ways_65 : decode cX7_ways 65 = .ok (.ireturn, 1) := by decide +kernel
set_option maxRecDepth 20000 in
theorem ggX7_longest_X7_isGarland : GoodIn wsX7_longest wsX7_isGarland := goodIn_r _ [6, 7, 1, 8, 9, 5, 10, 11, 12, 13, 14, 15, 16, 17, 18, 19, 20, 21, 22, 23, 24] (by decide +kernel) (by decide +kernel)
set_option maxRecDepth 20000 in
theorem gX7_longest_X7_isGarland : GoodIn wsX7_longest (wsV RX7 103 RX7 yX7_isGarland wsX7_isGarland) := goodIn_app (goodIn_of _ (by decide +kernel)) ggX7_longest_X7_isGarland
theorem dX7_longest_0 : decode cX7_longest 0 = .ok (.bipush (-5), 2) := by decide +kernel
theorem dX7_longest_2 : decode cX7_longest 2 = .ok (.istore_n 1, 1) := by decide +kernel
theorem dX7_longest_3 : decode cX7_longest 3 = .ok (.iconst 0, 1) := by decide +kernel
theorem dX7_longest_4 : decode cX7_longest 4 = .ok (.istore_n 2, 1) := by decide +kernel
theorem dX7_longest_5 : decode cX7_longest 5 = .ok (.iload_n 2, 1) := by decide +kernel
theorem dX7_longest_6 : decode cX7_longest 6 = .ok (.bipush 8, 2) := by decide +kernel
theorem dX7_longest_8 : decode cX7_longest 8 = .ok (.if_icmp .ge 50, 3) := by decide +kernel
theorem dX7_longest_11 : decode cX7_longest 11 = .ok (.aload_n 0, 1) := by decide +kernel
theorem dX7_longest_12 : decode cX7_longest 12 = .ok (.iload_n 2, 1) := by decide +kernel
theorem dX7_longest_13 : decode cX7_longest 13 = .ok (.invokevirtual 103, 3) := by decide +kernel
theorem dX7_longest_16 : decode cX7_longest 16 = .ok (.ifCond .eq 34, 3) := by decide +kernel
theorem dX7_longest_19 : decode cX7_longest 19 = .ok (.iload_n 1, 1) := by decide +kernel
theorem dX7_longest_20 : decode cX7_longest 20 = .ok (.bipush (-5), 2) := by decide +kernel
theorem dX7_longest_22 : decode cX7_longest 22 = .ok (.if_icmp .eq 24, 3) := by decide +kernel
theorem dX7_longest_25 : decode cX7_longest 25 = .ok (.aload_n 0, 1) := by decide +kernel
theorem dX7_longest_26 : decode cX7_longest 26 = .ok (.getfield 7, 3) := by decide +kernel
theorem dX7_longest_29 : decode cX7_longest 29 = .ok (.bipush 22, 2) := by decide +kernel
theorem dX7_longest_31 : decode cX7_longest 31 = .ok (.iload_n 2, 1) := by decide +kernel
theorem dX7_longest_32 : decode cX7_longest 32 = .ok (.iadd, 1) := by decide +kernel
theorem dX7_longest_33 : decode cX7_longest 33 = .ok (.iaload, 1) := by decide +kernel
theorem dX7_longest_34 : decode cX7_longest 34 = .ok (.aload_n 0, 1) := by decide +kernel
theorem dX7_longest_35 : decode cX7_longest 35 = .ok (.getfield 7, 3) := by decide +kernel
theorem dX7_longest_38 : decode cX7_longest 38 = .ok (.bipush 22, 2) := by decide +kernel
theorem dX7_longest_40 : decode cX7_longest 40 = .ok (.iload_n 1, 1) := by decide +kernel
theorem dX7_longest_41 : decode cX7_longest 41 = .ok (.iadd, 1) := by decide +kernel
theorem dX7_longest_42 : decode cX7_longest 42 = .ok (.iaload, 1) := by decide +kernel
theorem dX7_longest_43 : decode cX7_longest 43 = .ok (.if_icmp .le 7, 3) := by decide +kernel
theorem dX7_longest_46 : decode cX7_longest 46 = .ok (.iload_n 2, 1) := by decide +kernel
theorem dX7_longest_47 : decode cX7_longest 47 = .ok (.goto 4, 3) := by decide +kernel
theorem dX7_longest_50 : decode cX7_longest 50 = .ok (.iload_n 1, 1) := by decide +kernel
theorem dX7_longest_51 : decode cX7_longest 51 = .ok (.istore_n 1, 1) := by decide +kernel
theorem dX7_longest_52 : decode cX7_longest 52 = .ok (.iinc 2 1, 3) := by decide +kernel
theorem dX7_longest_55 : decode cX7_longest 55 = .ok (.goto (-50), 3) := by decide +kernel
theorem dX7_longest_58 : decode cX7_longest 58 = .ok (.iload_n 1, 1) := by decide +kernel
theorem dX7_longest_59 : decode cX7_longest 59 = .ok (.ireturn, 1) := by decide +kernel
set_option maxRecDepth 20000 in
theorem ggX7_over_X7_isGarland : GoodIn wsX7_over wsX7_isGarland := goodIn_r _ [6, 7, 1, 8, 9, 5, 10, 43, 44, 45, 46, 47, 48, 49, 50, 51, 52, 53, 54, 55, 56] (by decide +kernel) (by decide +kernel)
set_option maxRecDepth 20000 in
theorem gX7_over_X7_isGarland : GoodIn wsX7_over (wsV RX7 103 RX7 yX7_isGarland wsX7_isGarland) := goodIn_app (goodIn_of _ (by decide +kernel)) ggX7_over_X7_isGarland
set_option maxRecDepth 20000 in
theorem ggX7_over_X7_mirroredIn : GoodIn wsX7_over wsX7_mirroredIn := goodIn_r _ [14, 1, 15, 16, 17, 5, 18, 43, 44, 45, 46, 47, 48, 49, 50, 51, 52, 53, 54, 55, 56] (by decide +kernel) (by decide +kernel)
set_option maxRecDepth 20000 in
theorem gX7_over_X7_mirroredIn : GoodIn wsX7_over (wsV RX7 116 RX7 yX7_mirroredIn wsX7_mirroredIn) := goodIn_app (goodIn_of _ (by decide +kernel)) ggX7_over_X7_mirroredIn
set_option maxRecDepth 20000 in
theorem ggX7_over_X7_isOwnImage : GoodIn wsX7_over wsX7_isOwnImage := goodIn_r _ [22, 23, 24, 25, 5, 26, 1, 15, 16, 17, 18, 27, 28, 29, 30, 43, 44, 45, 46, 47, 48, 49, 50, 51, 52, 53, 54, 55, 56] (by decide +kernel) (by decide +kernel)
set_option maxRecDepth 20000 in
theorem gX7_over_X7_isOwnImage : GoodIn wsX7_over (wsV RX7 113 RX7 yX7_isOwnImage wsX7_isOwnImage) := goodIn_app (goodIn_of _ (by decide +kernel)) ggX7_over_X7_isOwnImage
set_option maxRecDepth 20000 in
theorem ggX7_over_X7_meeting : GoodIn wsX7_over wsX7_meeting := goodIn_r _ [34, 1, 15, 16, 17, 5, 18, 35, 36, 37, 38, 43, 44, 45, 46, 47, 48, 49, 50, 51, 52, 53, 54, 55, 56] (by decide +kernel) (by decide +kernel)
set_option maxRecDepth 20000 in
theorem gX7_over_X7_meeting : GoodIn wsX7_over (wsV RX7 174 RX7 yX7_meeting wsX7_meeting) := goodIn_app (goodIn_of _ (by decide +kernel)) ggX7_over_X7_meeting
set_option maxRecDepth 20000 in
theorem ggX7_over_X7_firstLike : GoodIn wsX7_over wsX7_firstLike := goodIn_r _ [42, 23, 24, 25, 5, 26, 1, 15, 16, 17, 18, 27, 28, 29, 30, 43, 44, 45, 46, 47, 48, 49, 50, 51, 52, 53, 54, 55, 56] (by decide +kernel) (by decide +kernel)
set_option maxRecDepth 20000 in
theorem gX7_over_X7_firstLike : GoodIn wsX7_over (wsV RX7 160 RX7 yX7_firstLike wsX7_firstLike) := goodIn_app (goodIn_of _ (by decide +kernel)) ggX7_over_X7_firstLike
theorem dX7_over_0 : decode cX7_over 0 = .ok (.iconst 0, 1) := by decide +kernel
theorem dX7_over_1 : decode cX7_over 1 = .ok (.istore_n 2, 1) := by decide +kernel
theorem dX7_over_2 : decode cX7_over 2 = .ok (.iconst 0, 1) := by decide +kernel
theorem dX7_over_3 : decode cX7_over 3 = .ok (.istore_n 3, 1) := by decide +kernel
theorem dX7_over_4 : decode cX7_over 4 = .ok (.iload_n 3, 1) := by decide +kernel
theorem dX7_over_5 : decode cX7_over 5 = .ok (.bipush 8, 2) := by decide +kernel
theorem dX7_over_7 : decode cX7_over 7 = .ok (.if_icmp .ge 107, 3) := by decide +kernel
theorem dX7_over_10 : decode cX7_over 10 = .ok (.aload_n 0, 1) := by decide +kernel
theorem dX7_over_11 : decode cX7_over 11 = .ok (.iload_n 3, 1) := by decide +kernel
theorem dX7_over_12 : decode cX7_over 12 = .ok (.invokevirtual 103, 3) := by decide +kernel
theorem dX7_over_15 : decode cX7_over 15 = .ok (.ifCond .eq 93, 3) := by decide +kernel
theorem dX7_over_18 : decode cX7_over 18 = .ok (.iload_n 2, 1) := by decide +kernel
theorem dX7_over_19 : decode cX7_over 19 = .ok (.iload_n 1, 1) := by decide +kernel
theorem dX7_over_20 : decode cX7_over 20 = .ok (.ifCond .ne 7, 3) := by decide +kernel
theorem dX7_over_23 : decode cX7_over 23 = .ok (.iconst 1, 1) := by decide +kernel
theorem dX7_over_24 : decode cX7_over 24 = .ok (.goto 82, 3) := by decide +kernel
theorem dX7_over_27 : decode cX7_over 27 = .ok (.iload_n 1, 1) := by decide +kernel
theorem dX7_over_28 : decode cX7_over 28 = .ok (.iconst 1, 1) := by decide +kernel
theorem dX7_over_29 : decode cX7_over 29 = .ok (.if_icmp .ne 15, 3) := by decide +kernel
theorem dX7_over_32 : decode cX7_over 32 = .ok (.aload_n 0, 1) := by decide +kernel
theorem dX7_over_33 : decode cX7_over 33 = .ok (.getfield 7, 3) := by decide +kernel
theorem dX7_over_36 : decode cX7_over 36 = .ok (.bipush 22, 2) := by decide +kernel
theorem dX7_over_38 : decode cX7_over 38 = .ok (.iload_n 3, 1) := by decide +kernel
theorem dX7_over_39 : decode cX7_over 39 = .ok (.iadd, 1) := by decide +kernel
theorem dX7_over_40 : decode cX7_over 40 = .ok (.iaload, 1) := by decide +kernel
theorem dX7_over_41 : decode cX7_over 41 = .ok (.goto 65, 3) := by decide +kernel
theorem dX7_over_44 : decode cX7_over 44 = .ok (.iload_n 1, 1) := by decide +kernel
theorem dX7_over_45 : decode cX7_over 45 = .ok (.iconst 2, 1) := by decide +kernel
theorem dX7_over_46 : decode cX7_over 46 = .ok (.if_icmp .ne 11, 3) := by decide +kernel
theorem dX7_over_49 : decode cX7_over 49 = .ok (.aload_n 0, 1) := by decide +kernel
theorem dX7_over_50 : decode cX7_over 50 = .ok (.iload_n 3, 1) := by decide +kernel
theorem dX7_over_51 : decode cX7_over 51 = .ok (.invokevirtual 116, 3) := by decide +kernel
theorem dX7_over_54 : decode cX7_over 54 = .ok (.goto 52, 3) := by decide +kernel
theorem dX7_over_57 : decode cX7_over 57 = .ok (.iload_n 1, 1) := by decide +kernel
theorem dX7_over_58 : decode cX7_over 58 = .ok (.iconst 3, 1) := by decide +kernel
theorem dX7_over_59 : decode cX7_over 59 = .ok (.if_icmp .ne 19, 3) := by decide +kernel
theorem dX7_over_62 : decode cX7_over 62 = .ok (.aload_n 0, 1) := by decide +kernel
theorem dX7_over_63 : decode cX7_over 63 = .ok (.iload_n 3, 1) := by decide +kernel
theorem dX7_over_64 : decode cX7_over 64 = .ok (.invokevirtual 113, 3) := by decide +kernel
theorem dX7_over_67 : decode cX7_over 67 = .ok (.ifCond .eq 7, 3) := by decide +kernel
theorem dX7_over_70 : decode cX7_over 70 = .ok (.iconst 1, 1) := by decide +kernel
theorem dX7_over_71 : decode cX7_over 71 = .ok (.goto 35, 3) := by decide +kernel
theorem dX7_over_74 : decode cX7_over 74 = .ok (.iconst 0, 1) := by decide +kernel
theorem dX7_over_75 : decode cX7_over 75 = .ok (.goto 31, 3) := by decide +kernel
theorem dX7_over_78 : decode cX7_over 78 = .ok (.iload_n 1, 1) := by decide +kernel
theorem dX7_over_79 : decode cX7_over 79 = .ok (.bipush 6, 2) := by decide +kernel
theorem dX7_over_81 : decode cX7_over 81 = .ok (.if_icmp .ne 11, 3) := by decide +kernel
theorem dX7_over_84 : decode cX7_over 84 = .ok (.aload_n 0, 1) := by decide +kernel
theorem dX7_over_85 : decode cX7_over 85 = .ok (.iload_n 3, 1) := by decide +kernel
theorem dX7_over_86 : decode cX7_over 86 = .ok (.invokevirtual 174, 3) := by decide +kernel
theorem dX7_over_89 : decode cX7_over 89 = .ok (.goto 17, 3) := by decide +kernel
theorem dX7_over_92 : decode cX7_over 92 = .ok (.aload_n 0, 1) := by decide +kernel
theorem dX7_over_93 : decode cX7_over 93 = .ok (.iload_n 3, 1) := by decide +kernel
theorem dX7_over_94 : decode cX7_over 94 = .ok (.invokevirtual 160, 3) := by decide +kernel
theorem dX7_over_97 : decode cX7_over 97 = .ok (.iload_n 3, 1) := by decide +kernel
theorem dX7_over_98 : decode cX7_over 98 = .ok (.if_icmp .ne 7, 3) := by decide +kernel
theorem dX7_over_101 : decode cX7_over 101 = .ok (.iconst 1, 1) := by decide +kernel
theorem dX7_over_102 : decode cX7_over 102 = .ok (.goto 4, 3) := by decide +kernel
theorem dX7_over_105 : decode cX7_over 105 = .ok (.iconst 0, 1) := by decide +kernel
theorem dX7_over_106 : decode cX7_over 106 = .ok (.iadd, 1) := by decide +kernel
theorem dX7_over_107 : decode cX7_over 107 = .ok (.istore_n 2, 1) := by decide +kernel
theorem dX7_over_108 : decode cX7_over 108 = .ok (.iinc 3 1, 3) := by decide +kernel
theorem dX7_over_111 : decode cX7_over 111 = .ok (.goto (-107), 3) := by decide +kernel
theorem dX7_over_114 : decode cX7_over 114 = .ok (.iload_n 2, 1) := by decide +kernel
theorem dX7_over_115 : decode cX7_over 115 = .ok (.ireturn, 1) := by decide +kernel
set_option maxRecDepth 20000 in
theorem ggX7_meeting_X7_dollAt : GoodIn wsX7_meeting wsX7_dollAt := goodIn_r _ [6, 1, 11, 12, 13, 14, 15, 16, 17, 18, 19, 20, 21, 22, 23, 24] (by decide +kernel) (by decide +kernel)
set_option maxRecDepth 20000 in
theorem gX7_meeting_X7_dollAt : GoodIn wsX7_meeting (wsV RX7 57 RX7 yX7_dollAt wsX7_dollAt) := goodIn_app (goodIn_of _ (by decide +kernel)) ggX7_meeting_X7_dollAt
set_option maxRecDepth 20000 in
theorem ggX7_meeting_X7_handOf : GoodIn wsX7_meeting wsX7_handOf := goodIn_r _ [10, 1, 11, 12, 13, 14, 15, 16, 17, 18, 19, 20, 21, 22, 23, 24] (by decide +kernel) (by decide +kernel)
set_option maxRecDepth 20000 in
theorem gX7_meeting_X7_handOf : GoodIn wsX7_meeting (wsV RX7 51 RX7 yX7_handOf wsX7_handOf) := goodIn_app (goodIn_of _ (by decide +kernel)) ggX7_meeting_X7_handOf
theorem dX7_meeting_0 : decode cX7_meeting 0 = .ok (.iconst 0, 1) := by decide +kernel
theorem dX7_meeting_1 : decode cX7_meeting 1 = .ok (.istore_n 2, 1) := by decide +kernel
theorem dX7_meeting_2 : decode cX7_meeting 2 = .ok (.iconst 1, 1) := by decide +kernel
theorem dX7_meeting_3 : decode cX7_meeting 3 = .ok (.istore_n 3, 1) := by decide +kernel
theorem dX7_meeting_4 : decode cX7_meeting 4 = .ok (.iload_n 3, 1) := by decide +kernel
theorem dX7_meeting_5 : decode cX7_meeting 5 = .ok (.aload_n 0, 1) := by decide +kernel
theorem dX7_meeting_6 : decode cX7_meeting 6 = .ok (.getfield 7, 3) := by decide +kernel
theorem dX7_meeting_9 : decode cX7_meeting 9 = .ok (.bipush 22, 2) := by decide +kernel
theorem dX7_meeting_11 : decode cX7_meeting 11 = .ok (.iload_n 1, 1) := by decide +kernel
theorem dX7_meeting_12 : decode cX7_meeting 12 = .ok (.iadd, 1) := by decide +kernel
theorem dX7_meeting_13 : decode cX7_meeting 13 = .ok (.iaload, 1) := by decide +kernel
theorem dX7_meeting_14 : decode cX7_meeting 14 = .ok (.if_icmp .ge 47, 3) := by decide +kernel
theorem dX7_meeting_17 : decode cX7_meeting 17 = .ok (.iload_n 2, 1) := by decide +kernel
theorem dX7_meeting_18 : decode cX7_meeting 18 = .ok (.aload_n 0, 1) := by decide +kernel
theorem dX7_meeting_19 : decode cX7_meeting 19 = .ok (.aload_n 0, 1) := by decide +kernel
theorem dX7_meeting_20 : decode cX7_meeting 20 = .ok (.iload_n 1, 1) := by decide +kernel
theorem dX7_meeting_21 : decode cX7_meeting 21 = .ok (.iload_n 3, 1) := by decide +kernel
theorem dX7_meeting_22 : decode cX7_meeting 22 = .ok (.iconst 1, 1) := by decide +kernel
theorem dX7_meeting_23 : decode cX7_meeting 23 = .ok (.isub, 1) := by decide +kernel
theorem dX7_meeting_24 : decode cX7_meeting 24 = .ok (.invokevirtual 57, 3) := by decide +kernel
theorem dX7_meeting_27 : decode cX7_meeting 27 = .ok (.iconst 1, 1) := by decide +kernel
theorem dX7_meeting_28 : decode cX7_meeting 28 = .ok (.invokevirtual 51, 3) := by decide +kernel
theorem dX7_meeting_31 : decode cX7_meeting 31 = .ok (.ifCond .eq 21, 3) := by decide +kernel
theorem dX7_meeting_34 : decode cX7_meeting 34 = .ok (.aload_n 0, 1) := by decide +kernel
theorem dX7_meeting_35 : decode cX7_meeting 35 = .ok (.aload_n 0, 1) := by decide +kernel
theorem dX7_meeting_36 : decode cX7_meeting 36 = .ok (.iload_n 1, 1) := by decide +kernel
theorem dX7_meeting_37 : decode cX7_meeting 37 = .ok (.iload_n 3, 1) := by decide +kernel
theorem dX7_meeting_38 : decode cX7_meeting 38 = .ok (.invokevirtual 57, 3) := by decide +kernel
theorem dX7_meeting_41 : decode cX7_meeting 41 = .ok (.iconst 0, 1) := by decide +kernel
theorem dX7_meeting_42 : decode cX7_meeting 42 = .ok (.invokevirtual 51, 3) := by decide +kernel
theorem dX7_meeting_45 : decode cX7_meeting 45 = .ok (.ifCond .eq 7, 3) := by decide +kernel
theorem dX7_meeting_48 : decode cX7_meeting 48 = .ok (.iconst 1, 1) := by decide +kernel
theorem dX7_meeting_49 : decode cX7_meeting 49 = .ok (.goto 4, 3) := by decide +kernel
theorem dX7_meeting_52 : decode cX7_meeting 52 = .ok (.iconst 0, 1) := by decide +kernel
theorem dX7_meeting_53 : decode cX7_meeting 53 = .ok (.iadd, 1) := by decide +kernel
theorem dX7_meeting_54 : decode cX7_meeting 54 = .ok (.istore_n 2, 1) := by decide +kernel
theorem dX7_meeting_55 : decode cX7_meeting 55 = .ok (.iinc 3 1, 3) := by decide +kernel
theorem dX7_meeting_58 : decode cX7_meeting 58 = .ok (.goto (-54), 3) := by decide +kernel
theorem dX7_meeting_61 : decode cX7_meeting 61 = .ok (.iload_n 2, 1) := by decide +kernel
theorem dX7_meeting_62 : decode cX7_meeting 62 = .ok (.ireturn, 1) := by decide +kernel
set_option maxRecDepth 20000 in
theorem ggX7_count_X7_over : GoodIn wsX7_count wsX7_over := goodIn_r _ [8, 1, 9, 10, 11, 7, 12, 13, 14, 15, 16, 17, 18, 19, 20, 21, 22, 23, 24, 25, 26, 27, 28, 29, 30, 31, 32, 33, 34, 35, 36, 37, 38, 39, 40, 41, 42, 43, 44, 45, 46, 47, 48, 49, 50, 51, 52, 53, 54, 55, 56, 57, 58, 59, 60, 61, 62] (by decide +kernel) (by decide +kernel)
set_option maxRecDepth 20000 in
theorem gX7_count_X7_over : GoodIn wsX7_count (wsV RX7 177 RX7 yX7_over wsX7_over) := goodIn_app (goodIn_of _ (by decide +kernel)) ggX7_count_X7_over
theorem dX7_count_0 : decode cX7_count 0 = .ok (.iload_n 1, 1) := by decide +kernel
theorem dX7_count_1 : decode cX7_count 1 = .ok (.tableswitch 82 0 9 #[55, 55, 55, 55, 61, 61, 55, 55, 72, 77], 55) := by decide +kernel
theorem dX7_count_56 : decode cX7_count 56 = .ok (.aload_n 0, 1) := by decide +kernel
theorem dX7_count_57 : decode cX7_count 57 = .ok (.iload_n 1, 1) := by decide +kernel
theorem dX7_count_58 : decode cX7_count 58 = .ok (.invokevirtual 177, 3) := by decide +kernel
theorem dX7_count_61 : decode cX7_count 61 = .ok (.ireturn, 1) := by decide +kernel
theorem dX7_count_62 : decode cX7_count 62 = .ok (.aload_n 0, 1) := by decide +kernel
theorem dX7_count_63 : decode cX7_count 63 = .ok (.getfield 7, 3) := by decide +kernel
theorem dX7_count_66 : decode cX7_count 66 = .ok (.iconst 0, 1) := by decide +kernel
theorem dX7_count_67 : decode cX7_count 67 = .ok (.iload_n 1, 1) := by decide +kernel
theorem dX7_count_68 : decode cX7_count 68 = .ok (.iadd, 1) := by decide +kernel
theorem dX7_count_69 : decode cX7_count 69 = .ok (.iconst 4, 1) := by decide +kernel
theorem dX7_count_70 : decode cX7_count 70 = .ok (.isub, 1) := by decide +kernel
theorem dX7_count_71 : decode cX7_count 71 = .ok (.iaload, 1) := by decide +kernel
theorem dX7_count_72 : decode cX7_count 72 = .ok (.ireturn, 1) := by decide +kernel
theorem dX7_count_73 : decode cX7_count 73 = .ok (.aload_n 0, 1) := by decide +kernel
theorem dX7_count_74 : decode cX7_count 74 = .ok (.getfield 37, 3) := by decide +kernel
theorem dX7_count_77 : decode cX7_count 77 = .ok (.ireturn, 1) := by decide +kernel
theorem dX7_count_78 : decode cX7_count 78 = .ok (.aload_n 0, 1) := by decide +kernel
theorem dX7_count_79 : decode cX7_count 79 = .ok (.getfield 119, 3) := by decide +kernel
theorem dX7_count_82 : decode cX7_count 82 = .ok (.ireturn, 1) := by decide +kernel
theorem dX7_count_83 : decode cX7_count 83 = .ok (.bipush (-2), 2) := by decide +kernel
theorem dX7_count_85 : decode cX7_count 85 = .ok (.ireturn, 1) := by decide +kernel
theorem dJ9_max_7cf53_0 : decode cJ9_max_7cf53 0 = .ok (.iload_n 0, 1) := by decide +kernel
theorem dJ9_max_7cf53_1 : decode cJ9_max_7cf53 1 = .ok (.iload_n 1, 1) := by decide +kernel
theorem dJ9_max_7cf53_2 : decode cJ9_max_7cf53 2 = .ok (.if_icmp .lt 7, 3) := by decide +kernel
theorem dJ9_max_7cf53_5 : decode cJ9_max_7cf53 5 = .ok (.iload_n 0, 1) := by decide +kernel
theorem dJ9_max_7cf53_6 : decode cJ9_max_7cf53 6 = .ok (.goto 4, 3) := by decide +kernel
theorem dJ9_max_7cf53_9 : decode cJ9_max_7cf53 9 = .ok (.iload_n 1, 1) := by decide +kernel
theorem dJ9_max_7cf53_10 : decode cJ9_max_7cf53 10 = .ok (.ireturn, 1) := by decide +kernel
set_option maxRecDepth 20000 in
theorem ggL_law_X6_init : GoodIn wsL_law wsX6_init := goodIn_r _ [8, 9, 10, 11, 12, 13, 14, 15, 16, 17, 18, 19, 20, 21, 22, 23, 24, 25, 26, 27, 28, 29, 30, 31, 32, 33, 34, 35, 36, 37, 38, 39, 40, 41, 42, 43, 44, 45, 46, 47, 48, 49, 50, 51, 52, 53, 54, 55, 56, 57, 58, 59, 60, 61, 62, 63, 64, 65, 66, 67, 68, 69, 70, 71, 72, 73, 74, 75, 76, 77, 78, 79, 80, 81, 82, 83, 84, 85, 86, 776, 754, 755, 756, 757, 758, 759, 760, 761, 777, 778, 779, 780, 781, 782, 783, 784, 785, 786, 787] (by decide +kernel) (by decide +kernel)
set_option maxRecDepth 20000 in
theorem gL_law_X6_init : GoodIn wsL_law (wsX6_init) := ggL_law_X6_init
set_option maxRecDepth 20000 in
theorem ggL_law_X7_init : GoodIn wsL_law wsX7_init := goodIn_r _ [89, 90, 10, 11, 48, 91, 92, 93, 94, 95, 96, 97, 98, 99, 762, 763, 764, 765, 766, 767, 768, 769, 770, 771, 772, 773, 774, 775] (by decide +kernel) (by decide +kernel)
set_option maxRecDepth 20000 in
theorem gL_law_X7_init : GoodIn wsL_law (wsX7_init) := ggL_law_X7_init
set_option maxRecDepth 20000 in
theorem ggL_law_X6_setHands : GoodIn wsL_law wsX6_setHands := goodIn_r _ [103, 15, 27, 104, 105, 106, 14, 107, 108, 109, 110, 111, 43, 112, 113, 114, 34, 115, 49, 116, 2, 117, 118, 119, 120, 121, 122, 123, 124, 125, 126, 127, 128, 129, 130, 50, 51, 52, 53, 131, 132, 133, 134, 135, 136, 137, 138, 139, 140, 141, 142, 143, 144, 145, 146, 147, 148, 149, 150, 151, 152, 153, 154, 155, 156, 157, 158, 159, 160, 161, 162, 163, 164, 165, 166, 167, 168, 169, 26, 170, 76, 75, 74, 171, 172, 173, 174, 175, 176, 177, 178, 179, 180, 181, 182, 183, 184, 185, 186, 754, 755, 756, 757, 758, 759, 760, 761, 776, 787, 782, 783, 784] (by decide +kernel) (by decide +kernel)
set_option maxRecDepth 20000 in
theorem gL_law_X6_setHands : GoodIn wsL_law (wsV RL 13 RX6 yX6_setHands wsX6_setHands) := goodIn_app (goodIn_of _ (by decide +kernel)) ggL_law_X6_setHands
set_option maxRecDepth 20000 in
theorem ggL_law_X7_setHands : GoodIn wsL_law wsX7_setHands := goodIn_r _ [190, 191, 91, 192, 193, 194, 5, 195, 196, 197, 198, 199, 200, 201, 202, 92, 203, 204, 205, 206, 207, 208, 209, 210, 211, 212, 213, 214, 215, 216, 217, 218, 219, 220, 221, 222, 223, 224, 225, 226, 227, 228, 229, 230, 231, 93, 762, 763, 764, 765, 766, 767, 768, 769, 770, 771, 772, 773, 774, 775] (by decide +kernel) (by decide +kernel)
set_option maxRecDepth 20000 in
theorem gL_law_X7_setHands : GoodIn wsL_law (wsV RL 17 RX7 yX7_setHands wsX7_setHands) := goodIn_app (goodIn_of _ (by decide +kernel)) ggL_law_X7_setHands
set_option maxRecDepth 20000 in
theorem ggL_law_X6_setRule : GoodIn wsL_law wsX6_setRule := goodIn_r _ [235, 15, 27, 118, 116, 2, 117, 236, 164, 165, 14, 166, 43, 112, 113, 114, 34, 115, 49, 237, 238, 239, 240, 50, 51, 52, 53, 131, 132, 133, 134, 135, 136, 137, 138, 139, 140, 141, 142, 143, 144, 145, 146, 147, 148, 149, 150, 151, 152, 153, 154, 155, 156, 157, 158, 159, 160, 161, 162, 163, 167, 168, 169, 26, 170, 76, 75, 74, 171, 172, 173, 174, 175, 176, 177, 178, 179, 180, 181, 182, 183, 184, 185, 186, 754, 755, 756, 757, 758, 759, 760, 761, 776, 787, 782, 783, 784] (by decide +kernel) (by decide +kernel)
set_option maxRecDepth 20000 in
theorem gL_law_X6_setRule : GoodIn wsL_law (wsV RL 18 RX6 yX6_setRule wsX6_setRule) := goodIn_app (goodIn_of _ (by decide +kernel)) ggL_law_X6_setRule
set_option maxRecDepth 20000 in
theorem ggL_law_X7_setRule : GoodIn wsL_law wsX7_setRule := goodIn_r _ [244, 245, 91, 196, 197, 5, 198, 199, 200, 201, 202, 92, 203, 204, 205, 206, 207, 208, 209, 210, 211, 212, 213, 214, 215, 216, 217, 218, 219, 220, 221, 222, 223, 224, 225, 226, 227, 228, 229, 230, 231, 93, 762, 763, 764, 765, 766, 767, 768, 769, 770, 771, 772, 773, 774, 775] (by decide +kernel) (by decide +kernel)
set_option maxRecDepth 20000 in
theorem gL_law_X7_setRule : GoodIn wsL_law (wsV RL 22 RX7 yX7_setRule wsX7_setRule) := goodIn_app (goodIn_of _ (by decide +kernel)) ggL_law_X7_setRule
set_option maxRecDepth 20000 in
theorem ggL_law_X6_setKinds : GoodIn wsL_law wsX6_setKinds := goodIn_r _ [249, 19, 15, 27, 250, 251, 252, 18, 253, 58, 254, 255, 256, 257, 258, 140, 141, 14, 142, 43, 112, 113, 114, 34, 115, 49, 259, 260, 261, 262, 135, 136, 137, 138, 157, 2, 158, 263, 109, 110, 111, 167, 168, 169, 26, 170, 76, 75, 74, 171, 172, 173, 174, 175, 176, 177, 178, 179, 180, 181, 182, 183, 184, 185, 186, 264, 265, 266, 267, 50, 51, 52, 53, 754, 755, 756, 757, 758, 759, 760, 761, 777, 776, 787, 782, 783, 784] (by decide +kernel) (by decide +kernel)
set_option maxRecDepth 20000 in
theorem gL_law_X6_setKinds : GoodIn wsL_law (wsV RL 23 RX6 yX6_setKinds wsX6_setKinds) := goodIn_app (goodIn_of _ (by decide +kernel)) ggL_law_X6_setKinds
set_option maxRecDepth 20000 in
theorem ggL_law_X7_setKinds : GoodIn wsL_law wsX7_setKinds := goodIn_r _ [271, 272, 91, 196, 197, 5, 198, 273, 274, 275, 276, 207, 208, 209, 210, 199, 200, 201, 202, 92, 219, 220, 221, 222, 223, 224, 225, 226, 227, 228, 229, 230, 231, 93, 762, 763, 764, 765, 766, 767, 768, 769, 770, 771, 772, 773, 774, 775] (by decide +kernel) (by decide +kernel)
set_option maxRecDepth 20000 in
theorem gL_law_X7_setKinds : GoodIn wsL_law (wsV RL 26 RX7 yX7_setKinds wsX7_setKinds) := goodIn_app (goodIn_of _ (by decide +kernel)) ggL_law_X7_setKinds
set_option maxRecDepth 20000 in
theorem ggL_law_X6_cutDoll : GoodIn wsL_law wsX6_cutDoll := goodIn_r _ [280, 15, 27, 104, 105, 106, 14, 107, 108, 109, 110, 111, 43, 112, 113, 114, 34, 115, 49, 116, 2, 117, 281, 282, 283, 284, 139, 140, 141, 142, 167, 168, 169, 26, 170, 76, 75, 74, 171, 172, 173, 174, 175, 176, 177, 178, 179, 180, 181, 182, 183, 184, 185, 186, 285, 286, 287, 288, 289, 290, 291, 292, 293, 294, 135, 136, 137, 138, 50, 51, 52, 53, 295, 296, 297, 298, 754, 755, 756, 757, 758, 759, 760, 761, 776, 787, 782, 783, 784] (by decide +kernel) (by decide +kernel)
set_option maxRecDepth 20000 in
theorem gL_law_X6_cutDoll : GoodIn wsL_law (wsV RL 27 RX6 yX6_cutDoll wsX6_cutDoll) := goodIn_app (goodIn_of _ (by decide +kernel)) ggL_law_X6_cutDoll
set_option maxRecDepth 20000 in
theorem ggL_law_X7_cutDoll : GoodIn wsL_law wsX7_cutDoll := goodIn_r _ [302, 91, 192, 193, 194, 5, 195, 196, 197, 198, 303, 304, 305, 306, 199, 200, 201, 202, 92, 307, 308, 309, 310, 219, 220, 221, 222, 223, 224, 225, 226, 227, 228, 229, 230, 231, 93, 762, 763, 764, 765, 766, 767, 768, 769, 770, 771, 772, 773, 774, 775] (by decide +kernel) (by decide +kernel)
set_option maxRecDepth 20000 in
theorem gL_law_X7_cutDoll : GoodIn wsL_law (wsV RL 31 RX7 yX7_cutDoll wsX7_cutDoll) := goodIn_app (goodIn_of _ (by decide +kernel)) ggL_law_X7_cutDoll
set_option maxRecDepth 20000 in
theorem ggL_law_X6_join : GoodIn wsL_law wsX6_join := goodIn_r _ [314, 15, 27, 315, 316, 317, 14, 318, 116, 2, 117, 139, 140, 141, 142, 43, 112, 113, 114, 34, 115, 49, 319, 320, 321, 322, 323, 260, 261, 262, 135, 136, 137, 138, 324, 325, 326, 327, 328, 148, 149, 150, 151, 152, 153, 154, 155, 156, 157, 158, 159, 160, 161, 162, 163, 164, 165, 166, 329, 167, 168, 169, 26, 170, 76, 75, 74, 171, 172, 173, 174, 175, 176, 177, 178, 179, 180, 181, 182, 183, 184, 185, 186, 330, 331, 332, 333, 295, 296, 297, 298, 50, 51, 52, 53, 754, 755, 756, 757, 758, 759, 760, 761, 776, 787, 782, 783, 784] (by decide +kernel) (by decide +kernel)
set_option maxRecDepth 20000 in
theorem gL_law_X6_join : GoodIn wsL_law (wsV RL 32 RX6 yX6_join wsX6_join) := goodIn_app (goodIn_of _ (by decide +kernel)) ggL_law_X6_join
set_option maxRecDepth 20000 in
theorem ggL_law_X7_join : GoodIn wsL_law wsX7_join := goodIn_r _ [337, 91, 338, 339, 340, 5, 341, 342, 196, 197, 198, 343, 344, 345, 346, 207, 208, 209, 210, 211, 212, 213, 214, 215, 216, 217, 218, 199, 200, 201, 202, 92, 307, 308, 309, 310, 347, 348, 349, 350, 219, 220, 221, 222, 223, 224, 225, 226, 227, 228, 229, 230, 231, 93, 762, 763, 764, 765, 766, 767, 768, 769, 770, 771, 772, 773, 774, 775] (by decide +kernel) (by decide +kernel)
set_option maxRecDepth 20000 in
theorem gL_law_X7_join : GoodIn wsL_law (wsV RL 36 RX7 yX7_join wsX7_join) := goodIn_app (goodIn_of _ (by decide +kernel)) ggL_law_X7_join
set_option maxRecDepth 20000 in
theorem ggL_law_X6_cutApart : GoodIn wsL_law wsX6_cutApart := goodIn_r _ [354, 15, 27, 315, 316, 317, 14, 318, 116, 2, 117, 139, 140, 141, 142, 43, 112, 113, 114, 34, 115, 49, 329, 281, 282, 283, 284, 167, 168, 169, 26, 170, 76, 75, 74, 171, 172, 173, 174, 175, 176, 177, 178, 179, 180, 181, 182, 183, 184, 185, 186, 330, 331, 332, 333, 135, 136, 137, 138, 295, 296, 297, 298, 50, 51, 52, 53, 754, 755, 756, 757, 758, 759, 760, 761, 776, 787, 782, 783, 784] (by decide +kernel) (by decide +kernel)
set_option maxRecDepth 20000 in
theorem gL_law_X6_cutApart : GoodIn wsL_law (wsV RL 37 RX6 yX6_cutApart wsX6_cutApart) := goodIn_app (goodIn_of _ (by decide +kernel)) ggL_law_X6_cutApart
set_option maxRecDepth 20000 in
theorem ggL_law_X7_cutApart : GoodIn wsL_law wsX7_cutApart := goodIn_r _ [358, 91, 338, 339, 340, 5, 341, 342, 196, 197, 198, 303, 304, 305, 306, 199, 200, 201, 202, 92, 207, 208, 209, 210, 307, 308, 309, 310, 219, 220, 221, 222, 223, 224, 225, 226, 227, 228, 229, 230, 231, 93, 762, 763, 764, 765, 766, 767, 768, 769, 770, 771, 772, 773, 774, 775] (by decide +kernel) (by decide +kernel)
set_option maxRecDepth 20000 in
theorem gL_law_X7_cutApart : GoodIn wsL_law (wsV RL 40 RX7 yX7_cutApart wsX7_cutApart) := goodIn_app (goodIn_of _ (by decide +kernel)) ggL_law_X7_cutApart
set_option maxRecDepth 20000 in
theorem ggL_law_X6_turn : GoodIn wsL_law wsX6_turn := goodIn_r _ [362, 15, 19, 27, 315, 316, 317, 14, 318, 116, 2, 117, 139, 140, 141, 142, 43, 112, 113, 114, 34, 115, 49, 363, 364, 365, 18, 366, 367, 368, 369, 370, 58, 258, 259, 260, 261, 262, 135, 136, 137, 138, 371, 372, 167, 168, 169, 26, 170, 76, 75, 74, 171, 172, 173, 174, 175, 176, 177, 178, 179, 180, 181, 182, 183, 184, 185, 186, 373, 374, 375, 376, 323, 377, 292, 293, 294, 50, 51, 52, 53, 378, 379, 380, 381, 155, 156, 289, 290, 754, 755, 756, 757, 758, 759, 760, 761, 776, 787, 777, 782, 783, 784] (by decide +kernel) (by decide +kernel)
set_option maxRecDepth 20000 in
theorem gL_law_X6_turn : GoodIn wsL_law (wsV RL 41 RX6 yX6_turn wsX6_turn) := goodIn_app (goodIn_of _ (by decide +kernel)) ggL_law_X6_turn
set_option maxRecDepth 20000 in
theorem ggL_law_X7_turn : GoodIn wsL_law wsX7_turn := goodIn_r _ [385, 91, 95, 338, 339, 340, 5, 341, 342, 196, 197, 198, 386, 387, 388, 389, 390, 391, 392, 393, 207, 208, 209, 210, 394, 395, 396, 397, 199, 200, 201, 202, 92, 307, 308, 309, 310, 398, 399, 400, 401, 219, 220, 221, 222, 223, 224, 225, 226, 227, 228, 229, 230, 231, 93, 762, 763, 764, 765, 766, 767, 768, 769, 770, 771, 772, 773, 774, 775] (by decide +kernel) (by decide +kernel)
set_option maxRecDepth 20000 in
theorem gL_law_X7_turn : GoodIn wsL_law (wsV RL 44 RX7 yX7_turn wsX7_turn) := goodIn_app (goodIn_of _ (by decide +kernel)) ggL_law_X7_turn
set_option maxRecDepth 20000 in
theorem ggL_law_X6_fold : GoodIn wsL_law wsX6_fold := goodIn_r _ [405, 15, 27, 315, 316, 317, 14, 318, 116, 2, 117, 139, 140, 141, 142, 43, 112, 113, 114, 34, 115, 49, 319, 320, 321, 322, 323, 260, 261, 262, 135, 136, 137, 138, 406, 371, 372, 328, 148, 149, 150, 151, 152, 153, 154, 155, 156, 157, 158, 159, 160, 161, 162, 163, 164, 165, 166, 329, 167, 168, 169, 26, 170, 76, 75, 74, 171, 172, 173, 174, 175, 176, 177, 178, 179, 180, 181, 182, 183, 184, 185, 186, 407, 408, 409, 410, 377, 292, 293, 294, 50, 51, 52, 53, 411, 296, 297, 298, 754, 755, 756, 757, 758, 759, 760, 761, 776, 787, 782, 783, 784] (by decide +kernel) (by decide +kernel)
set_option maxRecDepth 20000 in
theorem gL_law_X6_fold : GoodIn wsL_law (wsV RL 45 RX6 yX6_fold wsX6_fold) := goodIn_app (goodIn_of _ (by decide +kernel)) ggL_law_X6_fold
set_option maxRecDepth 20000 in
theorem ggL_law_X7_fold : GoodIn wsL_law wsX7_fold := goodIn_r _ [415, 91, 338, 339, 340, 5, 341, 342, 196, 197, 198, 343, 344, 345, 346, 207, 208, 209, 210, 211, 212, 213, 214, 215, 216, 217, 218, 199, 200, 201, 202, 92, 307, 308, 309, 310, 219, 220, 221, 222, 223, 224, 225, 226, 227, 228, 229, 230, 231, 93, 762, 763, 764, 765, 766, 767, 768, 769, 770, 771, 772, 773, 774, 775] (by decide +kernel) (by decide +kernel)
set_option maxRecDepth 20000 in
theorem gL_law_X7_fold : GoodIn wsL_law (wsV RL 48 RX7 yX7_fold wsX7_fold) := goodIn_app (goodIn_of _ (by decide +kernel)) ggL_law_X7_fold
set_option maxRecDepth 20000 in
theorem ggL_law_X6_takeAway : GoodIn wsL_law wsX6_takeAway := goodIn_r _ [419, 15, 27, 315, 316, 317, 14, 318, 116, 2, 117, 139, 140, 141, 142, 43, 112, 113, 114, 34, 115, 49, 329, 167, 168, 169, 26, 170, 76, 75, 74, 171, 172, 173, 174, 175, 176, 177, 178, 179, 180, 181, 182, 183, 184, 185, 186, 295, 296, 297, 298, 50, 51, 52, 53, 754, 755, 756, 757, 758, 759, 760, 761, 776, 787, 782, 783, 784] (by decide +kernel) (by decide +kernel)
set_option maxRecDepth 20000 in
theorem gL_law_X6_takeAway : GoodIn wsL_law (wsV RL 49 RX6 yX6_takeAway wsX6_takeAway) := goodIn_app (goodIn_of _ (by decide +kernel)) ggL_law_X6_takeAway
set_option maxRecDepth 20000 in
theorem ggL_law_X7_takeAway : GoodIn wsL_law wsX7_takeAway := goodIn_r _ [423, 91, 338, 339, 340, 5, 341, 342, 196, 197, 198, 199, 200, 201, 202, 92, 347, 348, 349, 350, 307, 308, 309, 310, 219, 220, 221, 222, 223, 224, 225, 226, 227, 228, 229, 230, 231, 93, 762, 763, 764, 765, 766, 767, 768, 769, 770, 771, 772, 773, 774, 775] (by decide +kernel) (by decide +kernel)
set_option maxRecDepth 20000 in
theorem gL_law_X7_takeAway : GoodIn wsL_law (wsV RL 52 RX7 yX7_takeAway wsX7_takeAway) := goodIn_app (goodIn_of _ (by decide +kernel)) ggL_law_X7_takeAway
set_option maxRecDepth 20000 in
theorem ggL_law_X6_type : GoodIn wsL_law wsX6_type := goodIn_r _ [427, 31, 428, 429, 430, 30, 431, 84, 432, 433, 434, 435, 83, 436, 51, 52, 34, 53, 49, 754, 755, 756, 757, 758, 759, 760, 761, 785, 786, 787] (by decide +kernel) (by decide +kernel)
set_option maxRecDepth 20000 in
theorem gL_law_X6_type : GoodIn wsL_law (wsV RL 53 RX6 yX6_type wsX6_type) := goodIn_app (goodIn_of _ (by decide +kernel)) ggL_law_X6_type
set_option maxRecDepth 20000 in
theorem ggL_law_X7_type : GoodIn wsL_law wsX7_type := goodIn_r _ [440, 441, 96, 762, 763, 764, 765, 766, 767, 768, 769, 770, 771, 772, 773, 774, 775] (by decide +kernel) (by decide +kernel)
set_option maxRecDepth 20000 in
theorem gL_law_X7_type : GoodIn wsL_law (wsV RL 57 RX7 yX7_type wsX7_type) := goodIn_app (goodIn_of _ (by decide +kernel)) ggL_law_X7_type
set_option maxRecDepth 20000 in
theorem ggL_law_X6_clearText : GoodIn wsL_law wsX6_clearText := goodIn_r _ [445, 31, 446, 447, 448, 30, 449, 84, 754, 755, 756, 757, 758, 759, 760, 761, 785, 786] (by decide +kernel) (by decide +kernel)
set_option maxRecDepth 20000 in
theorem gL_law_X6_clearText : GoodIn wsL_law (wsV RL 58 RX6 yX6_clearText wsX6_clearText) := goodIn_app (goodIn_of _ (by decide +kernel)) ggL_law_X6_clearText
set_option maxRecDepth 20000 in
theorem ggL_law_X7_clearText : GoodIn wsL_law wsX7_clearText := goodIn_r _ [453, 441, 762, 763, 764, 765, 766, 767, 768, 769, 770, 771, 772, 773, 774, 775] (by decide +kernel) (by decide +kernel)
set_option maxRecDepth 20000 in
theorem gL_law_X7_clearText : GoodIn wsL_law (wsV RL 62 RX7 yX7_clearText wsX7_clearText) := goodIn_app (goodIn_of _ (by decide +kernel)) ggL_law_X7_clearText
set_option maxRecDepth 20000 in
theorem ggL_law_X6_readGarland : GoodIn wsL_law wsX6_readGarland := goodIn_r _ [457, 31, 36, 15, 27, 458, 459, 460, 30, 461, 84, 83, 462, 113, 114, 34, 115, 49, 463, 464, 465, 466, 467, 468, 469, 286, 2, 287, 288, 289, 290, 436, 51, 52, 53, 371, 372, 470, 471, 472, 14, 473, 112, 157, 158, 474, 105, 106, 107, 108, 109, 110, 111, 43, 116, 117, 475, 144, 145, 146, 147, 148, 149, 150, 151, 152, 153, 154, 155, 156, 159, 160, 161, 162, 163, 164, 165, 166, 281, 282, 283, 284, 139, 140, 141, 142, 167, 168, 169, 26, 170, 76, 75, 74, 171, 172, 173, 174, 175, 176, 177, 178, 179, 180, 181, 182, 183, 184, 185, 186, 476, 477, 478, 479, 135, 136, 137, 138, 411, 296, 297, 298, 50, 754, 755, 756, 757, 758, 759, 760, 761, 785, 786, 787, 776, 782, 783, 784] (by decide +kernel) (by decide +kernel)
set_option maxRecDepth 20000 in
theorem gL_law_X6_readGarland : GoodIn wsL_law (wsV RL 63 RX6 yX6_readGarland wsX6_readGarland) := goodIn_app (goodIn_of _ (by decide +kernel)) ggL_law_X6_readGarland
set_option maxRecDepth 20000 in
theorem ggL_law_X7_readGarland : GoodIn wsL_law wsX7_readGarland := goodIn_r _ [483, 91, 484, 95, 485, 486, 487, 5, 488, 489, 441, 490, 491, 492, 493, 96, 494, 495, 196, 197, 198, 496, 497, 498, 499, 500, 501, 502, 503, 192, 193, 194, 195, 211, 212, 213, 214, 215, 216, 217, 218, 303, 304, 305, 306, 199, 200, 201, 202, 92, 307, 308, 309, 310, 219, 220, 221, 222, 223, 224, 225, 226, 227, 228, 229, 230, 231, 93, 762, 763, 764, 765, 766, 767, 768, 769, 770, 771, 772, 773, 774, 775] (by decide +kernel) (by decide +kernel)
set_option maxRecDepth 20000 in
theorem gL_law_X7_readGarland : GoodIn wsL_law (wsV RL 66 RX7 yX7_readGarland wsX7_readGarland) := goodIn_app (goodIn_of _ (by decide +kernel)) ggL_law_X7_readGarland
set_option maxRecDepth 20000 in
theorem ggL_law_X6_undo : GoodIn wsL_law wsX6_undo := goodIn_r _ [507, 27, 15, 508, 509, 510, 26, 511, 76, 512, 513, 514, 515, 74, 171, 172, 173, 174, 75, 516, 517, 518, 14, 519, 43, 179, 180, 181, 34, 182, 49, 183, 184, 185, 186, 754, 755, 756, 757, 758, 759, 760, 761, 782, 783, 784, 776, 787] (by decide +kernel) (by decide +kernel)
set_option maxRecDepth 20000 in
theorem gL_law_X6_undo : GoodIn wsL_law (wsV RL 67 RX6 yX6_undo wsX6_undo) := goodIn_app (goodIn_of _ (by decide +kernel)) ggL_law_X6_undo
set_option maxRecDepth 20000 in
theorem ggL_law_X7_undo : GoodIn wsL_law wsX7_undo := goodIn_r _ [523, 231, 91, 93, 762, 763, 764, 765, 766, 767, 768, 769, 770, 771, 772, 773, 774, 775] (by decide +kernel) (by decide +kernel)
set_option maxRecDepth 20000 in
theorem gL_law_X7_undo : GoodIn wsL_law (wsV RL 70 RX7 yX7_undo wsX7_undo) := goodIn_app (goodIn_of _ (by decide +kernel)) ggL_law_X7_undo
set_option maxRecDepth 20000 in
theorem ggL_law_X6_keep : GoodIn wsL_law wsX6_keep := goodIn_r _ [527, 15, 35, 37, 19, 528, 176, 177, 14, 178, 43, 179, 180, 181, 34, 182, 49, 183, 184, 185, 186, 529, 530, 531, 18, 532, 58, 533, 316, 317, 318, 116, 2, 117, 139, 140, 141, 142, 112, 113, 114, 115, 289, 290, 754, 755, 756, 757, 758, 759, 760, 761, 776, 787, 777] (by decide +kernel) (by decide +kernel)
set_option maxRecDepth 20000 in
theorem gL_law_X6_keep : GoodIn wsL_law (wsV RL 71 RX6 yX6_keep wsX6_keep) := goodIn_app (goodIn_of _ (by decide +kernel)) ggL_law_X6_keep
set_option maxRecDepth 20000 in
theorem ggL_law_X7_keep : GoodIn wsL_law wsX7_keep := goodIn_r _ [537, 94, 91, 538, 539, 540, 541, 5, 542, 762, 763, 764, 765, 766, 767, 768, 769, 770, 771, 772, 773, 774, 775] (by decide +kernel) (by decide +kernel)
set_option maxRecDepth 20000 in
theorem gL_law_X7_keep : GoodIn wsL_law (wsV RL 74 RX7 yX7_keep wsX7_keep) := goodIn_app (goodIn_of _ (by decide +kernel)) ggL_law_X7_keep
set_option maxRecDepth 20000 in
theorem ggL_law_X6_restore : GoodIn wsL_law wsX6_restore := goodIn_r _ [546, 37, 27, 15, 35, 19, 167, 168, 169, 26, 170, 76, 75, 74, 171, 172, 173, 174, 175, 176, 177, 14, 178, 43, 179, 180, 181, 34, 182, 49, 183, 184, 185, 186, 547, 517, 518, 519, 529, 530, 531, 18, 532, 58, 533, 316, 317, 318, 116, 2, 117, 139, 140, 141, 142, 112, 113, 114, 115, 289, 290, 754, 755, 756, 757, 758, 759, 760, 761, 782, 783, 784, 776, 787, 777] (by decide +kernel) (by decide +kernel)
set_option maxRecDepth 20000 in
theorem gL_law_X6_restore : GoodIn wsL_law (wsV RL 75 RX6 yX6_restore wsX6_restore) := goodIn_app (goodIn_of _ (by decide +kernel)) ggL_law_X6_restore
set_option maxRecDepth 20000 in
theorem ggL_law_X7_restore : GoodIn wsL_law wsX7_restore := goodIn_r _ [551, 538, 91, 94, 199, 200, 201, 5, 202, 92, 539, 540, 541, 542, 219, 220, 221, 222, 223, 224, 225, 226, 227, 228, 229, 230, 231, 93, 762, 763, 764, 765, 766, 767, 768, 769, 770, 771, 772, 773, 774, 775] (by decide +kernel) (by decide +kernel)
set_option maxRecDepth 20000 in
theorem gL_law_X7_restore : GoodIn wsL_law (wsV RL 78 RX7 yX7_restore wsX7_restore) := goodIn_app (goodIn_of _ (by decide +kernel)) ggL_law_X7_restore
set_option maxRecDepth 20000 in
theorem ggL_law_X6_kind : GoodIn wsL_law wsX6_kind := goodIn_r _ [555, 15, 19, 104, 105, 106, 14, 107, 108, 109, 110, 111, 43, 112, 113, 114, 34, 115, 49, 116, 2, 117, 119, 120, 121, 122, 123, 124, 125, 126, 285, 286, 287, 288, 289, 290, 556, 557, 558, 18, 559, 58, 258, 140, 141, 142, 259, 260, 261, 262, 135, 136, 137, 138, 754, 755, 756, 757, 758, 759, 760, 761, 776, 787, 777] (by decide +kernel) (by decide +kernel)
set_option maxRecDepth 20000 in
theorem gL_law_X6_kind : GoodIn wsL_law (wsV RL 79 RX6 yX6_kind wsX6_kind) := goodIn_app (goodIn_of _ (by decide +kernel)) ggL_law_X6_kind
set_option maxRecDepth 20000 in
theorem ggL_law_X7_kind : GoodIn wsL_law wsX7_kind := goodIn_r _ [563, 91, 192, 193, 194, 5, 195, 196, 197, 198, 564, 565, 566, 567, 207, 208, 209, 210, 762, 763, 764, 765, 766, 767, 768, 769, 770, 771, 772, 773, 774, 775] (by decide +kernel) (by decide +kernel)
set_option maxRecDepth 20000 in
theorem gL_law_X7_kind : GoodIn wsL_law (wsV RL 82 RX7 yX7_kind wsX7_kind) := goodIn_app (goodIn_of _ (by decide +kernel)) ggL_law_X7_kind
set_option maxRecDepth 20000 in
theorem ggL_law_X6_garland : GoodIn wsL_law wsX6_garland := goodIn_r _ [571, 15, 19, 315, 316, 317, 14, 318, 116, 2, 117, 139, 140, 141, 142, 43, 112, 113, 114, 34, 115, 49, 329, 324, 325, 326, 327, 323, 260, 261, 262, 135, 136, 137, 138, 572, 160, 161, 162, 155, 156, 157, 158, 319, 320, 321, 322, 573, 152, 153, 154, 378, 379, 380, 18, 381, 58, 258, 259, 289, 290, 574, 575, 576, 577, 363, 364, 365, 366, 367, 368, 369, 370, 371, 372, 288, 578, 579, 580, 581, 582, 583, 584, 585, 586, 587, 588, 589, 590, 591, 592, 593, 754, 755, 756, 757, 758, 759, 760, 761, 776, 787, 777] (by decide +kernel) (by decide +kernel)
set_option maxRecDepth 20000 in
theorem gL_law_X6_garland : GoodIn wsL_law (wsV RL 83 RX6 yX6_garland wsX6_garland) := goodIn_app (goodIn_of _ (by decide +kernel)) ggL_law_X6_garland
set_option maxRecDepth 20000 in
theorem ggL_law_X7_garland : GoodIn wsL_law wsX7_garland := goodIn_r _ [597, 91, 338, 339, 340, 5, 341, 342, 196, 197, 198, 207, 208, 209, 210, 215, 216, 217, 218, 343, 344, 345, 346, 398, 399, 400, 401, 598, 599, 600, 601, 386, 387, 388, 389, 390, 391, 392, 393, 394, 395, 396, 397, 602, 603, 604, 605, 606, 607, 608, 609, 762, 763, 764, 765, 766, 767, 768, 769, 770, 771, 772, 773, 774, 775] (by decide +kernel) (by decide +kernel)
set_option maxRecDepth 20000 in
theorem gL_law_X7_garland : GoodIn wsL_law (wsV RL 86 RX7 yX7_garland wsX7_garland) := goodIn_app (goodIn_of _ (by decide +kernel)) ggL_law_X7_garland
set_option maxRecDepth 20000 in
theorem ggL_law_X6_doll : GoodIn wsL_law wsX6_doll := goodIn_r _ [613, 15, 315, 316, 317, 14, 318, 116, 2, 117, 139, 140, 141, 142, 43, 112, 113, 114, 34, 115, 49, 329, 118, 614, 260, 261, 262, 135, 136, 137, 138, 615, 157, 158, 616, 155, 156, 288, 289, 290, 572, 160, 161, 162, 573, 152, 153, 154, 754, 755, 756, 757, 758, 759, 760, 761, 776, 787] (by decide +kernel) (by decide +kernel)
set_option maxRecDepth 20000 in
theorem gL_law_X6_doll : GoodIn wsL_law (wsV RL 87 RX6 yX6_doll wsX6_doll) := goodIn_app (goodIn_of _ (by decide +kernel)) ggL_law_X6_doll
set_option maxRecDepth 20000 in
theorem ggL_law_X7_doll : GoodIn wsL_law wsX7_doll := goodIn_r _ [620, 91, 338, 339, 340, 5, 341, 342, 196, 197, 198, 207, 208, 209, 210, 215, 216, 217, 218, 762, 763, 764, 765, 766, 767, 768, 769, 770, 771, 772, 773, 774, 775] (by decide +kernel) (by decide +kernel)
set_option maxRecDepth 20000 in
theorem gL_law_X7_doll : GoodIn wsL_law (wsV RL 90 RX7 yX7_doll wsX7_doll) := goodIn_app (goodIn_of _ (by decide +kernel)) ggL_law_X7_doll
set_option maxRecDepth 20000 in
theorem ggL_law_X6_reason : GoodIn wsL_law wsX6_reason := goodIn_r _ [624, 15, 315, 316, 317, 14, 318, 116, 2, 117, 139, 140, 141, 142, 43, 112, 113, 114, 34, 115, 49, 319, 320, 321, 322, 323, 260, 261, 262, 135, 136, 137, 138, 324, 325, 326, 327, 328, 148, 149, 150, 151, 152, 153, 154, 155, 156, 157, 158, 159, 160, 161, 162, 163, 164, 165, 166, 329, 754, 755, 756, 757, 758, 759, 760, 761, 776, 787] (by decide +kernel) (by decide +kernel)
set_option maxRecDepth 20000 in
theorem gL_law_X6_reason : GoodIn wsL_law (wsV RL 91 RX6 yX6_reason wsX6_reason) := goodIn_app (goodIn_of _ (by decide +kernel)) ggL_law_X6_reason
set_option maxRecDepth 20000 in
theorem ggL_law_X7_reason : GoodIn wsL_law wsX7_reason := goodIn_r _ [628, 91, 338, 339, 340, 5, 341, 342, 196, 197, 198, 343, 344, 345, 346, 207, 208, 209, 210, 211, 212, 213, 214, 215, 216, 217, 218, 762, 763, 764, 765, 766, 767, 768, 769, 770, 771, 772, 773, 774, 775] (by decide +kernel) (by decide +kernel)
set_option maxRecDepth 20000 in
theorem gL_law_X7_reason : GoodIn wsL_law (wsV RL 94 RX7 yX7_reason wsX7_reason) := goodIn_app (goodIn_of _ (by decide +kernel)) ggL_law_X7_reason
set_option maxRecDepth 20000 in
theorem ggL_law_X6_between : GoodIn wsL_law wsX6_between := goodIn_r _ [632, 15, 23, 315, 316, 317, 14, 318, 116, 2, 117, 139, 140, 141, 142, 43, 112, 113, 114, 34, 115, 49, 319, 320, 321, 322, 323, 260, 261, 262, 135, 136, 137, 138, 324, 325, 326, 327, 633, 634, 635, 22, 636, 63, 637, 148, 149, 150, 151, 152, 153, 154, 155, 156, 157, 158, 159, 160, 161, 162, 163, 164, 165, 166, 638, 639, 640, 641, 642, 643, 644, 645, 108, 109, 110, 111, 646, 647, 648, 649, 650, 651, 652, 653, 654, 655, 656, 754, 755, 756, 757, 758, 759, 760, 761, 776, 787, 778, 779, 780, 781] (by decide +kernel) (by decide +kernel)
set_option maxRecDepth 20000 in
theorem gL_law_X6_between : GoodIn wsL_law (wsV RL 95 RX6 yX6_between wsX6_between) := goodIn_app (goodIn_of _ (by decide +kernel)) ggL_law_X6_between
set_option maxRecDepth 20000 in
theorem ggL_law_X7_between : GoodIn wsL_law wsX7_between := goodIn_r _ [660, 91, 97, 338, 339, 340, 5, 341, 342, 196, 197, 198, 343, 344, 345, 346, 207, 208, 209, 210, 211, 212, 213, 214, 215, 216, 217, 218, 762, 763, 764, 765, 766, 767, 768, 769, 770, 771, 772, 773, 774, 775] (by decide +kernel) (by decide +kernel)
set_option maxRecDepth 20000 in
theorem gL_law_X7_between : GoodIn wsL_law (wsV RL 98 RX7 yX7_between wsX7_between) := goodIn_app (goodIn_of _ (by decide +kernel)) ggL_law_X7_between
set_option maxRecDepth 20000 in
theorem ggL_law_X6_ways : GoodIn wsL_law wsX6_ways := goodIn_r _ [664, 23, 665, 666, 667, 22, 668, 63, 66, 669, 670, 671, 672, 65, 67, 642, 643, 644, 14, 645, 108, 109, 110, 111, 43, 112, 113, 114, 34, 115, 49, 646, 647, 648, 649, 637, 148, 149, 150, 151, 152, 153, 154, 155, 2, 156, 157, 158, 159, 160, 161, 162, 163, 164, 165, 166, 673, 51, 52, 53, 674, 675, 676, 677, 678, 654, 655, 656, 679, 180, 181, 182, 183, 184, 185, 186, 680, 681, 682, 683, 371, 372, 754, 755, 756, 757, 758, 759, 760, 761, 778, 779, 780, 781, 776, 787] (by decide +kernel) (by decide +kernel)
set_option maxRecDepth 20000 in
theorem gL_law_X6_ways : GoodIn wsL_law (wsV RL 99 RX6 yX6_ways wsX6_ways) := goodIn_app (goodIn_of _ (by decide +kernel)) ggL_law_X6_ways
set_option maxRecDepth 20000 in
theorem ggL_law_X7_ways : GoodIn wsL_law wsX7_ways := goodIn_r _ [687, 688, 245, 196, 197, 5, 198, 689, 690, 691, 692, 91, 98, 693, 694, 695, 696, 99, 211, 212, 213, 214, 215, 216, 217, 218, 697, 698, 699, 700, 762, 763, 764, 765, 766, 767, 768, 769, 770, 771, 772, 773, 774, 775] (by decide +kernel) (by decide +kernel)
set_option maxRecDepth 20000 in
theorem gL_law_X7_ways : GoodIn wsL_law (wsV RL 102 RX7 yX7_ways wsX7_ways) := goodIn_app (goodIn_of _ (by decide +kernel)) ggL_law_X7_ways
set_option maxRecDepth 20000 in
theorem ggL_law_X6_longest : GoodIn wsL_law wsX6_longest := goodIn_r _ [704, 15, 329, 140, 141, 14, 142, 43, 112, 113, 114, 34, 115, 49, 754, 755, 756, 757, 758, 759, 760, 761, 776, 787] (by decide +kernel) (by decide +kernel)
set_option maxRecDepth 20000 in
theorem gL_law_X6_longest : GoodIn wsL_law (wsV RL 103 RX6 yX6_longest wsX6_longest) := goodIn_app (goodIn_of _ (by decide +kernel)) ggL_law_X6_longest
set_option maxRecDepth 20000 in
theorem ggL_law_X7_longest : GoodIn wsL_law wsX7_longest := goodIn_r _ [708, 91, 338, 339, 340, 5, 341, 342, 196, 197, 198, 762, 763, 764, 765, 766, 767, 768, 769, 770, 771, 772, 773, 774, 775] (by decide +kernel) (by decide +kernel)
set_option maxRecDepth 20000 in
theorem gL_law_X7_longest : GoodIn wsL_law (wsV RL 106 RX7 yX7_longest wsX7_longest) := goodIn_app (goodIn_of _ (by decide +kernel)) ggL_law_X7_longest
set_option maxRecDepth 20000 in
theorem ggL_law_X6_count : GoodIn wsL_law wsX6_count := goodIn_r _ [712, 19, 15, 27, 31, 529, 530, 531, 18, 532, 58, 533, 316, 317, 14, 318, 116, 2, 117, 139, 140, 141, 142, 43, 112, 113, 114, 34, 115, 49, 289, 290, 713, 714, 715, 716, 258, 717, 718, 719, 720, 721, 379, 380, 381, 259, 260, 261, 262, 135, 136, 137, 138, 155, 156, 722, 723, 724, 725, 726, 364, 365, 366, 367, 368, 369, 370, 371, 372, 236, 164, 165, 166, 263, 109, 110, 111, 727, 728, 729, 730, 731, 152, 153, 154, 157, 158, 732, 160, 161, 162, 733, 734, 735, 736, 737, 587, 588, 589, 590, 591, 592, 593, 508, 509, 510, 26, 511, 76, 738, 739, 740, 30, 741, 84, 754, 755, 756, 757, 758, 759, 760, 761, 777, 776, 787, 782, 783, 784, 785, 786] (by decide +kernel) (by decide +kernel)
set_option maxRecDepth 20000 in
theorem gL_law_X6_count : GoodIn wsL_law (wsV RL 107 RX6 yX6_count wsX6_count) := goodIn_app (goodIn_of _ (by decide +kernel)) ggL_law_X6_count
set_option maxRecDepth 20000 in
theorem ggL_law_X7_count : GoodIn wsL_law wsX7_count := goodIn_r _ [745, 91, 231, 441, 746, 747, 748, 5, 749, 338, 339, 340, 341, 342, 196, 197, 198, 398, 399, 400, 401, 207, 208, 209, 210, 386, 387, 388, 389, 390, 391, 392, 393, 394, 395, 396, 397, 750, 751, 752, 753, 215, 216, 217, 218, 606, 607, 608, 609, 762, 763, 764, 765, 766, 767, 768, 769, 770, 771, 772, 773, 774, 775] (by decide +kernel) (by decide +kernel)
set_option maxRecDepth 20000 in
theorem gL_law_X7_count : GoodIn wsL_law (wsV RL 110 RX7 yX7_count wsX7_count) := goodIn_app (goodIn_of _ (by decide +kernel)) ggL_law_X7_count
end
section
theorem dL_law_0 : decode cL_law 0 = .ok (.new 7, 3) := by decide +kernel
theorem dL_law_3 : decode cL_law 3 = .ok (.dup, 1) := by decide +kernel
theorem dL_law_4 : decode cL_law 4 = .ok (.invokespecial 9, 3) := by decide +kernel
theorem dL_law_7 : decode cL_law 7 = .ok (.astore_n 1, 1) := by decide +kernel
theorem dL_law_8 : decode cL_law 8 = .ok (.new 10, 3) := by decide +kernel
theorem dL_law_11 : decode cL_law 11 = .ok (.dup, 1) := by decide +kernel
theorem dL_law_12 : decode cL_law 12 = .ok (.invokespecial 12, 3) := by decide +kernel
theorem dL_law_15 : decode cL_law 15 = .ok (.astore_n 2, 1) := by decide +kernel
theorem dL_law_16 : decode cL_law 16 = .ok (.iconst 0, 1) := by decide +kernel
theorem dL_law_17 : decode cL_law 17 = .ok (.istore_n 3, 1) := by decide +kernel
theorem dL_law_18 : decode cL_law 18 = .ok (.iload_n 3, 1) := by decide +kernel
theorem dL_law_19 : decode cL_law 19 = .ok (.aload_n 0, 1) := by decide +kernel
theorem dL_law_20 : decode cL_law 20 = .ok (.arraylength, 1) := by decide +kernel
theorem dL_law_21 : decode cL_law 21 = .ok (.iconst 4, 1) := by decide +kernel
theorem dL_law_22 : decode cL_law 22 = .ok (.isub, 1) := by decide +kernel
theorem dL_law_23 : decode cL_law 23 = .ok (.if_icmp .gt 730, 3) := by decide +kernel
theorem dL_law_26 : decode cL_law 26 = .ok (.aload_n 0, 1) := by decide +kernel
theorem dL_law_27 : decode cL_law 27 = .ok (.iload_n 3, 1) := by decide +kernel
theorem dL_law_28 : decode cL_law 28 = .ok (.iaload, 1) := by decide +kernel
theorem dL_law_29 : decode cL_law 29 = .ok (.bipush 31, 2) := by decide +kernel
theorem dL_law_31 : decode cL_law 31 = .ok (.iand, 1) := by decide +kernel
theorem dL_law_32 : decode cL_law 32 = .ok (.tableswitch 715 0 22 #[108, 151, 174, 197, 246, 279, 312, 335, 358, 381, 406, 419, 432, 445, 458, 471, 504, 537, 580, 613, 646, 679, 692], 108) := by decide +kernel
theorem dL_law_140 : decode cL_law 140 = .ok (.aload_n 1, 1) := by decide +kernel
theorem dL_law_141 : decode cL_law 141 = .ok (.aload_n 0, 1) := by decide +kernel
theorem dL_law_142 : decode cL_law 142 = .ok (.iload_n 3, 1) := by decide +kernel
theorem dL_law_143 : decode cL_law 143 = .ok (.iconst 1, 1) := by decide +kernel
theorem dL_law_144 : decode cL_law 144 = .ok (.iadd, 1) := by decide +kernel
theorem dL_law_145 : decode cL_law 145 = .ok (.iaload, 1) := by decide +kernel
theorem dL_law_146 : decode cL_law 146 = .ok (.aload_n 0, 1) := by decide +kernel
theorem dL_law_147 : decode cL_law 147 = .ok (.iload_n 3, 1) := by decide +kernel
theorem dL_law_148 : decode cL_law 148 = .ok (.iconst 2, 1) := by decide +kernel
theorem dL_law_149 : decode cL_law 149 = .ok (.iadd, 1) := by decide +kernel
theorem dL_law_150 : decode cL_law 150 = .ok (.iaload, 1) := by decide +kernel
theorem dL_law_151 : decode cL_law 151 = .ok (.aload_n 0, 1) := by decide +kernel
theorem dL_law_152 : decode cL_law 152 = .ok (.iload_n 3, 1) := by decide +kernel
theorem dL_law_153 : decode cL_law 153 = .ok (.iconst 3, 1) := by decide +kernel
theorem dL_law_154 : decode cL_law 154 = .ok (.iadd, 1) := by decide +kernel
theorem dL_law_155 : decode cL_law 155 = .ok (.iaload, 1) := by decide +kernel
theorem dL_law_156 : decode cL_law 156 = .ok (.invokevirtual 13, 3) := by decide +kernel
theorem dL_law_159 : decode cL_law 159 = .ok (.aload_n 2, 1) := by decide +kernel
theorem dL_law_160 : decode cL_law 160 = .ok (.aload_n 0, 1) := by decide +kernel
theorem dL_law_161 : decode cL_law 161 = .ok (.iload_n 3, 1) := by decide +kernel
theorem dL_law_162 : decode cL_law 162 = .ok (.iconst 1, 1) := by decide +kernel
theorem dL_law_163 : decode cL_law 163 = .ok (.iadd, 1) := by decide +kernel
theorem dL_law_164 : decode cL_law 164 = .ok (.iaload, 1) := by decide +kernel
theorem dL_law_165 : decode cL_law 165 = .ok (.aload_n 0, 1) := by decide +kernel
theorem dL_law_166 : decode cL_law 166 = .ok (.iload_n 3, 1) := by decide +kernel
theorem dL_law_167 : decode cL_law 167 = .ok (.iconst 2, 1) := by decide +kernel
theorem dL_law_168 : decode cL_law 168 = .ok (.iadd, 1) := by decide +kernel
theorem dL_law_169 : decode cL_law 169 = .ok (.iaload, 1) := by decide +kernel
theorem dL_law_170 : decode cL_law 170 = .ok (.aload_n 0, 1) := by decide +kernel
theorem dL_law_171 : decode cL_law 171 = .ok (.iload_n 3, 1) := by decide +kernel
theorem dL_law_172 : decode cL_law 172 = .ok (.iconst 3, 1) := by decide +kernel
theorem dL_law_173 : decode cL_law 173 = .ok (.iadd, 1) := by decide +kernel
theorem dL_law_174 : decode cL_law 174 = .ok (.iaload, 1) := by decide +kernel
theorem dL_law_175 : decode cL_law 175 = .ok (.invokevirtual 17, 3) := by decide +kernel
theorem dL_law_178 : decode cL_law 178 = .ok (.if_icmp .eq 569, 3) := by decide +kernel
theorem dL_law_181 : decode cL_law 181 = .ok (.iconst 0, 1) := by decide +kernel
theorem dL_law_182 : decode cL_law 182 = .ok (.ireturn, 1) := by decide +kernel
theorem dL_law_183 : decode cL_law 183 = .ok (.aload_n 1, 1) := by decide +kernel
theorem dL_law_184 : decode cL_law 184 = .ok (.aload_n 0, 1) := by decide +kernel
theorem dL_law_185 : decode cL_law 185 = .ok (.iload_n 3, 1) := by decide +kernel
theorem dL_law_186 : decode cL_law 186 = .ok (.iconst 1, 1) := by decide +kernel
theorem dL_law_187 : decode cL_law 187 = .ok (.iadd, 1) := by decide +kernel
theorem dL_law_188 : decode cL_law 188 = .ok (.iaload, 1) := by decide +kernel
theorem dL_law_189 : decode cL_law 189 = .ok (.invokevirtual 18, 3) := by decide +kernel
theorem dL_law_192 : decode cL_law 192 = .ok (.aload_n 2, 1) := by decide +kernel
theorem dL_law_193 : decode cL_law 193 = .ok (.aload_n 0, 1) := by decide +kernel
theorem dL_law_194 : decode cL_law 194 = .ok (.iload_n 3, 1) := by decide +kernel
theorem dL_law_195 : decode cL_law 195 = .ok (.iconst 1, 1) := by decide +kernel
theorem dL_law_196 : decode cL_law 196 = .ok (.iadd, 1) := by decide +kernel
theorem dL_law_197 : decode cL_law 197 = .ok (.iaload, 1) := by decide +kernel
theorem dL_law_198 : decode cL_law 198 = .ok (.invokevirtual 22, 3) := by decide +kernel
theorem dL_law_201 : decode cL_law 201 = .ok (.if_icmp .eq 546, 3) := by decide +kernel
theorem dL_law_204 : decode cL_law 204 = .ok (.iconst 0, 1) := by decide +kernel
theorem dL_law_205 : decode cL_law 205 = .ok (.ireturn, 1) := by decide +kernel
theorem dL_law_206 : decode cL_law 206 = .ok (.aload_n 1, 1) := by decide +kernel
theorem dL_law_207 : decode cL_law 207 = .ok (.aload_n 0, 1) := by decide +kernel
theorem dL_law_208 : decode cL_law 208 = .ok (.iload_n 3, 1) := by decide +kernel
theorem dL_law_209 : decode cL_law 209 = .ok (.iconst 1, 1) := by decide +kernel
theorem dL_law_210 : decode cL_law 210 = .ok (.iadd, 1) := by decide +kernel
theorem dL_law_211 : decode cL_law 211 = .ok (.iaload, 1) := by decide +kernel
theorem dL_law_212 : decode cL_law 212 = .ok (.invokevirtual 23, 3) := by decide +kernel
theorem dL_law_215 : decode cL_law 215 = .ok (.aload_n 2, 1) := by decide +kernel
theorem dL_law_216 : decode cL_law 216 = .ok (.aload_n 0, 1) := by decide +kernel
theorem dL_law_217 : decode cL_law 217 = .ok (.iload_n 3, 1) := by decide +kernel
theorem dL_law_218 : decode cL_law 218 = .ok (.iconst 1, 1) := by decide +kernel
theorem dL_law_219 : decode cL_law 219 = .ok (.iadd, 1) := by decide +kernel
theorem dL_law_220 : decode cL_law 220 = .ok (.iaload, 1) := by decide +kernel
theorem dL_law_221 : decode cL_law 221 = .ok (.invokevirtual 26, 3) := by decide +kernel
theorem dL_law_224 : decode cL_law 224 = .ok (.if_icmp .eq 523, 3) := by decide +kernel
theorem dL_law_227 : decode cL_law 227 = .ok (.iconst 0, 1) := by decide +kernel
theorem dL_law_228 : decode cL_law 228 = .ok (.ireturn, 1) := by decide +kernel
theorem dL_law_229 : decode cL_law 229 = .ok (.aload_n 1, 1) := by decide +kernel
theorem dL_law_230 : decode cL_law 230 = .ok (.aload_n 0, 1) := by decide +kernel
theorem dL_law_231 : decode cL_law 231 = .ok (.iload_n 3, 1) := by decide +kernel
theorem dL_law_232 : decode cL_law 232 = .ok (.iconst 1, 1) := by decide +kernel
theorem dL_law_233 : decode cL_law 233 = .ok (.iadd, 1) := by decide +kernel
theorem dL_law_234 : decode cL_law 234 = .ok (.iaload, 1) := by decide +kernel
theorem dL_law_235 : decode cL_law 235 = .ok (.aload_n 0, 1) := by decide +kernel
theorem dL_law_236 : decode cL_law 236 = .ok (.iload_n 3, 1) := by decide +kernel
theorem dL_law_237 : decode cL_law 237 = .ok (.iconst 2, 1) := by decide +kernel
theorem dL_law_238 : decode cL_law 238 = .ok (.iadd, 1) := by decide +kernel
theorem dL_law_239 : decode cL_law 239 = .ok (.iaload, 1) := by decide +kernel
theorem dL_law_240 : decode cL_law 240 = .ok (.ifCond .eq 7, 3) := by decide +kernel
theorem dL_law_243 : decode cL_law 243 = .ok (.iconst 1, 1) := by decide +kernel
theorem dL_law_244 : decode cL_law 244 = .ok (.goto 4, 3) := by decide +kernel
theorem dL_law_247 : decode cL_law 247 = .ok (.iconst 0, 1) := by decide +kernel
theorem dL_law_248 : decode cL_law 248 = .ok (.invokevirtual 27, 3) := by decide +kernel
theorem dL_law_251 : decode cL_law 251 = .ok (.aload_n 2, 1) := by decide +kernel
theorem dL_law_252 : decode cL_law 252 = .ok (.aload_n 0, 1) := by decide +kernel
theorem dL_law_253 : decode cL_law 253 = .ok (.iload_n 3, 1) := by decide +kernel
theorem dL_law_254 : decode cL_law 254 = .ok (.iconst 1, 1) := by decide +kernel
theorem dL_law_255 : decode cL_law 255 = .ok (.iadd, 1) := by decide +kernel
theorem dL_law_256 : decode cL_law 256 = .ok (.iaload, 1) := by decide +kernel
theorem dL_law_257 : decode cL_law 257 = .ok (.aload_n 0, 1) := by decide +kernel
theorem dL_law_258 : decode cL_law 258 = .ok (.iload_n 3, 1) := by decide +kernel
theorem dL_law_259 : decode cL_law 259 = .ok (.iconst 2, 1) := by decide +kernel
theorem dL_law_260 : decode cL_law 260 = .ok (.iadd, 1) := by decide +kernel
theorem dL_law_261 : decode cL_law 261 = .ok (.iaload, 1) := by decide +kernel
theorem dL_law_262 : decode cL_law 262 = .ok (.ifCond .eq 7, 3) := by decide +kernel
theorem dL_law_265 : decode cL_law 265 = .ok (.iconst 1, 1) := by decide +kernel
theorem dL_law_266 : decode cL_law 266 = .ok (.goto 4, 3) := by decide +kernel
theorem dL_law_269 : decode cL_law 269 = .ok (.iconst 0, 1) := by decide +kernel
theorem dL_law_270 : decode cL_law 270 = .ok (.invokevirtual 31, 3) := by decide +kernel
theorem dL_law_273 : decode cL_law 273 = .ok (.if_icmp .eq 474, 3) := by decide +kernel
theorem dL_law_276 : decode cL_law 276 = .ok (.iconst 0, 1) := by decide +kernel
theorem dL_law_277 : decode cL_law 277 = .ok (.ireturn, 1) := by decide +kernel
theorem dL_law_278 : decode cL_law 278 = .ok (.aload_n 1, 1) := by decide +kernel
theorem dL_law_279 : decode cL_law 279 = .ok (.aload_n 0, 1) := by decide +kernel
theorem dL_law_280 : decode cL_law 280 = .ok (.iload_n 3, 1) := by decide +kernel
theorem dL_law_281 : decode cL_law 281 = .ok (.iconst 1, 1) := by decide +kernel
theorem dL_law_282 : decode cL_law 282 = .ok (.iadd, 1) := by decide +kernel
theorem dL_law_283 : decode cL_law 283 = .ok (.iaload, 1) := by decide +kernel
theorem dL_law_284 : decode cL_law 284 = .ok (.aload_n 0, 1) := by decide +kernel
theorem dL_law_285 : decode cL_law 285 = .ok (.iload_n 3, 1) := by decide +kernel
theorem dL_law_286 : decode cL_law 286 = .ok (.iconst 2, 1) := by decide +kernel
theorem dL_law_287 : decode cL_law 287 = .ok (.iadd, 1) := by decide +kernel
theorem dL_law_288 : decode cL_law 288 = .ok (.iaload, 1) := by decide +kernel
theorem dL_law_289 : decode cL_law 289 = .ok (.invokevirtual 32, 3) := by decide +kernel
theorem dL_law_292 : decode cL_law 292 = .ok (.aload_n 2, 1) := by decide +kernel
theorem dL_law_293 : decode cL_law 293 = .ok (.aload_n 0, 1) := by decide +kernel
theorem dL_law_294 : decode cL_law 294 = .ok (.iload_n 3, 1) := by decide +kernel
theorem dL_law_295 : decode cL_law 295 = .ok (.iconst 1, 1) := by decide +kernel
theorem dL_law_296 : decode cL_law 296 = .ok (.iadd, 1) := by decide +kernel
theorem dL_law_297 : decode cL_law 297 = .ok (.iaload, 1) := by decide +kernel
theorem dL_law_298 : decode cL_law 298 = .ok (.aload_n 0, 1) := by decide +kernel
theorem dL_law_299 : decode cL_law 299 = .ok (.iload_n 3, 1) := by decide +kernel
theorem dL_law_300 : decode cL_law 300 = .ok (.iconst 2, 1) := by decide +kernel
theorem dL_law_301 : decode cL_law 301 = .ok (.iadd, 1) := by decide +kernel
theorem dL_law_302 : decode cL_law 302 = .ok (.iaload, 1) := by decide +kernel
theorem dL_law_303 : decode cL_law 303 = .ok (.invokevirtual 36, 3) := by decide +kernel
theorem dL_law_306 : decode cL_law 306 = .ok (.if_icmp .eq 441, 3) := by decide +kernel
theorem dL_law_309 : decode cL_law 309 = .ok (.iconst 0, 1) := by decide +kernel
theorem dL_law_310 : decode cL_law 310 = .ok (.ireturn, 1) := by decide +kernel
theorem dL_law_311 : decode cL_law 311 = .ok (.aload_n 1, 1) := by decide +kernel
theorem dL_law_312 : decode cL_law 312 = .ok (.aload_n 0, 1) := by decide +kernel
theorem dL_law_313 : decode cL_law 313 = .ok (.iload_n 3, 1) := by decide +kernel
theorem dL_law_314 : decode cL_law 314 = .ok (.iconst 1, 1) := by decide +kernel
theorem dL_law_315 : decode cL_law 315 = .ok (.iadd, 1) := by decide +kernel
theorem dL_law_316 : decode cL_law 316 = .ok (.iaload, 1) := by decide +kernel
theorem dL_law_317 : decode cL_law 317 = .ok (.aload_n 0, 1) := by decide +kernel
theorem dL_law_318 : decode cL_law 318 = .ok (.iload_n 3, 1) := by decide +kernel
theorem dL_law_319 : decode cL_law 319 = .ok (.iconst 2, 1) := by decide +kernel
theorem dL_law_320 : decode cL_law 320 = .ok (.iadd, 1) := by decide +kernel
theorem dL_law_321 : decode cL_law 321 = .ok (.iaload, 1) := by decide +kernel
theorem dL_law_322 : decode cL_law 322 = .ok (.invokevirtual 37, 3) := by decide +kernel
theorem dL_law_325 : decode cL_law 325 = .ok (.aload_n 2, 1) := by decide +kernel
theorem dL_law_326 : decode cL_law 326 = .ok (.aload_n 0, 1) := by decide +kernel
theorem dL_law_327 : decode cL_law 327 = .ok (.iload_n 3, 1) := by decide +kernel
theorem dL_law_328 : decode cL_law 328 = .ok (.iconst 1, 1) := by decide +kernel
theorem dL_law_329 : decode cL_law 329 = .ok (.iadd, 1) := by decide +kernel
theorem dL_law_330 : decode cL_law 330 = .ok (.iaload, 1) := by decide +kernel
theorem dL_law_331 : decode cL_law 331 = .ok (.aload_n 0, 1) := by decide +kernel
theorem dL_law_332 : decode cL_law 332 = .ok (.iload_n 3, 1) := by decide +kernel
theorem dL_law_333 : decode cL_law 333 = .ok (.iconst 2, 1) := by decide +kernel
theorem dL_law_334 : decode cL_law 334 = .ok (.iadd, 1) := by decide +kernel
theorem dL_law_335 : decode cL_law 335 = .ok (.iaload, 1) := by decide +kernel
theorem dL_law_336 : decode cL_law 336 = .ok (.invokevirtual 40, 3) := by decide +kernel
theorem dL_law_339 : decode cL_law 339 = .ok (.if_icmp .eq 408, 3) := by decide +kernel
theorem dL_law_342 : decode cL_law 342 = .ok (.iconst 0, 1) := by decide +kernel
theorem dL_law_343 : decode cL_law 343 = .ok (.ireturn, 1) := by decide +kernel
theorem dL_law_344 : decode cL_law 344 = .ok (.aload_n 1, 1) := by decide +kernel
theorem dL_law_345 : decode cL_law 345 = .ok (.aload_n 0, 1) := by decide +kernel
theorem dL_law_346 : decode cL_law 346 = .ok (.iload_n 3, 1) := by decide +kernel
theorem dL_law_347 : decode cL_law 347 = .ok (.iconst 1, 1) := by decide +kernel
theorem dL_law_348 : decode cL_law 348 = .ok (.iadd, 1) := by decide +kernel
theorem dL_law_349 : decode cL_law 349 = .ok (.iaload, 1) := by decide +kernel
theorem dL_law_350 : decode cL_law 350 = .ok (.invokevirtual 41, 3) := by decide +kernel
theorem dL_law_353 : decode cL_law 353 = .ok (.aload_n 2, 1) := by decide +kernel
theorem dL_law_354 : decode cL_law 354 = .ok (.aload_n 0, 1) := by decide +kernel
theorem dL_law_355 : decode cL_law 355 = .ok (.iload_n 3, 1) := by decide +kernel
theorem dL_law_356 : decode cL_law 356 = .ok (.iconst 1, 1) := by decide +kernel
theorem dL_law_357 : decode cL_law 357 = .ok (.iadd, 1) := by decide +kernel
theorem dL_law_358 : decode cL_law 358 = .ok (.iaload, 1) := by decide +kernel
theorem dL_law_359 : decode cL_law 359 = .ok (.invokevirtual 44, 3) := by decide +kernel
theorem dL_law_362 : decode cL_law 362 = .ok (.if_icmp .eq 385, 3) := by decide +kernel
theorem dL_law_365 : decode cL_law 365 = .ok (.iconst 0, 1) := by decide +kernel
theorem dL_law_366 : decode cL_law 366 = .ok (.ireturn, 1) := by decide +kernel
theorem dL_law_367 : decode cL_law 367 = .ok (.aload_n 1, 1) := by decide +kernel
theorem dL_law_368 : decode cL_law 368 = .ok (.aload_n 0, 1) := by decide +kernel
theorem dL_law_369 : decode cL_law 369 = .ok (.iload_n 3, 1) := by decide +kernel
theorem dL_law_370 : decode cL_law 370 = .ok (.iconst 1, 1) := by decide +kernel
theorem dL_law_371 : decode cL_law 371 = .ok (.iadd, 1) := by decide +kernel
theorem dL_law_372 : decode cL_law 372 = .ok (.iaload, 1) := by decide +kernel
theorem dL_law_373 : decode cL_law 373 = .ok (.invokevirtual 45, 3) := by decide +kernel
theorem dL_law_376 : decode cL_law 376 = .ok (.aload_n 2, 1) := by decide +kernel
theorem dL_law_377 : decode cL_law 377 = .ok (.aload_n 0, 1) := by decide +kernel
theorem dL_law_378 : decode cL_law 378 = .ok (.iload_n 3, 1) := by decide +kernel
theorem dL_law_379 : decode cL_law 379 = .ok (.iconst 1, 1) := by decide +kernel
theorem dL_law_380 : decode cL_law 380 = .ok (.iadd, 1) := by decide +kernel
theorem dL_law_381 : decode cL_law 381 = .ok (.iaload, 1) := by decide +kernel
theorem dL_law_382 : decode cL_law 382 = .ok (.invokevirtual 48, 3) := by decide +kernel
theorem dL_law_385 : decode cL_law 385 = .ok (.if_icmp .eq 362, 3) := by decide +kernel
theorem dL_law_388 : decode cL_law 388 = .ok (.iconst 0, 1) := by decide +kernel
theorem dL_law_389 : decode cL_law 389 = .ok (.ireturn, 1) := by decide +kernel
theorem dL_law_390 : decode cL_law 390 = .ok (.aload_n 1, 1) := by decide +kernel
theorem dL_law_391 : decode cL_law 391 = .ok (.aload_n 0, 1) := by decide +kernel
theorem dL_law_392 : decode cL_law 392 = .ok (.iload_n 3, 1) := by decide +kernel
theorem dL_law_393 : decode cL_law 393 = .ok (.iconst 1, 1) := by decide +kernel
theorem dL_law_394 : decode cL_law 394 = .ok (.iadd, 1) := by decide +kernel
theorem dL_law_395 : decode cL_law 395 = .ok (.iaload, 1) := by decide +kernel
theorem dL_law_396 : decode cL_law 396 = .ok (.invokevirtual 49, 3) := by decide +kernel
theorem dL_law_399 : decode cL_law 399 = .ok (.aload_n 2, 1) := by decide +kernel
theorem dL_law_400 : decode cL_law 400 = .ok (.aload_n 0, 1) := by decide +kernel
theorem dL_law_401 : decode cL_law 401 = .ok (.iload_n 3, 1) := by decide +kernel
theorem dL_law_402 : decode cL_law 402 = .ok (.iconst 1, 1) := by decide +kernel
theorem dL_law_403 : decode cL_law 403 = .ok (.iadd, 1) := by decide +kernel
theorem dL_law_404 : decode cL_law 404 = .ok (.iaload, 1) := by decide +kernel
theorem dL_law_405 : decode cL_law 405 = .ok (.invokevirtual 52, 3) := by decide +kernel
theorem dL_law_408 : decode cL_law 408 = .ok (.if_icmp .eq 339, 3) := by decide +kernel
theorem dL_law_411 : decode cL_law 411 = .ok (.iconst 0, 1) := by decide +kernel
theorem dL_law_412 : decode cL_law 412 = .ok (.ireturn, 1) := by decide +kernel
theorem dL_law_413 : decode cL_law 413 = .ok (.aload_n 1, 1) := by decide +kernel
theorem dL_law_414 : decode cL_law 414 = .ok (.aload_n 0, 1) := by decide +kernel
theorem dL_law_415 : decode cL_law 415 = .ok (.iload_n 3, 1) := by decide +kernel
theorem dL_law_416 : decode cL_law 416 = .ok (.iconst 1, 1) := by decide +kernel
theorem dL_law_417 : decode cL_law 417 = .ok (.iadd, 1) := by decide +kernel
theorem dL_law_418 : decode cL_law 418 = .ok (.iaload, 1) := by decide +kernel
theorem dL_law_419 : decode cL_law 419 = .ok (.i2c, 1) := by decide +kernel
theorem dL_law_420 : decode cL_law 420 = .ok (.invokevirtual 53, 3) := by decide +kernel
theorem dL_law_423 : decode cL_law 423 = .ok (.aload_n 2, 1) := by decide +kernel
theorem dL_law_424 : decode cL_law 424 = .ok (.aload_n 0, 1) := by decide +kernel
theorem dL_law_425 : decode cL_law 425 = .ok (.iload_n 3, 1) := by decide +kernel
theorem dL_law_426 : decode cL_law 426 = .ok (.iconst 1, 1) := by decide +kernel
theorem dL_law_427 : decode cL_law 427 = .ok (.iadd, 1) := by decide +kernel
theorem dL_law_428 : decode cL_law 428 = .ok (.iaload, 1) := by decide +kernel
theorem dL_law_429 : decode cL_law 429 = .ok (.i2c, 1) := by decide +kernel
theorem dL_law_430 : decode cL_law 430 = .ok (.invokevirtual 57, 3) := by decide +kernel
theorem dL_law_433 : decode cL_law 433 = .ok (.if_icmp .eq 314, 3) := by decide +kernel
theorem dL_law_436 : decode cL_law 436 = .ok (.iconst 0, 1) := by decide +kernel
theorem dL_law_437 : decode cL_law 437 = .ok (.ireturn, 1) := by decide +kernel
theorem dL_law_438 : decode cL_law 438 = .ok (.aload_n 1, 1) := by decide +kernel
theorem dL_law_439 : decode cL_law 439 = .ok (.invokevirtual 58, 3) := by decide +kernel
theorem dL_law_442 : decode cL_law 442 = .ok (.aload_n 2, 1) := by decide +kernel
theorem dL_law_443 : decode cL_law 443 = .ok (.invokevirtual 62, 3) := by decide +kernel
theorem dL_law_446 : decode cL_law 446 = .ok (.if_icmp .eq 301, 3) := by decide +kernel
theorem dL_law_449 : decode cL_law 449 = .ok (.iconst 0, 1) := by decide +kernel
theorem dL_law_450 : decode cL_law 450 = .ok (.ireturn, 1) := by decide +kernel
theorem dL_law_451 : decode cL_law 451 = .ok (.aload_n 1, 1) := by decide +kernel
theorem dL_law_452 : decode cL_law 452 = .ok (.invokevirtual 63, 3) := by decide +kernel
theorem dL_law_455 : decode cL_law 455 = .ok (.aload_n 2, 1) := by decide +kernel
theorem dL_law_456 : decode cL_law 456 = .ok (.invokevirtual 66, 3) := by decide +kernel
theorem dL_law_459 : decode cL_law 459 = .ok (.if_icmp .eq 288, 3) := by decide +kernel
theorem dL_law_462 : decode cL_law 462 = .ok (.iconst 0, 1) := by decide +kernel
theorem dL_law_463 : decode cL_law 463 = .ok (.ireturn, 1) := by decide +kernel
theorem dL_law_464 : decode cL_law 464 = .ok (.aload_n 1, 1) := by decide +kernel
theorem dL_law_465 : decode cL_law 465 = .ok (.invokevirtual 67, 3) := by decide +kernel
theorem dL_law_468 : decode cL_law 468 = .ok (.aload_n 2, 1) := by decide +kernel
theorem dL_law_469 : decode cL_law 469 = .ok (.invokevirtual 70, 3) := by decide +kernel
theorem dL_law_472 : decode cL_law 472 = .ok (.if_icmp .eq 275, 3) := by decide +kernel
theorem dL_law_475 : decode cL_law 475 = .ok (.iconst 0, 1) := by decide +kernel
theorem dL_law_476 : decode cL_law 476 = .ok (.ireturn, 1) := by decide +kernel
theorem dL_law_477 : decode cL_law 477 = .ok (.aload_n 1, 1) := by decide +kernel
theorem dL_law_478 : decode cL_law 478 = .ok (.invokevirtual 71, 3) := by decide +kernel
theorem dL_law_481 : decode cL_law 481 = .ok (.aload_n 2, 1) := by decide +kernel
theorem dL_law_482 : decode cL_law 482 = .ok (.invokevirtual 74, 3) := by decide +kernel
theorem dL_law_485 : decode cL_law 485 = .ok (.if_icmp .eq 262, 3) := by decide +kernel
theorem dL_law_488 : decode cL_law 488 = .ok (.iconst 0, 1) := by decide +kernel
theorem dL_law_489 : decode cL_law 489 = .ok (.ireturn, 1) := by decide +kernel
theorem dL_law_490 : decode cL_law 490 = .ok (.aload_n 1, 1) := by decide +kernel
theorem dL_law_491 : decode cL_law 491 = .ok (.invokevirtual 75, 3) := by decide +kernel
theorem dL_law_494 : decode cL_law 494 = .ok (.aload_n 2, 1) := by decide +kernel
theorem dL_law_495 : decode cL_law 495 = .ok (.invokevirtual 78, 3) := by decide +kernel
theorem dL_law_498 : decode cL_law 498 = .ok (.if_icmp .eq 249, 3) := by decide +kernel
theorem dL_law_501 : decode cL_law 501 = .ok (.iconst 0, 1) := by decide +kernel
theorem dL_law_502 : decode cL_law 502 = .ok (.ireturn, 1) := by decide +kernel
theorem dL_law_503 : decode cL_law 503 = .ok (.aload_n 1, 1) := by decide +kernel
theorem dL_law_504 : decode cL_law 504 = .ok (.aload_n 0, 1) := by decide +kernel
theorem dL_law_505 : decode cL_law 505 = .ok (.iload_n 3, 1) := by decide +kernel
theorem dL_law_506 : decode cL_law 506 = .ok (.iconst 1, 1) := by decide +kernel
theorem dL_law_507 : decode cL_law 507 = .ok (.iadd, 1) := by decide +kernel
theorem dL_law_508 : decode cL_law 508 = .ok (.iaload, 1) := by decide +kernel
theorem dL_law_509 : decode cL_law 509 = .ok (.aload_n 0, 1) := by decide +kernel
theorem dL_law_510 : decode cL_law 510 = .ok (.iload_n 3, 1) := by decide +kernel
theorem dL_law_511 : decode cL_law 511 = .ok (.iconst 2, 1) := by decide +kernel
theorem dL_law_512 : decode cL_law 512 = .ok (.iadd, 1) := by decide +kernel
theorem dL_law_513 : decode cL_law 513 = .ok (.iaload, 1) := by decide +kernel
theorem dL_law_514 : decode cL_law 514 = .ok (.invokevirtual 79, 3) := by decide +kernel
theorem dL_law_517 : decode cL_law 517 = .ok (.aload_n 2, 1) := by decide +kernel
theorem dL_law_518 : decode cL_law 518 = .ok (.aload_n 0, 1) := by decide +kernel
theorem dL_law_519 : decode cL_law 519 = .ok (.iload_n 3, 1) := by decide +kernel
theorem dL_law_520 : decode cL_law 520 = .ok (.iconst 1, 1) := by decide +kernel
theorem dL_law_521 : decode cL_law 521 = .ok (.iadd, 1) := by decide +kernel
theorem dL_law_522 : decode cL_law 522 = .ok (.iaload, 1) := by decide +kernel
theorem dL_law_523 : decode cL_law 523 = .ok (.aload_n 0, 1) := by decide +kernel
theorem dL_law_524 : decode cL_law 524 = .ok (.iload_n 3, 1) := by decide +kernel
theorem dL_law_525 : decode cL_law 525 = .ok (.iconst 2, 1) := by decide +kernel
theorem dL_law_526 : decode cL_law 526 = .ok (.iadd, 1) := by decide +kernel
theorem dL_law_527 : decode cL_law 527 = .ok (.iaload, 1) := by decide +kernel
theorem dL_law_528 : decode cL_law 528 = .ok (.invokevirtual 82, 3) := by decide +kernel
theorem dL_law_531 : decode cL_law 531 = .ok (.if_icmp .eq 216, 3) := by decide +kernel
theorem dL_law_534 : decode cL_law 534 = .ok (.iconst 0, 1) := by decide +kernel
theorem dL_law_535 : decode cL_law 535 = .ok (.ireturn, 1) := by decide +kernel
theorem dL_law_536 : decode cL_law 536 = .ok (.aload_n 1, 1) := by decide +kernel
theorem dL_law_537 : decode cL_law 537 = .ok (.aload_n 0, 1) := by decide +kernel
theorem dL_law_538 : decode cL_law 538 = .ok (.iload_n 3, 1) := by decide +kernel
theorem dL_law_539 : decode cL_law 539 = .ok (.iconst 1, 1) := by decide +kernel
theorem dL_law_540 : decode cL_law 540 = .ok (.iadd, 1) := by decide +kernel
theorem dL_law_541 : decode cL_law 541 = .ok (.iaload, 1) := by decide +kernel
theorem dL_law_542 : decode cL_law 542 = .ok (.aload_n 0, 1) := by decide +kernel
theorem dL_law_543 : decode cL_law 543 = .ok (.iload_n 3, 1) := by decide +kernel
theorem dL_law_544 : decode cL_law 544 = .ok (.iconst 2, 1) := by decide +kernel
theorem dL_law_545 : decode cL_law 545 = .ok (.iadd, 1) := by decide +kernel
theorem dL_law_546 : decode cL_law 546 = .ok (.iaload, 1) := by decide +kernel
theorem dL_law_547 : decode cL_law 547 = .ok (.invokevirtual 83, 3) := by decide +kernel
theorem dL_law_550 : decode cL_law 550 = .ok (.aload_n 2, 1) := by decide +kernel
theorem dL_law_551 : decode cL_law 551 = .ok (.aload_n 0, 1) := by decide +kernel
theorem dL_law_552 : decode cL_law 552 = .ok (.iload_n 3, 1) := by decide +kernel
theorem dL_law_553 : decode cL_law 553 = .ok (.iconst 1, 1) := by decide +kernel
theorem dL_law_554 : decode cL_law 554 = .ok (.iadd, 1) := by decide +kernel
theorem dL_law_555 : decode cL_law 555 = .ok (.iaload, 1) := by decide +kernel
theorem dL_law_556 : decode cL_law 556 = .ok (.aload_n 0, 1) := by decide +kernel
theorem dL_law_557 : decode cL_law 557 = .ok (.iload_n 3, 1) := by decide +kernel
theorem dL_law_558 : decode cL_law 558 = .ok (.iconst 2, 1) := by decide +kernel
theorem dL_law_559 : decode cL_law 559 = .ok (.iadd, 1) := by decide +kernel
theorem dL_law_560 : decode cL_law 560 = .ok (.iaload, 1) := by decide +kernel
theorem dL_law_561 : decode cL_law 561 = .ok (.invokevirtual 86, 3) := by decide +kernel
theorem dL_law_564 : decode cL_law 564 = .ok (.if_icmp .eq 183, 3) := by decide +kernel
theorem dL_law_567 : decode cL_law 567 = .ok (.iconst 0, 1) := by decide +kernel
theorem dL_law_568 : decode cL_law 568 = .ok (.ireturn, 1) := by decide +kernel
theorem dL_law_569 : decode cL_law 569 = .ok (.aload_n 1, 1) := by decide +kernel
theorem dL_law_570 : decode cL_law 570 = .ok (.aload_n 0, 1) := by decide +kernel
theorem dL_law_571 : decode cL_law 571 = .ok (.iload_n 3, 1) := by decide +kernel
theorem dL_law_572 : decode cL_law 572 = .ok (.iconst 1, 1) := by decide +kernel
theorem dL_law_573 : decode cL_law 573 = .ok (.iadd, 1) := by decide +kernel
theorem dL_law_574 : decode cL_law 574 = .ok (.iaload, 1) := by decide +kernel
theorem dL_law_575 : decode cL_law 575 = .ok (.aload_n 0, 1) := by decide +kernel
theorem dL_law_576 : decode cL_law 576 = .ok (.iload_n 3, 1) := by decide +kernel
theorem dL_law_577 : decode cL_law 577 = .ok (.iconst 2, 1) := by decide +kernel
theorem dL_law_578 : decode cL_law 578 = .ok (.iadd, 1) := by decide +kernel
theorem dL_law_579 : decode cL_law 579 = .ok (.iaload, 1) := by decide +kernel
theorem dL_law_580 : decode cL_law 580 = .ok (.aload_n 0, 1) := by decide +kernel
theorem dL_law_581 : decode cL_law 581 = .ok (.iload_n 3, 1) := by decide +kernel
theorem dL_law_582 : decode cL_law 582 = .ok (.iconst 3, 1) := by decide +kernel
theorem dL_law_583 : decode cL_law 583 = .ok (.iadd, 1) := by decide +kernel
theorem dL_law_584 : decode cL_law 584 = .ok (.iaload, 1) := by decide +kernel
theorem dL_law_585 : decode cL_law 585 = .ok (.invokevirtual 87, 3) := by decide +kernel
theorem dL_law_588 : decode cL_law 588 = .ok (.aload_n 2, 1) := by decide +kernel
theorem dL_law_589 : decode cL_law 589 = .ok (.aload_n 0, 1) := by decide +kernel
theorem dL_law_590 : decode cL_law 590 = .ok (.iload_n 3, 1) := by decide +kernel
theorem dL_law_591 : decode cL_law 591 = .ok (.iconst 1, 1) := by decide +kernel
theorem dL_law_592 : decode cL_law 592 = .ok (.iadd, 1) := by decide +kernel
theorem dL_law_593 : decode cL_law 593 = .ok (.iaload, 1) := by decide +kernel
theorem dL_law_594 : decode cL_law 594 = .ok (.aload_n 0, 1) := by decide +kernel
theorem dL_law_595 : decode cL_law 595 = .ok (.iload_n 3, 1) := by decide +kernel
theorem dL_law_596 : decode cL_law 596 = .ok (.iconst 2, 1) := by decide +kernel
theorem dL_law_597 : decode cL_law 597 = .ok (.iadd, 1) := by decide +kernel
theorem dL_law_598 : decode cL_law 598 = .ok (.iaload, 1) := by decide +kernel
theorem dL_law_599 : decode cL_law 599 = .ok (.aload_n 0, 1) := by decide +kernel
theorem dL_law_600 : decode cL_law 600 = .ok (.iload_n 3, 1) := by decide +kernel
theorem dL_law_601 : decode cL_law 601 = .ok (.iconst 3, 1) := by decide +kernel
theorem dL_law_602 : decode cL_law 602 = .ok (.iadd, 1) := by decide +kernel
theorem dL_law_603 : decode cL_law 603 = .ok (.iaload, 1) := by decide +kernel
theorem dL_law_604 : decode cL_law 604 = .ok (.invokevirtual 90, 3) := by decide +kernel
theorem dL_law_607 : decode cL_law 607 = .ok (.if_icmp .eq 140, 3) := by decide +kernel
theorem dL_law_610 : decode cL_law 610 = .ok (.iconst 0, 1) := by decide +kernel
theorem dL_law_611 : decode cL_law 611 = .ok (.ireturn, 1) := by decide +kernel
theorem dL_law_612 : decode cL_law 612 = .ok (.aload_n 1, 1) := by decide +kernel
theorem dL_law_613 : decode cL_law 613 = .ok (.aload_n 0, 1) := by decide +kernel
theorem dL_law_614 : decode cL_law 614 = .ok (.iload_n 3, 1) := by decide +kernel
theorem dL_law_615 : decode cL_law 615 = .ok (.iconst 1, 1) := by decide +kernel
theorem dL_law_616 : decode cL_law 616 = .ok (.iadd, 1) := by decide +kernel
theorem dL_law_617 : decode cL_law 617 = .ok (.iaload, 1) := by decide +kernel
theorem dL_law_618 : decode cL_law 618 = .ok (.aload_n 0, 1) := by decide +kernel
theorem dL_law_619 : decode cL_law 619 = .ok (.iload_n 3, 1) := by decide +kernel
theorem dL_law_620 : decode cL_law 620 = .ok (.iconst 2, 1) := by decide +kernel
theorem dL_law_621 : decode cL_law 621 = .ok (.iadd, 1) := by decide +kernel
theorem dL_law_622 : decode cL_law 622 = .ok (.iaload, 1) := by decide +kernel
theorem dL_law_623 : decode cL_law 623 = .ok (.invokevirtual 91, 3) := by decide +kernel
theorem dL_law_626 : decode cL_law 626 = .ok (.aload_n 2, 1) := by decide +kernel
theorem dL_law_627 : decode cL_law 627 = .ok (.aload_n 0, 1) := by decide +kernel
theorem dL_law_628 : decode cL_law 628 = .ok (.iload_n 3, 1) := by decide +kernel
theorem dL_law_629 : decode cL_law 629 = .ok (.iconst 1, 1) := by decide +kernel
theorem dL_law_630 : decode cL_law 630 = .ok (.iadd, 1) := by decide +kernel
theorem dL_law_631 : decode cL_law 631 = .ok (.iaload, 1) := by decide +kernel
theorem dL_law_632 : decode cL_law 632 = .ok (.aload_n 0, 1) := by decide +kernel
theorem dL_law_633 : decode cL_law 633 = .ok (.iload_n 3, 1) := by decide +kernel
theorem dL_law_634 : decode cL_law 634 = .ok (.iconst 2, 1) := by decide +kernel
theorem dL_law_635 : decode cL_law 635 = .ok (.iadd, 1) := by decide +kernel
theorem dL_law_636 : decode cL_law 636 = .ok (.iaload, 1) := by decide +kernel
theorem dL_law_637 : decode cL_law 637 = .ok (.invokevirtual 94, 3) := by decide +kernel
theorem dL_law_640 : decode cL_law 640 = .ok (.if_icmp .eq 107, 3) := by decide +kernel
theorem dL_law_643 : decode cL_law 643 = .ok (.iconst 0, 1) := by decide +kernel
theorem dL_law_644 : decode cL_law 644 = .ok (.ireturn, 1) := by decide +kernel
theorem dL_law_645 : decode cL_law 645 = .ok (.aload_n 1, 1) := by decide +kernel
theorem dL_law_646 : decode cL_law 646 = .ok (.aload_n 0, 1) := by decide +kernel
theorem dL_law_647 : decode cL_law 647 = .ok (.iload_n 3, 1) := by decide +kernel
theorem dL_law_648 : decode cL_law 648 = .ok (.iconst 1, 1) := by decide +kernel
theorem dL_law_649 : decode cL_law 649 = .ok (.iadd, 1) := by decide +kernel
theorem dL_law_650 : decode cL_law 650 = .ok (.iaload, 1) := by decide +kernel
theorem dL_law_651 : decode cL_law 651 = .ok (.aload_n 0, 1) := by decide +kernel
theorem dL_law_652 : decode cL_law 652 = .ok (.iload_n 3, 1) := by decide +kernel
theorem dL_law_653 : decode cL_law 653 = .ok (.iconst 2, 1) := by decide +kernel
theorem dL_law_654 : decode cL_law 654 = .ok (.iadd, 1) := by decide +kernel
theorem dL_law_655 : decode cL_law 655 = .ok (.iaload, 1) := by decide +kernel
theorem dL_law_656 : decode cL_law 656 = .ok (.invokevirtual 95, 3) := by decide +kernel
theorem dL_law_659 : decode cL_law 659 = .ok (.aload_n 2, 1) := by decide +kernel
theorem dL_law_660 : decode cL_law 660 = .ok (.aload_n 0, 1) := by decide +kernel
theorem dL_law_661 : decode cL_law 661 = .ok (.iload_n 3, 1) := by decide +kernel
theorem dL_law_662 : decode cL_law 662 = .ok (.iconst 1, 1) := by decide +kernel
theorem dL_law_663 : decode cL_law 663 = .ok (.iadd, 1) := by decide +kernel
theorem dL_law_664 : decode cL_law 664 = .ok (.iaload, 1) := by decide +kernel
theorem dL_law_665 : decode cL_law 665 = .ok (.aload_n 0, 1) := by decide +kernel
theorem dL_law_666 : decode cL_law 666 = .ok (.iload_n 3, 1) := by decide +kernel
theorem dL_law_667 : decode cL_law 667 = .ok (.iconst 2, 1) := by decide +kernel
theorem dL_law_668 : decode cL_law 668 = .ok (.iadd, 1) := by decide +kernel
theorem dL_law_669 : decode cL_law 669 = .ok (.iaload, 1) := by decide +kernel
theorem dL_law_670 : decode cL_law 670 = .ok (.invokevirtual 98, 3) := by decide +kernel
theorem dL_law_673 : decode cL_law 673 = .ok (.if_icmp .eq 74, 3) := by decide +kernel
theorem dL_law_676 : decode cL_law 676 = .ok (.iconst 0, 1) := by decide +kernel
theorem dL_law_677 : decode cL_law 677 = .ok (.ireturn, 1) := by decide +kernel
theorem dL_law_678 : decode cL_law 678 = .ok (.aload_n 1, 1) := by decide +kernel
theorem dL_law_679 : decode cL_law 679 = .ok (.aload_n 0, 1) := by decide +kernel
theorem dL_law_680 : decode cL_law 680 = .ok (.iload_n 3, 1) := by decide +kernel
theorem dL_law_681 : decode cL_law 681 = .ok (.iconst 1, 1) := by decide +kernel
theorem dL_law_682 : decode cL_law 682 = .ok (.iadd, 1) := by decide +kernel
theorem dL_law_683 : decode cL_law 683 = .ok (.iaload, 1) := by decide +kernel
theorem dL_law_684 : decode cL_law 684 = .ok (.aload_n 0, 1) := by decide +kernel
theorem dL_law_685 : decode cL_law 685 = .ok (.iload_n 3, 1) := by decide +kernel
theorem dL_law_686 : decode cL_law 686 = .ok (.iconst 2, 1) := by decide +kernel
theorem dL_law_687 : decode cL_law 687 = .ok (.iadd, 1) := by decide +kernel
theorem dL_law_688 : decode cL_law 688 = .ok (.iaload, 1) := by decide +kernel
theorem dL_law_689 : decode cL_law 689 = .ok (.invokevirtual 99, 3) := by decide +kernel
theorem dL_law_692 : decode cL_law 692 = .ok (.aload_n 2, 1) := by decide +kernel
theorem dL_law_693 : decode cL_law 693 = .ok (.aload_n 0, 1) := by decide +kernel
theorem dL_law_694 : decode cL_law 694 = .ok (.iload_n 3, 1) := by decide +kernel
theorem dL_law_695 : decode cL_law 695 = .ok (.iconst 1, 1) := by decide +kernel
theorem dL_law_696 : decode cL_law 696 = .ok (.iadd, 1) := by decide +kernel
theorem dL_law_697 : decode cL_law 697 = .ok (.iaload, 1) := by decide +kernel
theorem dL_law_698 : decode cL_law 698 = .ok (.aload_n 0, 1) := by decide +kernel
theorem dL_law_699 : decode cL_law 699 = .ok (.iload_n 3, 1) := by decide +kernel
theorem dL_law_700 : decode cL_law 700 = .ok (.iconst 2, 1) := by decide +kernel
theorem dL_law_701 : decode cL_law 701 = .ok (.iadd, 1) := by decide +kernel
theorem dL_law_702 : decode cL_law 702 = .ok (.iaload, 1) := by decide +kernel
theorem dL_law_703 : decode cL_law 703 = .ok (.invokevirtual 102, 3) := by decide +kernel
theorem dL_law_706 : decode cL_law 706 = .ok (.if_icmp .eq 41, 3) := by decide +kernel
theorem dL_law_709 : decode cL_law 709 = .ok (.iconst 0, 1) := by decide +kernel
theorem dL_law_710 : decode cL_law 710 = .ok (.ireturn, 1) := by decide +kernel
theorem dL_law_711 : decode cL_law 711 = .ok (.aload_n 1, 1) := by decide +kernel
theorem dL_law_712 : decode cL_law 712 = .ok (.invokevirtual 103, 3) := by decide +kernel
theorem dL_law_715 : decode cL_law 715 = .ok (.aload_n 2, 1) := by decide +kernel
theorem dL_law_716 : decode cL_law 716 = .ok (.invokevirtual 106, 3) := by decide +kernel
theorem dL_law_719 : decode cL_law 719 = .ok (.if_icmp .eq 28, 3) := by decide +kernel
theorem dL_law_722 : decode cL_law 722 = .ok (.iconst 0, 1) := by decide +kernel
theorem dL_law_723 : decode cL_law 723 = .ok (.ireturn, 1) := by decide +kernel
theorem dL_law_724 : decode cL_law 724 = .ok (.aload_n 1, 1) := by decide +kernel
theorem dL_law_725 : decode cL_law 725 = .ok (.aload_n 0, 1) := by decide +kernel
theorem dL_law_726 : decode cL_law 726 = .ok (.iload_n 3, 1) := by decide +kernel
theorem dL_law_727 : decode cL_law 727 = .ok (.iconst 1, 1) := by decide +kernel
theorem dL_law_728 : decode cL_law 728 = .ok (.iadd, 1) := by decide +kernel
theorem dL_law_729 : decode cL_law 729 = .ok (.iaload, 1) := by decide +kernel
theorem dL_law_730 : decode cL_law 730 = .ok (.invokevirtual 107, 3) := by decide +kernel
theorem dL_law_733 : decode cL_law 733 = .ok (.aload_n 2, 1) := by decide +kernel
theorem dL_law_734 : decode cL_law 734 = .ok (.aload_n 0, 1) := by decide +kernel
theorem dL_law_735 : decode cL_law 735 = .ok (.iload_n 3, 1) := by decide +kernel
theorem dL_law_736 : decode cL_law 736 = .ok (.iconst 1, 1) := by decide +kernel
theorem dL_law_737 : decode cL_law 737 = .ok (.iadd, 1) := by decide +kernel
theorem dL_law_738 : decode cL_law 738 = .ok (.iaload, 1) := by decide +kernel
theorem dL_law_739 : decode cL_law 739 = .ok (.invokevirtual 110, 3) := by decide +kernel
theorem dL_law_742 : decode cL_law 742 = .ok (.if_icmp .eq 5, 3) := by decide +kernel
theorem dL_law_745 : decode cL_law 745 = .ok (.iconst 0, 1) := by decide +kernel
theorem dL_law_746 : decode cL_law 746 = .ok (.ireturn, 1) := by decide +kernel
theorem dL_law_747 : decode cL_law 747 = .ok (.iinc 3 4, 3) := by decide +kernel
theorem dL_law_750 : decode cL_law 750 = .ok (.goto (-732), 3) := by decide +kernel
theorem dL_law_753 : decode cL_law 753 = .ok (.iconst 1, 1) := by decide +kernel
theorem dL_law_754 : decode cL_law 754 = .ok (.ireturn, 1) := by decide +kernel
end
section
theorem zz_test : True := trivial
end
