-- ===== PART A: goes FIRST, ahead of the names: the tables' words, and 'selects' of the private methods out of them =====
/-- a private method of a class that the tables say can be made, by its rows of tables_1 -/
def lw_okq (q : MethodName × Nat) : Prop := (q.1.cls ≠ "java/lang/invoke/MethodHandle" ∧ q.1.cls ≠ "java/lang/invoke/VarHandle") ∧ Cond.instantiable q.1.cls q.2 ∈ tables_1 ∧ Cond.privateMethod q.1 ∈ tables_1 ∧ Cond.instanceMethod q.1 ∈ tables_1
theorem lw_p0 : lw_okq (⟨"QuiltPatches$Reader", "startAnew", "(LQuiltPatches$Told;)V"⟩, 8) := ⟨⟨by decide +kernel, by decide +kernel⟩, List.mem_of_getElem? (i := 22) (by decide +kernel), List.mem_of_getElem? (i := 300) (by decide +kernel), List.mem_of_getElem? (i := 301) (by decide +kernel)⟩
theorem lw_p1 : lw_okq (⟨"QuiltPatches$Reader", "readToken", "([II)V"⟩, 8) := ⟨⟨by decide +kernel, by decide +kernel⟩, List.mem_of_getElem? (i := 22) (by decide +kernel), List.mem_of_getElem? (i := 308) (by decide +kernel), List.mem_of_getElem? (i := 309) (by decide +kernel)⟩
theorem lw_p2 : lw_okq (⟨"QuiltPatches$Reader", "readNumber", "([II)V"⟩, 8) := ⟨⟨by decide +kernel, by decide +kernel⟩, List.mem_of_getElem? (i := 22) (by decide +kernel), List.mem_of_getElem? (i := 315) (by decide +kernel), List.mem_of_getElem? (i := 316) (by decide +kernel)⟩
theorem lw_p3 : lw_okq (⟨"QuiltPatches$Reader", "readItem", "(LQuiltPatches$Told;[II)Z"⟩, 8) := ⟨⟨by decide +kernel, by decide +kernel⟩, List.mem_of_getElem? (i := 22) (by decide +kernel), List.mem_of_getElem? (i := 322) (by decide +kernel), List.mem_of_getElem? (i := 323) (by decide +kernel)⟩
theorem lw_p4 : lw_okq (⟨"QuiltPatches$Reader", "mayStart", "(LQuiltPatches$Told;I)Z"⟩, 8) := ⟨⟨by decide +kernel, by decide +kernel⟩, List.mem_of_getElem? (i := 22) (by decide +kernel), List.mem_of_getElem? (i := 326) (by decide +kernel), List.mem_of_getElem? (i := 327) (by decide +kernel)⟩
theorem lw_p5 : lw_okq (⟨"QuiltPatches$Reader", "put", "(LQuiltPatches$Told;III)V"⟩, 8) := ⟨⟨by decide +kernel, by decide +kernel⟩, List.mem_of_getElem? (i := 22) (by decide +kernel), List.mem_of_getElem? (i := 341) (by decide +kernel), List.mem_of_getElem? (i := 342) (by decide +kernel)⟩
theorem lw_p6 : lw_okq (⟨"QuiltPatches$Reader", "putKind", "(LQuiltPatches$Told;II)V"⟩, 8) := ⟨⟨by decide +kernel, by decide +kernel⟩, List.mem_of_getElem? (i := 22) (by decide +kernel), List.mem_of_getElem? (i := 345) (by decide +kernel), List.mem_of_getElem? (i := 346) (by decide +kernel)⟩
theorem lw_p7 : lw_okq (⟨"QuiltPatches", "forgetImages", "()V"⟩, 16) := ⟨⟨by decide +kernel, by decide +kernel⟩, List.mem_of_getElem? (i := 14) (by decide +kernel), List.mem_of_getElem? (i := 373) (by decide +kernel), List.mem_of_getElem? (i := 374) (by decide +kernel)⟩
theorem lw_p8 : lw_okq (⟨"QuiltPatches", "isKind", "(I)Z"⟩, 16) := ⟨⟨by decide +kernel, by decide +kernel⟩, List.mem_of_getElem? (i := 14) (by decide +kernel), List.mem_of_getElem? (i := 381) (by decide +kernel), List.mem_of_getElem? (i := 382) (by decide +kernel)⟩
theorem lw_p9 : lw_okq (⟨"QuiltPatches", "isBlock", "(I)Z"⟩, 16) := ⟨⟨by decide +kernel, by decide +kernel⟩, List.mem_of_getElem? (i := 14) (by decide +kernel), List.mem_of_getElem? (i := 394) (by decide +kernel), List.mem_of_getElem? (i := 395) (by decide +kernel)⟩
theorem lw_p10 : lw_okq (⟨"QuiltPatches", "isSquare", "(I)Z"⟩, 16) := ⟨⟨by decide +kernel, by decide +kernel⟩, List.mem_of_getElem? (i := 14) (by decide +kernel), List.mem_of_getElem? (i := 403) (by decide +kernel), List.mem_of_getElem? (i := 404) (by decide +kernel)⟩
theorem lw_p11 : lw_okq (⟨"QuiltPatches", "whyNot", "(II)I"⟩, 16) := ⟨⟨by decide +kernel, by decide +kernel⟩, List.mem_of_getElem? (i := 14) (by decide +kernel), List.mem_of_getElem? (i := 416) (by decide +kernel), List.mem_of_getElem? (i := 417) (by decide +kernel)⟩
theorem lw_p12 : lw_okq (⟨"QuiltPatches", "meetsNeighbours", "(II)Z"⟩, 16) := ⟨⟨by decide +kernel, by decide +kernel⟩, List.mem_of_getElem? (i := 14) (by decide +kernel), List.mem_of_getElem? (i := 420) (by decide +kernel), List.mem_of_getElem? (i := 421) (by decide +kernel)⟩
theorem lw_p13 : lw_okq (⟨"QuiltPatches", "keepsRim", "(II)Z"⟩, 16) := ⟨⟨by decide +kernel, by decide +kernel⟩, List.mem_of_getElem? (i := 14) (by decide +kernel), List.mem_of_getElem? (i := 431) (by decide +kernel), List.mem_of_getElem? (i := 432) (by decide +kernel)⟩
theorem lw_p14 : lw_okq (⟨"QuiltPatches", "remember", "()V"⟩, 16) := ⟨⟨by decide +kernel, by decide +kernel⟩, List.mem_of_getElem? (i := 14) (by decide +kernel), List.mem_of_getElem? (i := 439) (by decide +kernel), List.mem_of_getElem? (i := 440) (by decide +kernel)⟩
theorem lw_p15 : lw_okq (⟨"QuiltPatches", "openSquares", "()I"⟩, 16) := ⟨⟨by decide +kernel, by decide +kernel⟩, List.mem_of_getElem? (i := 14) (by decide +kernel), List.mem_of_getElem? (i := 448) (by decide +kernel), List.mem_of_getElem? (i := 449) (by decide +kernel)⟩
def lw_privs_1 : List (MethodName × Nat) := [(⟨"QuiltPatches$Reader", "startAnew", "(LQuiltPatches$Told;)V"⟩, 8), (⟨"QuiltPatches$Reader", "readToken", "([II)V"⟩, 8), (⟨"QuiltPatches$Reader", "readNumber", "([II)V"⟩, 8), (⟨"QuiltPatches$Reader", "readItem", "(LQuiltPatches$Told;[II)Z"⟩, 8), (⟨"QuiltPatches$Reader", "mayStart", "(LQuiltPatches$Told;I)Z"⟩, 8), (⟨"QuiltPatches$Reader", "put", "(LQuiltPatches$Told;III)V"⟩, 8), (⟨"QuiltPatches$Reader", "putKind", "(LQuiltPatches$Told;II)V"⟩, 8), (⟨"QuiltPatches", "forgetImages", "()V"⟩, 16), (⟨"QuiltPatches", "isKind", "(I)Z"⟩, 16), (⟨"QuiltPatches", "isBlock", "(I)Z"⟩, 16), (⟨"QuiltPatches", "isSquare", "(I)Z"⟩, 16), (⟨"QuiltPatches", "whyNot", "(II)I"⟩, 16), (⟨"QuiltPatches", "meetsNeighbours", "(II)Z"⟩, 16), (⟨"QuiltPatches", "keepsRim", "(II)Z"⟩, 16), (⟨"QuiltPatches", "remember", "()V"⟩, 16), (⟨"QuiltPatches", "openSquares", "()I"⟩, 16)]
theorem lw_r1 : ∀ q ∈ lw_privs_1, lw_okq q := List.forall_mem_cons.mpr ⟨lw_p0, List.forall_mem_cons.mpr ⟨lw_p1, List.forall_mem_cons.mpr ⟨lw_p2, List.forall_mem_cons.mpr ⟨lw_p3, List.forall_mem_cons.mpr ⟨lw_p4, List.forall_mem_cons.mpr ⟨lw_p5, List.forall_mem_cons.mpr ⟨lw_p6, List.forall_mem_cons.mpr ⟨lw_p7, List.forall_mem_cons.mpr ⟨lw_p8, List.forall_mem_cons.mpr ⟨lw_p9, List.forall_mem_cons.mpr ⟨lw_p10, List.forall_mem_cons.mpr ⟨lw_p11, List.forall_mem_cons.mpr ⟨lw_p12, List.forall_mem_cons.mpr ⟨lw_p13, List.forall_mem_cons.mpr ⟨lw_p14, List.forall_mem_cons.mpr ⟨lw_p15, fun _ h => absurd h List.not_mem_nil⟩⟩⟩⟩⟩⟩⟩⟩⟩⟩⟩⟩⟩⟩⟩⟩
theorem lw_p16 : lw_okq (⟨"QuiltPatches$Winnow", "supported", "(LQuiltPatches$Told;LQuiltPatches$Layout;I)I"⟩, 1) := ⟨⟨by decide +kernel, by decide +kernel⟩, List.mem_of_getElem? (i := 154) (by decide +kernel), List.mem_of_getElem? (i := 506) (by decide +kernel), List.mem_of_getElem? (i := 507) (by decide +kernel)⟩
theorem lw_p17 : lw_okq (⟨"QuiltPatches", "quiltsOf", "(LQuiltPatches$Layout;I)I"⟩, 16) := ⟨⟨by decide +kernel, by decide +kernel⟩, List.mem_of_getElem? (i := 14) (by decide +kernel), List.mem_of_getElem? (i := 542) (by decide +kernel), List.mem_of_getElem? (i := 543) (by decide +kernel)⟩
theorem lw_p18 : lw_okq (⟨"QuiltPatches$Finder", "roomInAll", "(LQuiltPatches$Told;)I"⟩, 9) := ⟨⟨by decide +kernel, by decide +kernel⟩, List.mem_of_getElem? (i := 166) (by decide +kernel), List.mem_of_getElem? (i := 554) (by decide +kernel), List.mem_of_getElem? (i := 555) (by decide +kernel)⟩
theorem lw_p19 : lw_okq (⟨"QuiltPatches$Finder", "giveFrom", "(LQuiltPatches$Told;I)V"⟩, 9) := ⟨⟨by decide +kernel, by decide +kernel⟩, List.mem_of_getElem? (i := 166) (by decide +kernel), List.mem_of_getElem? (i := 562) (by decide +kernel), List.mem_of_getElem? (i := 563) (by decide +kernel)⟩
theorem lw_p20 : lw_okq (⟨"QuiltPatches$Finder", "meetingEarlier", "(LQuiltPatches$Told;I)I"⟩, 9) := ⟨⟨by decide +kernel, by decide +kernel⟩, List.mem_of_getElem? (i := 166) (by decide +kernel), List.mem_of_getElem? (i := 567) (by decide +kernel), List.mem_of_getElem? (i := 568) (by decide +kernel)⟩
theorem lw_p21 : lw_okq (⟨"QuiltPatches$Finder", "tryBlock", "(LQuiltPatches$Told;II)V"⟩, 9) := ⟨⟨by decide +kernel, by decide +kernel⟩, List.mem_of_getElem? (i := 166) (by decide +kernel), List.mem_of_getElem? (i := 574) (by decide +kernel), List.mem_of_getElem? (i := 575) (by decide +kernel)⟩
theorem lw_p22 : lw_okq (⟨"QuiltPatches", "sameWithAnotherAt", "(II)I"⟩, 16) := ⟨⟨by decide +kernel, by decide +kernel⟩, List.mem_of_getElem? (i := 14) (by decide +kernel), List.mem_of_getElem? (i := 587) (by decide +kernel), List.mem_of_getElem? (i := 588) (by decide +kernel)⟩
theorem lw_p23 : lw_okq (⟨"QuiltPatches$Cloth", "workOut", "(II)V"⟩, 6) := ⟨⟨by decide +kernel, by decide +kernel⟩, List.mem_of_getElem? (i := 201) (by decide +kernel), List.mem_of_getElem? (i := 617) (by decide +kernel), List.mem_of_getElem? (i := 618) (by decide +kernel)⟩
theorem lw_p24 : lw_okq (⟨"QuiltPatches$Cloth", "pieceLike", "(II)I"⟩, 6) := ⟨⟨by decide +kernel, by decide +kernel⟩, List.mem_of_getElem? (i := 201) (by decide +kernel), List.mem_of_getElem? (i := 624) (by decide +kernel), List.mem_of_getElem? (i := 625) (by decide +kernel)⟩
theorem lw_p25 : lw_okq (⟨"QuiltPatches$Cloth", "tryCut", "(IIII)V"⟩, 6) := ⟨⟨by decide +kernel, by decide +kernel⟩, List.mem_of_getElem? (i := 201) (by decide +kernel), List.mem_of_getElem? (i := 630) (by decide +kernel), List.mem_of_getElem? (i := 631) (by decide +kernel)⟩
theorem lw_p26 : lw_okq (⟨"QuiltPatchesModel", "begins", "()V"⟩, 30) := ⟨⟨by decide +kernel, by decide +kernel⟩, List.mem_of_getElem? (i := 662) (by decide +kernel), List.mem_of_getElem? (i := 668) (by decide +kernel), List.mem_of_getElem? (i := 669) (by decide +kernel)⟩
theorem lw_p27 : lw_okq (⟨"QuiltPatchesModel", "becomes", "()V"⟩, 30) := ⟨⟨by decide +kernel, by decide +kernel⟩, List.mem_of_getElem? (i := 662) (by decide +kernel), List.mem_of_getElem? (i := 672) (by decide +kernel), List.mem_of_getElem? (i := 673) (by decide +kernel)⟩
theorem lw_p28 : lw_okq (⟨"QuiltPatchesModel", "here", "()I"⟩, 30) := ⟨⟨by decide +kernel, by decide +kernel⟩, List.mem_of_getElem? (i := 662) (by decide +kernel), List.mem_of_getElem? (i := 782) (by decide +kernel), List.mem_of_getElem? (i := 783) (by decide +kernel)⟩
theorem lw_p29 : lw_okq (⟨"QuiltPatchesModel", "item", "()Z"⟩, 30) := ⟨⟨by decide +kernel, by decide +kernel⟩, List.mem_of_getElem? (i := 662) (by decide +kernel), List.mem_of_getElem? (i := 786) (by decide +kernel), List.mem_of_getElem? (i := 787) (by decide +kernel)⟩
theorem lw_p30 : lw_okq (⟨"QuiltPatchesModel", "readsKind", "()Z"⟩, 30) := ⟨⟨by decide +kernel, by decide +kernel⟩, List.mem_of_getElem? (i := 662) (by decide +kernel), List.mem_of_getElem? (i := 790) (by decide +kernel), List.mem_of_getElem? (i := 791) (by decide +kernel)⟩
theorem lw_p31 : lw_okq (⟨"QuiltPatchesModel", "reads", "(II)Z"⟩, 30) := ⟨⟨by decide +kernel, by decide +kernel⟩, List.mem_of_getElem? (i := 662) (by decide +kernel), List.mem_of_getElem? (i := 794) (by decide +kernel), List.mem_of_getElem? (i := 795) (by decide +kernel)⟩
def lw_privs_2 : List (MethodName × Nat) := [(⟨"QuiltPatches$Winnow", "supported", "(LQuiltPatches$Told;LQuiltPatches$Layout;I)I"⟩, 1), (⟨"QuiltPatches", "quiltsOf", "(LQuiltPatches$Layout;I)I"⟩, 16), (⟨"QuiltPatches$Finder", "roomInAll", "(LQuiltPatches$Told;)I"⟩, 9), (⟨"QuiltPatches$Finder", "giveFrom", "(LQuiltPatches$Told;I)V"⟩, 9), (⟨"QuiltPatches$Finder", "meetingEarlier", "(LQuiltPatches$Told;I)I"⟩, 9), (⟨"QuiltPatches$Finder", "tryBlock", "(LQuiltPatches$Told;II)V"⟩, 9), (⟨"QuiltPatches", "sameWithAnotherAt", "(II)I"⟩, 16), (⟨"QuiltPatches$Cloth", "workOut", "(II)V"⟩, 6), (⟨"QuiltPatches$Cloth", "pieceLike", "(II)I"⟩, 6), (⟨"QuiltPatches$Cloth", "tryCut", "(IIII)V"⟩, 6), (⟨"QuiltPatchesModel", "begins", "()V"⟩, 30), (⟨"QuiltPatchesModel", "becomes", "()V"⟩, 30), (⟨"QuiltPatchesModel", "here", "()I"⟩, 30), (⟨"QuiltPatchesModel", "item", "()Z"⟩, 30), (⟨"QuiltPatchesModel", "readsKind", "()Z"⟩, 30), (⟨"QuiltPatchesModel", "reads", "(II)Z"⟩, 30)]
theorem lw_r2 : ∀ q ∈ lw_privs_2, lw_okq q := List.forall_mem_cons.mpr ⟨lw_p16, List.forall_mem_cons.mpr ⟨lw_p17, List.forall_mem_cons.mpr ⟨lw_p18, List.forall_mem_cons.mpr ⟨lw_p19, List.forall_mem_cons.mpr ⟨lw_p20, List.forall_mem_cons.mpr ⟨lw_p21, List.forall_mem_cons.mpr ⟨lw_p22, List.forall_mem_cons.mpr ⟨lw_p23, List.forall_mem_cons.mpr ⟨lw_p24, List.forall_mem_cons.mpr ⟨lw_p25, List.forall_mem_cons.mpr ⟨lw_p26, List.forall_mem_cons.mpr ⟨lw_p27, List.forall_mem_cons.mpr ⟨lw_p28, List.forall_mem_cons.mpr ⟨lw_p29, List.forall_mem_cons.mpr ⟨lw_p30, List.forall_mem_cons.mpr ⟨lw_p31, fun _ h => absurd h List.not_mem_nil⟩⟩⟩⟩⟩⟩⟩⟩⟩⟩⟩⟩⟩⟩⟩⟩
theorem lw_p32 : lw_okq (⟨"QuiltPatchesModel", "readsOnce", "(IIIII)Z"⟩, 30) := ⟨⟨by decide +kernel, by decide +kernel⟩, List.mem_of_getElem? (i := 662) (by decide +kernel), List.mem_of_getElem? (i := 798) (by decide +kernel), List.mem_of_getElem? (i := 799) (by decide +kernel)⟩
theorem lw_p33 : lw_okq (⟨"QuiltPatchesModel", "isKind", "(I)Z"⟩, 30) := ⟨⟨by decide +kernel, by decide +kernel⟩, List.mem_of_getElem? (i := 662) (by decide +kernel), List.mem_of_getElem? (i := 806) (by decide +kernel), List.mem_of_getElem? (i := 807) (by decide +kernel)⟩
theorem lw_p34 : lw_okq (⟨"QuiltPatchesModel", "tries", "()V"⟩, 30) := ⟨⟨by decide +kernel, by decide +kernel⟩, List.mem_of_getElem? (i := 662) (by decide +kernel), List.mem_of_getElem? (i := 810) (by decide +kernel), List.mem_of_getElem? (i := 811) (by decide +kernel)⟩
theorem lw_p35 : lw_okq (⟨"QuiltPatchesModel", "leftOf", "(I)I"⟩, 30) := ⟨⟨by decide +kernel, by decide +kernel⟩, List.mem_of_getElem? (i := 662) (by decide +kernel), List.mem_of_getElem? (i := 814) (by decide +kernel), List.mem_of_getElem? (i := 815) (by decide +kernel)⟩
theorem lw_p36 : lw_okq (⟨"QuiltPatchesModel", "isBlock", "(I)Z"⟩, 30) := ⟨⟨by decide +kernel, by decide +kernel⟩, List.mem_of_getElem? (i := 662) (by decide +kernel), List.mem_of_getElem? (i := 822) (by decide +kernel), List.mem_of_getElem? (i := 823) (by decide +kernel)⟩
theorem lw_p37 : lw_okq (⟨"QuiltPatchesModel", "edge", "(II)I"⟩, 30) := ⟨⟨by decide +kernel, by decide +kernel⟩, List.mem_of_getElem? (i := 662) (by decide +kernel), List.mem_of_getElem? (i := 826) (by decide +kernel), List.mem_of_getElem? (i := 827) (by decide +kernel)⟩
theorem lw_p38 : lw_okq (⟨"QuiltPatchesModel", "isPlain", "(I)Z"⟩, 30) := ⟨⟨by decide +kernel, by decide +kernel⟩, List.mem_of_getElem? (i := 662) (by decide +kernel), List.mem_of_getElem? (i := 830) (by decide +kernel), List.mem_of_getElem? (i := 831) (by decide +kernel)⟩
theorem lw_p39 : lw_okq (⟨"QuiltPatchesModel", "isSquare", "(I)Z"⟩, 30) := ⟨⟨by decide +kernel, by decide +kernel⟩, List.mem_of_getElem? (i := 662) (by decide +kernel), List.mem_of_getElem? (i := 838) (by decide +kernel), List.mem_of_getElem? (i := 839) (by decide +kernel)⟩
theorem lw_p40 : lw_okq (⟨"QuiltPatchesModel", "squares", "()I"⟩, 30) := ⟨⟨by decide +kernel, by decide +kernel⟩, List.mem_of_getElem? (i := 662) (by decide +kernel), List.mem_of_getElem? (i := 842) (by decide +kernel), List.mem_of_getElem? (i := 843) (by decide +kernel)⟩
theorem lw_p41 : lw_okq (⟨"QuiltPatchesModel", "whyNot", "(II)I"⟩, 30) := ⟨⟨by decide +kernel, by decide +kernel⟩, List.mem_of_getElem? (i := 662) (by decide +kernel), List.mem_of_getElem? (i := 846) (by decide +kernel), List.mem_of_getElem? (i := 847) (by decide +kernel)⟩
theorem lw_p42 : lw_okq (⟨"QuiltPatchesModel", "beside", "(II)I"⟩, 30) := ⟨⟨by decide +kernel, by decide +kernel⟩, List.mem_of_getElem? (i := 662) (by decide +kernel), List.mem_of_getElem? (i := 850) (by decide +kernel), List.mem_of_getElem? (i := 851) (by decide +kernel)⟩
theorem lw_p43 : lw_okq (⟨"QuiltPatchesModel", "hueOf", "(I)I"⟩, 30) := ⟨⟨by decide +kernel, by decide +kernel⟩, List.mem_of_getElem? (i := 662) (by decide +kernel), List.mem_of_getElem? (i := 854) (by decide +kernel), List.mem_of_getElem? (i := 855) (by decide +kernel)⟩
theorem lw_p44 : lw_okq (⟨"QuiltPatchesModel", "ofHue", "(I)I"⟩, 30) := ⟨⟨by decide +kernel, by decide +kernel⟩, List.mem_of_getElem? (i := 662) (by decide +kernel), List.mem_of_getElem? (i := 858) (by decide +kernel), List.mem_of_getElem? (i := 859) (by decide +kernel)⟩
theorem lw_p45 : lw_okq (⟨"QuiltPatchesModel", "notes", "()V"⟩, 30) := ⟨⟨by decide +kernel, by decide +kernel⟩, List.mem_of_getElem? (i := 662) (by decide +kernel), List.mem_of_getElem? (i := 862) (by decide +kernel), List.mem_of_getElem? (i := 863) (by decide +kernel)⟩
theorem lw_p46 : lw_okq (⟨"QuiltPatchesModel", "open", "()I"⟩, 30) := ⟨⟨by decide +kernel, by decide +kernel⟩, List.mem_of_getElem? (i := 662) (by decide +kernel), List.mem_of_getElem? (i := 866) (by decide +kernel), List.mem_of_getElem? (i := 867) (by decide +kernel)⟩
theorem lw_p47 : lw_okq (⟨"QuiltPatchesModel", "winnows", "()V"⟩, 30) := ⟨⟨by decide +kernel, by decide +kernel⟩, List.mem_of_getElem? (i := 662) (by decide +kernel), List.mem_of_getElem? (i := 898) (by decide +kernel), List.mem_of_getElem? (i := 899) (by decide +kernel)⟩
def lw_privs_3 : List (MethodName × Nat) := [(⟨"QuiltPatchesModel", "readsOnce", "(IIIII)Z"⟩, 30), (⟨"QuiltPatchesModel", "isKind", "(I)Z"⟩, 30), (⟨"QuiltPatchesModel", "tries", "()V"⟩, 30), (⟨"QuiltPatchesModel", "leftOf", "(I)I"⟩, 30), (⟨"QuiltPatchesModel", "isBlock", "(I)Z"⟩, 30), (⟨"QuiltPatchesModel", "edge", "(II)I"⟩, 30), (⟨"QuiltPatchesModel", "isPlain", "(I)Z"⟩, 30), (⟨"QuiltPatchesModel", "isSquare", "(I)Z"⟩, 30), (⟨"QuiltPatchesModel", "squares", "()I"⟩, 30), (⟨"QuiltPatchesModel", "whyNot", "(II)I"⟩, 30), (⟨"QuiltPatchesModel", "beside", "(II)I"⟩, 30), (⟨"QuiltPatchesModel", "hueOf", "(I)I"⟩, 30), (⟨"QuiltPatchesModel", "ofHue", "(I)I"⟩, 30), (⟨"QuiltPatchesModel", "notes", "()V"⟩, 30), (⟨"QuiltPatchesModel", "open", "()I"⟩, 30), (⟨"QuiltPatchesModel", "winnows", "()V"⟩, 30)]
theorem lw_r3 : ∀ q ∈ lw_privs_3, lw_okq q := List.forall_mem_cons.mpr ⟨lw_p32, List.forall_mem_cons.mpr ⟨lw_p33, List.forall_mem_cons.mpr ⟨lw_p34, List.forall_mem_cons.mpr ⟨lw_p35, List.forall_mem_cons.mpr ⟨lw_p36, List.forall_mem_cons.mpr ⟨lw_p37, List.forall_mem_cons.mpr ⟨lw_p38, List.forall_mem_cons.mpr ⟨lw_p39, List.forall_mem_cons.mpr ⟨lw_p40, List.forall_mem_cons.mpr ⟨lw_p41, List.forall_mem_cons.mpr ⟨lw_p42, List.forall_mem_cons.mpr ⟨lw_p43, List.forall_mem_cons.mpr ⟨lw_p44, List.forall_mem_cons.mpr ⟨lw_p45, List.forall_mem_cons.mpr ⟨lw_p46, List.forall_mem_cons.mpr ⟨lw_p47, fun _ h => absurd h List.not_mem_nil⟩⟩⟩⟩⟩⟩⟩⟩⟩⟩⟩⟩⟩⟩⟩⟩
theorem lw_p48 : lw_okq (⟨"QuiltPatchesModel", "stays", "(II)Z"⟩, 30) := ⟨⟨by decide +kernel, by decide +kernel⟩, List.mem_of_getElem? (i := 662) (by decide +kernel), List.mem_of_getElem? (i := 902) (by decide +kernel), List.mem_of_getElem? (i := 903) (by decide +kernel)⟩
theorem lw_p49 : lw_okq (⟨"QuiltPatchesModel", "has", "(III)Z"⟩, 30) := ⟨⟨by decide +kernel, by decide +kernel⟩, List.mem_of_getElem? (i := 662) (by decide +kernel), List.mem_of_getElem? (i := 906) (by decide +kernel), List.mem_of_getElem? (i := 907) (by decide +kernel)⟩
theorem lw_p50 : lw_okq (⟨"QuiltPatchesModel", "hueAt", "(I)I"⟩, 30) := ⟨⟨by decide +kernel, by decide +kernel⟩, List.mem_of_getElem? (i := 662) (by decide +kernel), List.mem_of_getElem? (i := 917) (by decide +kernel), List.mem_of_getElem? (i := 918) (by decide +kernel)⟩
theorem lw_p51 : lw_okq (⟨"QuiltPatchesModel", "startsQuilts", "()V"⟩, 30) := ⟨⟨by decide +kernel, by decide +kernel⟩, List.mem_of_getElem? (i := 662) (by decide +kernel), List.mem_of_getElem? (i := 925) (by decide +kernel), List.mem_of_getElem? (i := 926) (by decide +kernel)⟩
theorem lw_p52 : lw_okq (⟨"QuiltPatchesModel", "nextQuilt", "()Z"⟩, 30) := ⟨⟨by decide +kernel, by decide +kernel⟩, List.mem_of_getElem? (i := 662) (by decide +kernel), List.mem_of_getElem? (i := 929) (by decide +kernel), List.mem_of_getElem? (i := 930) (by decide +kernel)⟩
theorem lw_p53 : lw_okq (⟨"QuiltPatchesModel", "canBe", "(II)Z"⟩, 30) := ⟨⟨by decide +kernel, by decide +kernel⟩, List.mem_of_getElem? (i := 662) (by decide +kernel), List.mem_of_getElem? (i := 933) (by decide +kernel), List.mem_of_getElem? (i := 934) (by decide +kernel)⟩
theorem lw_p54 : lw_okq (⟨"QuiltPatchesModel", "side", "(IZ)I"⟩, 30) := ⟨⟨by decide +kernel, by decide +kernel⟩, List.mem_of_getElem? (i := 662) (by decide +kernel), List.mem_of_getElem? (i := 957) (by decide +kernel), List.mem_of_getElem? (i := 958) (by decide +kernel)⟩
theorem lw_p55 : lw_okq (⟨"QuiltPatchesModel", "laysCloth", "()V"⟩, 30) := ⟨⟨by decide +kernel, by decide +kernel⟩, List.mem_of_getElem? (i := 662) (by decide +kernel), List.mem_of_getElem? (i := 968) (by decide +kernel), List.mem_of_getElem? (i := 969) (by decide +kernel)⟩
theorem lw_p56 : lw_okq (⟨"QuiltPatchesModel", "laysRectangle", "(II)V"⟩, 30) := ⟨⟨by decide +kernel, by decide +kernel⟩, List.mem_of_getElem? (i := 662) (by decide +kernel), List.mem_of_getElem? (i := 972) (by decide +kernel), List.mem_of_getElem? (i := 973) (by decide +kernel)⟩
theorem lw_p57 : lw_okq (⟨"QuiltPatchesModel", "pieceOf", "(II)I"⟩, 30) := ⟨⟨by decide +kernel, by decide +kernel⟩, List.mem_of_getElem? (i := 662) (by decide +kernel), List.mem_of_getElem? (i := 976) (by decide +kernel), List.mem_of_getElem? (i := 977) (by decide +kernel)⟩
theorem lw_p58 : lw_okq (⟨"QuiltPatchesModel", "laysCut", "(IIII)V"⟩, 30) := ⟨⟨by decide +kernel, by decide +kernel⟩, List.mem_of_getElem? (i := 662) (by decide +kernel), List.mem_of_getElem? (i := 980) (by decide +kernel), List.mem_of_getElem? (i := 981) (by decide +kernel)⟩
theorem lw_p59 : lw_okq (⟨"QuiltPatchesModel", "hues", "()I"⟩, 30) := ⟨⟨by decide +kernel, by decide +kernel⟩, List.mem_of_getElem? (i := 662) (by decide +kernel), List.mem_of_getElem? (i := 1004) (by decide +kernel), List.mem_of_getElem? (i := 1005) (by decide +kernel)⟩
def lw_privs_4 : List (MethodName × Nat) := [(⟨"QuiltPatchesModel", "stays", "(II)Z"⟩, 30), (⟨"QuiltPatchesModel", "has", "(III)Z"⟩, 30), (⟨"QuiltPatchesModel", "hueAt", "(I)I"⟩, 30), (⟨"QuiltPatchesModel", "startsQuilts", "()V"⟩, 30), (⟨"QuiltPatchesModel", "nextQuilt", "()Z"⟩, 30), (⟨"QuiltPatchesModel", "canBe", "(II)Z"⟩, 30), (⟨"QuiltPatchesModel", "side", "(IZ)I"⟩, 30), (⟨"QuiltPatchesModel", "laysCloth", "()V"⟩, 30), (⟨"QuiltPatchesModel", "laysRectangle", "(II)V"⟩, 30), (⟨"QuiltPatchesModel", "pieceOf", "(II)I"⟩, 30), (⟨"QuiltPatchesModel", "laysCut", "(IIII)V"⟩, 30), (⟨"QuiltPatchesModel", "hues", "()I"⟩, 30)]
theorem lw_r4 : ∀ q ∈ lw_privs_4, lw_okq q := List.forall_mem_cons.mpr ⟨lw_p48, List.forall_mem_cons.mpr ⟨lw_p49, List.forall_mem_cons.mpr ⟨lw_p50, List.forall_mem_cons.mpr ⟨lw_p51, List.forall_mem_cons.mpr ⟨lw_p52, List.forall_mem_cons.mpr ⟨lw_p53, List.forall_mem_cons.mpr ⟨lw_p54, List.forall_mem_cons.mpr ⟨lw_p55, List.forall_mem_cons.mpr ⟨lw_p56, List.forall_mem_cons.mpr ⟨lw_p57, List.forall_mem_cons.mpr ⟨lw_p58, List.forall_mem_cons.mpr ⟨lw_p59, fun _ h => absurd h List.not_mem_nil⟩⟩⟩⟩⟩⟩⟩⟩⟩⟩⟩⟩
def lw_privs : List (MethodName × Nat) := lw_privs_1 ++ (lw_privs_2 ++ (lw_privs_3 ++ (lw_privs_4)))
def lw_tbl : List Cond := k2_sels lw_privs ++ tables_1
theorem lw_privs_ok : ∀ q ∈ lw_privs, lw_okq q := by
  show ∀ q ∈ lw_privs_1 ++ (lw_privs_2 ++ (lw_privs_3 ++ (lw_privs_4))), lw_okq q
  exact List.forall_mem_append.mpr ⟨lw_r1, List.forall_mem_append.mpr ⟨lw_r2, List.forall_mem_append.mpr ⟨lw_r3, lw_r4⟩⟩⟩
def RX0 : String := "QuiltPatches$Cloth"
def TX0 : u_T := fun k => match k with
  | 0 => ("QuiltPatches$Cloth", "lesser", "[I", true)
  | 1 => ("QuiltPatches$Cloth", "greater", "[I", true)
  | 2 => ("QuiltPatches$Cloth", "used", "[I", true)
  | 3 => ("QuiltPatches$Cloth", "cuts", "[I", true)
  | 4 => ("QuiltPatches$Cloth", "gives", "[I", true)
  | _ => ("QuiltPatches$Cloth", "known", "Z", false)
def tyX0 : Nat → FieldType := fun k => match k with
  | 0 => .array .int
  | 1 => .array .int
  | 2 => .array .int
  | 3 => .array .int
  | 4 => .array .int
  | _ => .boolean
abbrev wsX00 : List Cond := u_ws RX0 TX0 6
theorem nmX0 : ∀ a, a < 6 → ∀ b, b < 6 → a ≠ b → (TX0 a).2.1 ≠ (TX0 b).2.1 := by decide +kernel
theorem tyX0_ok : ∀ k, k < 6 → parseFieldDescriptor (TX0 k).2.2.1 = some (tyX0 k) := by decide +kernel
abbrev cX0_init : ByteArray := prog_2_method_1_code
def yX0_init : MethodName := ⟨RX0, "<init>", "()V"⟩
abbrev cX0_at : ByteArray := prog_2_method_2_code
def yX0_at : MethodName := ⟨RX0, "at", "(II)I"⟩
abbrev cX0_measure : ByteArray := prog_2_method_3_code
def yX0_measure : MethodName := ⟨RX0, "measure", "(LQuiltPatches$Told;)V"⟩
abbrev cX0_know : ByteArray := prog_2_method_4_code
def yX0_know : MethodName := ⟨RX0, "know", "()V"⟩
abbrev cX0_workOut : ByteArray := prog_2_method_5_code
def yX0_workOut : MethodName := ⟨RX0, "workOut", "(II)V"⟩
abbrev cX0_tryCut : ByteArray := prog_2_method_6_code
def yX0_tryCut : MethodName := ⟨RX0, "tryCut", "(IIII)V"⟩
abbrev cX0_pieceLike : ByteArray := prog_2_method_7_code
def yX0_pieceLike : MethodName := ⟨RX0, "pieceLike", "(II)I"⟩
def RX1 : String := "QuiltPatches$Finder"
def TX1 : u_T := fun k => match k with
  | 0 => ("QuiltPatches$Finder", "latest", "[I", true)
  | 1 => ("QuiltPatches$Finder", "trial", "[I", true)
  | 2 => ("QuiltPatches$Finder", "given", "[Z", true)
  | 3 => ("QuiltPatches$Finder", "choice", "[I", true)
  | 4 => ("QuiltPatches$Finder", "kindRoom", "[I", true)
  | 5 => ("QuiltPatches$Finder", "hueRoom", "[I", true)
  | 6 => ("QuiltPatches$Finder", "squares", "I", false)
  | 7 => ("QuiltPatches$Finder", "found", "I", false)
  | _ => ("QuiltPatches$Finder", "limit", "I", false)
def tyX1 : Nat → FieldType := fun k => match k with
  | 0 => .array .int
  | 1 => .array .int
  | 2 => .array .boolean
  | 3 => .array .int
  | 4 => .array .int
  | 5 => .array .int
  | 6 => .int
  | 7 => .int
  | _ => .int
abbrev wsX10 : List Cond := u_ws RX1 TX1 9
theorem nmX1 : ∀ a, a < 9 → ∀ b, b < 9 → a ≠ b → (TX1 a).2.1 ≠ (TX1 b).2.1 := by decide +kernel
theorem tyX1_ok : ∀ k, k < 9 → parseFieldDescriptor (TX1 k).2.2.1 = some (tyX1 k) := by decide +kernel
abbrev cX1_init : ByteArray := prog_3_method_1_code
def yX1_init : MethodName := ⟨RX1, "<init>", "()V"⟩
abbrev cX1_find : ByteArray := prog_3_method_2_code
def yX1_find : MethodName := ⟨RX1, "find", "(LQuiltPatches$Told;LQuiltPatches$Layout;[II)I"⟩
abbrev cX1_giveFrom : ByteArray := prog_3_method_3_code
def yX1_giveFrom : MethodName := ⟨RX1, "giveFrom", "(LQuiltPatches$Told;I)V"⟩
abbrev cX1_tryBlock : ByteArray := prog_3_method_4_code
def yX1_tryBlock : MethodName := ⟨RX1, "tryBlock", "(LQuiltPatches$Told;II)V"⟩
abbrev cX1_roomInAll : ByteArray := prog_3_method_5_code
def yX1_roomInAll : MethodName := ⟨RX1, "roomInAll", "(LQuiltPatches$Told;)I"⟩
abbrev cX1_meetingEarlier : ByteArray := prog_3_method_6_code
def yX1_meetingEarlier : MethodName := ⟨RX1, "meetingEarlier", "(LQuiltPatches$Told;I)I"⟩
def RX2 : String := "QuiltPatches$Layout"
def TX2 : u_T := fun k => match k with
  | 0 => ("QuiltPatches$Layout", "blocks", "[I", true)
  | _ => ("QuiltPatches$Layout", "stocks", "[I", true)
def tyX2 : Nat → FieldType := fun k => match k with
  | 0 => .array .int
  | _ => .array .int
abbrev wsX20 : List Cond := u_ws RX2 TX2 2
theorem nmX2 : ∀ a, a < 2 → ∀ b, b < 2 → a ≠ b → (TX2 a).2.1 ≠ (TX2 b).2.1 := by decide +kernel
theorem tyX2_ok : ∀ k, k < 2 → parseFieldDescriptor (TX2 k).2.2.1 = some (tyX2 k) := by decide +kernel
abbrev cX2_init : ByteArray := prog_4_method_1_code
def yX2_init : MethodName := ⟨RX2, "<init>", "()V"⟩
abbrev cX2_begin : ByteArray := prog_4_method_2_code
def yX2_begin : MethodName := ⟨RX2, "begin", "(LQuiltPatches$Told;)V"⟩
abbrev cX2_become : ByteArray := prog_4_method_3_code
def yX2_become : MethodName := ⟨RX2, "become", "(LQuiltPatches$Layout;)V"⟩
abbrev cX2_openAll : ByteArray := prog_4_method_4_code
def yX2_openAll : MethodName := ⟨RX2, "openAll", "()V"⟩
abbrev cX2_isOpen : ByteArray := prog_4_method_5_code
def yX2_isOpen : MethodName := ⟨RX2, "isOpen", "(I)Z"⟩
abbrev cX2_leftOf : ByteArray := prog_4_method_6_code
def yX2_leftOf : MethodName := ⟨RX2, "leftOf", "(I)I"⟩
abbrev cX2_squaresOfHue : ByteArray := prog_4_method_7_code
def yX2_squaresOfHue : MethodName := ⟨RX2, "squaresOfHue", "(LQuiltPatches$Told;I)I"⟩
def RX3 : String := "QuiltPatches$Reader"
def TX3 : u_T := fun k => match k with
  | 0 => ("QuiltPatches$Reader", "place", "I", false)
  | 1 => ("QuiltPatches$Reader", "tokenPlace", "I", false)
  | 2 => ("QuiltPatches$Reader", "token", "I", false)
  | 3 => ("QuiltPatches$Reader", "number", "I", false)
  | 4 => ("QuiltPatches$Reader", "toldWidth", "Z", false)
  | 5 => ("QuiltPatches$Reader", "toldRim", "Z", false)
  | 6 => ("QuiltPatches$Reader", "toldMost", "Z", false)
  | _ => ("QuiltPatches$Reader", "toldSide", "Z", false)
def tyX3 : Nat → FieldType := fun k => match k with
  | 0 => .int
  | 1 => .int
  | 2 => .int
  | 3 => .int
  | 4 => .boolean
  | 5 => .boolean
  | 6 => .boolean
  | _ => .boolean
abbrev wsX30 : List Cond := u_ws RX3 TX3 8
theorem nmX3 : ∀ a, a < 8 → ∀ b, b < 8 → a ≠ b → (TX3 a).2.1 ≠ (TX3 b).2.1 := by decide +kernel
theorem tyX3_ok : ∀ k, k < 8 → parseFieldDescriptor (TX3 k).2.2.1 = some (tyX3 k) := by decide +kernel
abbrev cX3_init : ByteArray := prog_5_method_1_code
def yX3_init : MethodName := ⟨RX3, "<init>", "()V"⟩
abbrev cX3_readInto : ByteArray := prog_5_method_2_code
def yX3_readInto : MethodName := ⟨RX3, "readInto", "(LQuiltPatches$Told;[II)I"⟩
abbrev cX3_startAnew : ByteArray := prog_5_method_3_code
def yX3_startAnew : MethodName := ⟨RX3, "startAnew", "(LQuiltPatches$Told;)V"⟩
abbrev cX3_readItem : ByteArray := prog_5_method_4_code
def yX3_readItem : MethodName := ⟨RX3, "readItem", "(LQuiltPatches$Told;[II)Z"⟩
abbrev cX3_mayStart : ByteArray := prog_5_method_5_code
def yX3_mayStart : MethodName := ⟨RX3, "mayStart", "(LQuiltPatches$Told;I)Z"⟩
abbrev cX3_numbersOf : ByteArray := prog_5_method_6_code
def yX3_numbersOf : MethodName := ⟨RX3, "numbersOf", "(I)I"⟩
abbrev cX3_lowestOf : ByteArray := prog_5_method_7_code
def yX3_lowestOf : MethodName := ⟨RX3, "lowestOf", "(I)I"⟩
abbrev cX3_highestOf : ByteArray := prog_5_method_8_code
def yX3_highestOf : MethodName := ⟨RX3, "highestOf", "(II)I"⟩
abbrev cX3_put : ByteArray := prog_5_method_9_code
def yX3_put : MethodName := ⟨RX3, "put", "(LQuiltPatches$Told;III)V"⟩
abbrev cX3_putKind : ByteArray := prog_5_method_10_code
def yX3_putKind : MethodName := ⟨RX3, "putKind", "(LQuiltPatches$Told;II)V"⟩
abbrev cX3_readToken : ByteArray := prog_5_method_11_code
def yX3_readToken : MethodName := ⟨RX3, "readToken", "([II)V"⟩
abbrev cX3_readNumber : ByteArray := prog_5_method_12_code
def yX3_readNumber : MethodName := ⟨RX3, "readNumber", "([II)V"⟩
abbrev cX3_isFigure : ByteArray := prog_5_method_13_code
def yX3_isFigure : MethodName := ⟨RX3, "isFigure", "(I)Z"⟩
abbrev cX3_isSign : ByteArray := prog_5_method_14_code
def yX3_isSign : MethodName := ⟨RX3, "isSign", "(I)Z"⟩
def RX4 : String := "QuiltPatches$Told"
def TX4 : u_T := fun k => match k with
  | 0 => ("QuiltPatches$Told", "kinds", "I", false)
  | 1 => ("QuiltPatches$Told", "width", "I", false)
  | 2 => ("QuiltPatches$Told", "height", "I", false)
  | 3 => ("QuiltPatches$Told", "rim", "I", false)
  | 4 => ("QuiltPatches$Told", "most", "I", false)
  | 5 => ("QuiltPatches$Told", "side", "I", false)
  | 6 => ("QuiltPatches$Told", "border", "I", false)
  | 7 => ("QuiltPatches$Told", "edges", "[I", true)
  | 8 => ("QuiltPatches$Told", "hues", "[I", true)
  | 9 => ("QuiltPatches$Told", "stocks", "[I", true)
  | _ => ("QuiltPatches$Told", "having", "[I", true)
def tyX4 : Nat → FieldType := fun k => match k with
  | 0 => .int
  | 1 => .int
  | 2 => .int
  | 3 => .int
  | 4 => .int
  | 5 => .int
  | 6 => .int
  | 7 => .array .int
  | 8 => .array .int
  | 9 => .array .int
  | _ => .array .int
abbrev wsX40 : List Cond := u_ws RX4 TX4 11
theorem nmX4 : ∀ a, a < 11 → ∀ b, b < 11 → a ≠ b → (TX4 a).2.1 ≠ (TX4 b).2.1 := by decide +kernel
theorem tyX4_ok : ∀ k, k < 11 → parseFieldDescriptor (TX4 k).2.2.1 = some (tyX4 k) := by decide +kernel
abbrev cX4_init : ByteArray := prog_6_method_1_code
def yX4_init : MethodName := ⟨RX4, "<init>", "()V"⟩
abbrev cX4_startAnew : ByteArray := prog_6_method_2_code
def yX4_startAnew : MethodName := ⟨RX4, "startAnew", "()V"⟩
abbrev cX4_squares : ByteArray := prog_6_method_3_code
def yX4_squares : MethodName := ⟨RX4, "squares", "()I"⟩
abbrev cX4_edgeOf : ByteArray := prog_6_method_4_code
def yX4_edgeOf : MethodName := ⟨RX4, "edgeOf", "(II)I"⟩
abbrev cX4_isPlain : ByteArray := prog_6_method_5_code
def yX4_isPlain : MethodName := ⟨RX4, "isPlain", "(I)Z"⟩
abbrev cX4_looksLike : ByteArray := prog_6_method_6_code
def yX4_looksLike : MethodName := ⟨RX4, "looksLike", "(II)Z"⟩
abbrev cX4_settleBlocks : ByteArray := prog_6_method_7_code
def yX4_settleBlocks : MethodName := ⟨RX4, "settleBlocks", "()V"⟩
abbrev cX4_plainWith : ByteArray := prog_6_method_8_code
def yX4_plainWith : MethodName := ⟨RX4, "plainWith", "(II)I"⟩
abbrev cX4_beside : ByteArray := prog_6_method_9_code
def yX4_beside : MethodName := ⟨RX4, "beside", "(II)I"⟩
abbrev cX4_isFirstOfHue : ByteArray := prog_6_method_10_code
def yX4_isFirstOfHue : MethodName := ⟨RX4, "isFirstOfHue", "(I)Z"⟩
abbrev cX4_hueCount : ByteArray := prog_6_method_11_code
def yX4_hueCount : MethodName := ⟨RX4, "hueCount", "()I"⟩
abbrev cX4_hueAt : ByteArray := prog_6_method_12_code
def yX4_hueAt : MethodName := ⟨RX4, "hueAt", "(I)I"⟩
abbrev cX4_kindsOfHue : ByteArray := prog_6_method_13_code
def yX4_kindsOfHue : MethodName := ⟨RX4, "kindsOfHue", "(I)I"⟩
def RX5 : String := "QuiltPatches$Winnow"
def TX5 : u_T := fun k => match k with
  | _ => ("QuiltPatches$Winnow", "sets", "[I", true)
def tyX5 : Nat → FieldType := fun k => match k with
  | _ => .array .int
abbrev wsX50 : List Cond := u_ws RX5 TX5 1
theorem nmX5 : ∀ a, a < 1 → ∀ b, b < 1 → a ≠ b → (TX5 a).2.1 ≠ (TX5 b).2.1 := by decide +kernel
theorem tyX5_ok : ∀ k, k < 1 → parseFieldDescriptor (TX5 k).2.2.1 = some (tyX5 k) := by decide +kernel
abbrev cX5_init : ByteArray := prog_7_method_1_code
def yX5_init : MethodName := ⟨RX5, "<init>", "()V"⟩
abbrev cX5_begin : ByteArray := prog_7_method_2_code
def yX5_begin : MethodName := ⟨RX5, "begin", "(LQuiltPatches$Told;LQuiltPatches$Layout;)V"⟩
abbrev cX5_settle : ByteArray := prog_7_method_3_code
def yX5_settle : MethodName := ⟨RX5, "settle", "(LQuiltPatches$Told;LQuiltPatches$Layout;)V"⟩
abbrev cX5_blocksToHave : ByteArray := prog_7_method_4_code
def yX5_blocksToHave : MethodName := ⟨RX5, "blocksToHave", "(LQuiltPatches$Told;LQuiltPatches$Layout;)I"⟩
abbrev cX5_meetingAround : ByteArray := prog_7_method_5_code
def yX5_meetingAround : MethodName := ⟨RX5, "meetingAround", "(LQuiltPatches$Told;LQuiltPatches$Layout;I)I"⟩
abbrev cX5_supported : ByteArray := prog_7_method_6_code
def yX5_supported : MethodName := ⟨RX5, "supported", "(LQuiltPatches$Told;LQuiltPatches$Layout;I)I"⟩
abbrev cX5_meetingOneOf : ByteArray := prog_7_method_7_code
def yX5_meetingOneOf : MethodName := ⟨RX5, "meetingOneOf", "(LQuiltPatches$Told;II)I"⟩
def RX6 : String := "QuiltPatches"
def TX6 : u_T := fun k => match k with
  | 0 => ("QuiltPatches", "text", "[I", true)
  | 1 => ("QuiltPatches", "letters", "I", false)
  | 2 => ("QuiltPatches", "reader", "LQuiltPatches$Reader;", true)
  | 3 => ("QuiltPatches", "told", "LQuiltPatches$Told;", false)
  | 4 => ("QuiltPatches", "spare", "LQuiltPatches$Told;", false)
  | 5 => ("QuiltPatches", "now", "LQuiltPatches$Layout;", true)
  | 6 => ("QuiltPatches", "supposed", "LQuiltPatches$Layout;", true)
  | 7 => ("QuiltPatches", "past", "[LQuiltPatches$Layout;", true)
  | 8 => ("QuiltPatches", "pastEnd", "I", false)
  | 9 => ("QuiltPatches", "undoable", "I", false)
  | 10 => ("QuiltPatches", "images", "[LQuiltPatches$Layout;", true)
  | 11 => ("QuiltPatches", "kept", "[Z", true)
  | 12 => ("QuiltPatches", "winnow", "LQuiltPatches$Winnow;", true)
  | 13 => ("QuiltPatches", "finder", "LQuiltPatches$Finder;", true)
  | 14 => ("QuiltPatches", "cloth", "LQuiltPatches$Cloth;", true)
  | _ => ("QuiltPatches", "firstQuilt", "[I", true)
def tyX6 : Nat → FieldType := fun k => match k with
  | 0 => .array .int
  | 1 => .int
  | 2 => .object "QuiltPatches$Reader"
  | 3 => .object "QuiltPatches$Told"
  | 4 => .object "QuiltPatches$Told"
  | 5 => .object "QuiltPatches$Layout"
  | 6 => .object "QuiltPatches$Layout"
  | 7 => .array (.object "QuiltPatches$Layout")
  | 8 => .int
  | 9 => .int
  | 10 => .array (.object "QuiltPatches$Layout")
  | 11 => .array .boolean
  | 12 => .object "QuiltPatches$Winnow"
  | 13 => .object "QuiltPatches$Finder"
  | 14 => .object "QuiltPatches$Cloth"
  | _ => .array .int
abbrev wsX60 : List Cond := u_ws RX6 TX6 16
theorem nmX6 : ∀ a, a < 16 → ∀ b, b < 16 → a ≠ b → (TX6 a).2.1 ≠ (TX6 b).2.1 := by decide +kernel
theorem tyX6_ok : ∀ k, k < 16 → parseFieldDescriptor (TX6 k).2.2.1 = some (tyX6 k) := by decide +kernel
abbrev cX6_init : ByteArray := prog_1_method_1_code
def yX6_init : MethodName := ⟨RX6, "<init>", "()V"⟩
abbrev cX6_type : ByteArray := prog_1_method_2_code
def yX6_type : MethodName := ⟨RX6, "type", "(I)I"⟩
abbrev cX6_clear : ByteArray := prog_1_method_3_code
def yX6_clear : MethodName := ⟨RX6, "clear", "()I"⟩
abbrev cX6_tells : ByteArray := prog_1_method_4_code
def yX6_tells : MethodName := ⟨RX6, "tells", "()I"⟩
abbrev cX6_kind : ByteArray := prog_1_method_5_code
def yX6_kind : MethodName := ⟨RX6, "kind", "(II)I"⟩
abbrev cX6_block : ByteArray := prog_1_method_6_code
def yX6_block : MethodName := ⟨RX6, "block", "(II)I"⟩
abbrev cX6_lays : ByteArray := prog_1_method_7_code
def yX6_lays : MethodName := ⟨RX6, "lays", "(II)I"⟩
abbrev cX6_takes : ByteArray := prog_1_method_8_code
def yX6_takes : MethodName := ⟨RX6, "takes", "(I)I"⟩
abbrev cX6_buys : ByteArray := prog_1_method_9_code
def yX6_buys : MethodName := ⟨RX6, "buys", "(II)I"⟩
abbrev cX6_clears : ByteArray := prog_1_method_10_code
def yX6_clears : MethodName := ⟨RX6, "clears", "()I"⟩
abbrev cX6_undo : ByteArray := prog_1_method_11_code
def yX6_undo : MethodName := ⟨RX6, "undo", "()I"⟩
abbrev cX6_square : ByteArray := prog_1_method_12_code
def yX6_square : MethodName := ⟨RX6, "square", "(I)I"⟩
abbrev cX6_fits : ByteArray := prog_1_method_13_code
def yX6_fits : MethodName := ⟨RX6, "fits", "(II)I"⟩
abbrev cX6_left : ByteArray := prog_1_method_14_code
def yX6_left : MethodName := ⟨RX6, "left", "(II)I"⟩
abbrev cX6_hue : ByteArray := prog_1_method_15_code
def yX6_hue : MethodName := ⟨RX6, "hue", "(II)I"⟩
abbrev cX6_many : ByteArray := prog_1_method_16_code
def yX6_many : MethodName := ⟨RX6, "many", "(I)I"⟩
abbrev cX6_quilt : ByteArray := prog_1_method_17_code
def yX6_quilt : MethodName := ⟨RX6, "quilt", "(II)I"⟩
abbrev cX6_sure : ByteArray := prog_1_method_18_code
def yX6_sure : MethodName := ⟨RX6, "sure", "()I"⟩
abbrev cX6_next : ByteArray := prog_1_method_19_code
def yX6_next : MethodName := ⟨RX6, "next", "()I"⟩
abbrev cX6_wanting : ByteArray := prog_1_method_20_code
def yX6_wanting : MethodName := ⟨RX6, "wanting", "(I)I"⟩
abbrev cX6_piece : ByteArray := prog_1_method_21_code
def yX6_piece : MethodName := ⟨RX6, "piece", "(II)I"⟩
abbrev cX6_good : ByteArray := prog_1_method_22_code
def yX6_good : MethodName := ⟨RX6, "good", "(II)I"⟩
abbrev cX6_cut : ByteArray := prog_1_method_23_code
def yX6_cut : MethodName := ⟨RX6, "cut", "(II)I"⟩
abbrev cX6_made : ByteArray := prog_1_method_24_code
def yX6_made : MethodName := ⟨RX6, "made", "(III)I"⟩
abbrev cX6_keep : ByteArray := prog_1_method_25_code
def yX6_keep : MethodName := ⟨RX6, "keep", "(I)I"⟩
abbrev cX6_back : ByteArray := prog_1_method_26_code
def yX6_back : MethodName := ⟨RX6, "back", "(I)I"⟩
abbrev cX6_count : ByteArray := prog_1_method_27_code
def yX6_count : MethodName := ⟨RX6, "count", "(I)I"⟩
abbrev cX6_isKind : ByteArray := prog_1_method_28_code
def yX6_isKind : MethodName := ⟨RX6, "isKind", "(I)Z"⟩
abbrev cX6_isBlock : ByteArray := prog_1_method_29_code
def yX6_isBlock : MethodName := ⟨RX6, "isBlock", "(I)Z"⟩
abbrev cX6_isSquare : ByteArray := prog_1_method_30_code
def yX6_isSquare : MethodName := ⟨RX6, "isSquare", "(I)Z"⟩
abbrev cX6_isPiece : ByteArray := prog_1_method_31_code
def yX6_isPiece : MethodName := ⟨RX6, "isPiece", "(I)Z"⟩
abbrev cX6_isRectangle : ByteArray := prog_1_method_32_code
def yX6_isRectangle : MethodName := ⟨RX6, "isRectangle", "(II)Z"⟩
abbrev cX6_isImage : ByteArray := prog_1_method_33_code
def yX6_isImage : MethodName := ⟨RX6, "isImage", "(I)Z"⟩
abbrev cX6_openSquares : ByteArray := prog_1_method_34_code
def yX6_openSquares : MethodName := ⟨RX6, "openSquares", "()I"⟩
abbrev cX6_forgetImages : ByteArray := prog_1_method_35_code
def yX6_forgetImages : MethodName := ⟨RX6, "forgetImages", "()V"⟩
abbrev cX6_remember : ByteArray := prog_1_method_36_code
def yX6_remember : MethodName := ⟨RX6, "remember", "()V"⟩
abbrev cX6_whyNot : ByteArray := prog_1_method_37_code
def yX6_whyNot : MethodName := ⟨RX6, "whyNot", "(II)I"⟩
abbrev cX6_meetsNeighbours : ByteArray := prog_1_method_38_code
def yX6_meetsNeighbours : MethodName := ⟨RX6, "meetsNeighbours", "(II)Z"⟩
abbrev cX6_keepsRim : ByteArray := prog_1_method_39_code
def yX6_keepsRim : MethodName := ⟨RX6, "keepsRim", "(II)Z"⟩
abbrev cX6_quiltsOf : ByteArray := prog_1_method_40_code
def yX6_quiltsOf : MethodName := ⟨RX6, "quiltsOf", "(LQuiltPatches$Layout;I)I"⟩
abbrev cX6_sameWithAnotherAt : ByteArray := prog_1_method_41_code
def yX6_sameWithAnotherAt : MethodName := ⟨RX6, "sameWithAnotherAt", "(II)I"⟩
abbrev cX6_bitAt : ByteArray := prog_1_method_42_code
def yX6_bitAt : MethodName := ⟨RX6, "bitAt", "(II)I"⟩
abbrev cX6_opposite : ByteArray := prog_1_method_43_code
def yX6_opposite : MethodName := ⟨RX6, "opposite", "(I)I"⟩
def RX7 : String := "QuiltPatchesModel"
def TX7 : u_T := fun k => match k with
  | 0 => ("QuiltPatchesModel", "kinds", "I", false)
  | 1 => ("QuiltPatchesModel", "size", "[I", true)
  | 2 => ("QuiltPatchesModel", "told", "[I", true)
  | 3 => ("QuiltPatchesModel", "s", "[I", true)
  | 4 => ("QuiltPatchesModel", "undos", "I", false)
  | 5 => ("QuiltPatchesModel", "past", "[I", true)
  | 6 => ("QuiltPatchesModel", "isKept", "[Z", true)
  | 7 => ("QuiltPatchesModel", "kept", "[I", true)
  | 8 => ("QuiltPatchesModel", "newKinds", "I", false)
  | 9 => ("QuiltPatchesModel", "newSize", "[I", true)
  | 10 => ("QuiltPatchesModel", "newTold", "[I", true)
  | 11 => ("QuiltPatchesModel", "newStock", "[I", true)
  | 12 => ("QuiltPatchesModel", "letters", "I", false)
  | 13 => ("QuiltPatchesModel", "text", "[I", true)
  | 14 => ("QuiltPatchesModel", "at", "I", false)
  | 15 => ("QuiltPatchesModel", "number", "I", false)
  | 16 => ("QuiltPatchesModel", "met", "I", false)
  | 17 => ("QuiltPatchesModel", "t", "[I", true)
  | 18 => ("QuiltPatchesModel", "there", "[I", true)
  | 19 => ("QuiltPatchesModel", "opens", "I", false)
  | 20 => ("QuiltPatchesModel", "openAt", "[I", true)
  | 21 => ("QuiltPatchesModel", "tried", "[I", true)
  | 22 => ("QuiltPatchesModel", "depth", "I", false)
  | 23 => ("QuiltPatchesModel", "isFound", "Z", false)
  | 24 => ("QuiltPatchesModel", "butSquare", "I", false)
  | 25 => ("QuiltPatchesModel", "but", "I", false)
  | 26 => ("QuiltPatchesModel", "first", "[I", true)
  | 27 => ("QuiltPatchesModel", "goods", "[I", true)
  | 28 => ("QuiltPatchesModel", "cuts", "[I", true)
  | _ => ("QuiltPatchesModel", "pieces", "[I", true)
def tyX7 : Nat → FieldType := fun k => match k with
  | 0 => .int
  | 1 => .array .int
  | 2 => .array .int
  | 3 => .array .int
  | 4 => .int
  | 5 => .array .int
  | 6 => .array .boolean
  | 7 => .array .int
  | 8 => .int
  | 9 => .array .int
  | 10 => .array .int
  | 11 => .array .int
  | 12 => .int
  | 13 => .array .int
  | 14 => .int
  | 15 => .int
  | 16 => .int
  | 17 => .array .int
  | 18 => .array .int
  | 19 => .int
  | 20 => .array .int
  | 21 => .array .int
  | 22 => .int
  | 23 => .boolean
  | 24 => .int
  | 25 => .int
  | 26 => .array .int
  | 27 => .array .int
  | 28 => .array .int
  | _ => .array .int
abbrev wsX70 : List Cond := u_ws RX7 TX7 30
theorem nmX7 : ∀ a, a < 30 → ∀ b, b < 30 → a ≠ b → (TX7 a).2.1 ≠ (TX7 b).2.1 := by decide +kernel
theorem tyX7_ok : ∀ k, k < 30 → parseFieldDescriptor (TX7 k).2.2.1 = some (tyX7 k) := by decide +kernel
abbrev cX7_in : ByteArray := prog_9_method_1_code
def yX7_in : MethodName := ⟨RX7, "in", "(III)Z"⟩
abbrev cX7_init : ByteArray := prog_9_method_2_code
def yX7_init : MethodName := ⟨RX7, "<init>", "()V"⟩
abbrev cX7_begins : ByteArray := prog_9_method_3_code
def yX7_begins : MethodName := ⟨RX7, "begins", "()V"⟩
abbrev cX7_becomes : ByteArray := prog_9_method_4_code
def yX7_becomes : MethodName := ⟨RX7, "becomes", "()V"⟩
abbrev cX7_type : ByteArray := prog_9_method_5_code
def yX7_type : MethodName := ⟨RX7, "type", "(I)I"⟩
abbrev cX7_clear : ByteArray := prog_9_method_6_code
def yX7_clear : MethodName := ⟨RX7, "clear", "()I"⟩
abbrev cX7_here : ByteArray := prog_9_method_7_code
def yX7_here : MethodName := ⟨RX7, "here", "()I"⟩
abbrev cX7_reads : ByteArray := prog_9_method_8_code
def yX7_reads : MethodName := ⟨RX7, "reads", "(II)Z"⟩
abbrev cX7_readsKind : ByteArray := prog_9_method_9_code
def yX7_readsKind : MethodName := ⟨RX7, "readsKind", "()Z"⟩
abbrev cX7_readsOnce : ByteArray := prog_9_method_10_code
def yX7_readsOnce : MethodName := ⟨RX7, "readsOnce", "(IIIII)Z"⟩
abbrev cX7_item : ByteArray := prog_9_method_11_code
def yX7_item : MethodName := ⟨RX7, "item", "()Z"⟩
abbrev cX7_tells : ByteArray := prog_9_method_12_code
def yX7_tells : MethodName := ⟨RX7, "tells", "()I"⟩
abbrev cX7_isKind : ByteArray := prog_9_method_13_code
def yX7_isKind : MethodName := ⟨RX7, "isKind", "(I)Z"⟩
abbrev cX7_isBlock : ByteArray := prog_9_method_14_code
def yX7_isBlock : MethodName := ⟨RX7, "isBlock", "(I)Z"⟩
abbrev cX7_squares : ByteArray := prog_9_method_15_code
def yX7_squares : MethodName := ⟨RX7, "squares", "()I"⟩
abbrev cX7_isSquare : ByteArray := prog_9_method_16_code
def yX7_isSquare : MethodName := ⟨RX7, "isSquare", "(I)Z"⟩
abbrev cX7_edge : ByteArray := prog_9_method_17_code
def yX7_edge : MethodName := ⟨RX7, "edge", "(II)I"⟩
abbrev cX7_isPlain : ByteArray := prog_9_method_18_code
def yX7_isPlain : MethodName := ⟨RX7, "isPlain", "(I)Z"⟩
abbrev cX7_hueOf : ByteArray := prog_9_method_19_code
def yX7_hueOf : MethodName := ⟨RX7, "hueOf", "(I)I"⟩
abbrev cX7_tries : ByteArray := prog_9_method_20_code
def yX7_tries : MethodName := ⟨RX7, "tries", "()V"⟩
abbrev cX7_leftOf : ByteArray := prog_9_method_21_code
def yX7_leftOf : MethodName := ⟨RX7, "leftOf", "(I)I"⟩
abbrev cX7_ofHue : ByteArray := prog_9_method_22_code
def yX7_ofHue : MethodName := ⟨RX7, "ofHue", "(I)I"⟩
abbrev cX7_beside : ByteArray := prog_9_method_23_code
def yX7_beside : MethodName := ⟨RX7, "beside", "(II)I"⟩
abbrev cX7_whyNot : ByteArray := prog_9_method_24_code
def yX7_whyNot : MethodName := ⟨RX7, "whyNot", "(II)I"⟩
abbrev cX7_kind : ByteArray := prog_9_method_25_code
def yX7_kind : MethodName := ⟨RX7, "kind", "(II)I"⟩
abbrev cX7_block : ByteArray := prog_9_method_26_code
def yX7_block : MethodName := ⟨RX7, "block", "(II)I"⟩
abbrev cX7_open : ByteArray := prog_9_method_27_code
def yX7_open : MethodName := ⟨RX7, "open", "()I"⟩
abbrev cX7_notes : ByteArray := prog_9_method_28_code
def yX7_notes : MethodName := ⟨RX7, "notes", "()V"⟩
abbrev cX7_lays : ByteArray := prog_9_method_29_code
def yX7_lays : MethodName := ⟨RX7, "lays", "(II)I"⟩
abbrev cX7_takes : ByteArray := prog_9_method_30_code
def yX7_takes : MethodName := ⟨RX7, "takes", "(I)I"⟩
abbrev cX7_buys : ByteArray := prog_9_method_31_code
def yX7_buys : MethodName := ⟨RX7, "buys", "(II)I"⟩
abbrev cX7_clears : ByteArray := prog_9_method_32_code
def yX7_clears : MethodName := ⟨RX7, "clears", "()I"⟩
abbrev cX7_undo : ByteArray := prog_9_method_33_code
def yX7_undo : MethodName := ⟨RX7, "undo", "()I"⟩
abbrev cX7_square : ByteArray := prog_9_method_34_code
def yX7_square : MethodName := ⟨RX7, "square", "(I)I"⟩
abbrev cX7_fits : ByteArray := prog_9_method_35_code
def yX7_fits : MethodName := ⟨RX7, "fits", "(II)I"⟩
abbrev cX7_has : ByteArray := prog_9_method_36_code
def yX7_has : MethodName := ⟨RX7, "has", "(III)Z"⟩
abbrev cX7_stays : ByteArray := prog_9_method_37_code
def yX7_stays : MethodName := ⟨RX7, "stays", "(II)Z"⟩
abbrev cX7_winnows : ByteArray := prog_9_method_38_code
def yX7_winnows : MethodName := ⟨RX7, "winnows", "()V"⟩
abbrev cX7_ones : ByteArray := prog_9_method_39_code
def yX7_ones : MethodName := ⟨RX7, "ones", "(I)I"⟩
abbrev cX7_left : ByteArray := prog_9_method_40_code
def yX7_left : MethodName := ⟨RX7, "left", "(II)I"⟩
abbrev cX7_hueAt : ByteArray := prog_9_method_41_code
def yX7_hueAt : MethodName := ⟨RX7, "hueAt", "(I)I"⟩
abbrev cX7_hue : ByteArray := prog_9_method_42_code
def yX7_hue : MethodName := ⟨RX7, "hue", "(II)I"⟩
abbrev cX7_startsQuilts : ByteArray := prog_9_method_43_code
def yX7_startsQuilts : MethodName := ⟨RX7, "startsQuilts", "()V"⟩
abbrev cX7_canBe : ByteArray := prog_9_method_44_code
def yX7_canBe : MethodName := ⟨RX7, "canBe", "(II)Z"⟩
abbrev cX7_nextQuilt : ByteArray := prog_9_method_45_code
def yX7_nextQuilt : MethodName := ⟨RX7, "nextQuilt", "()Z"⟩
abbrev cX7_many : ByteArray := prog_9_method_46_code
def yX7_many : MethodName := ⟨RX7, "many", "(I)I"⟩
abbrev cX7_quilt : ByteArray := prog_9_method_47_code
def yX7_quilt : MethodName := ⟨RX7, "quilt", "(II)I"⟩
abbrev cX7_sure : ByteArray := prog_9_method_48_code
def yX7_sure : MethodName := ⟨RX7, "sure", "()I"⟩
abbrev cX7_next : ByteArray := prog_9_method_49_code
def yX7_next : MethodName := ⟨RX7, "next", "()I"⟩
abbrev cX7_wanting : ByteArray := prog_9_method_50_code
def yX7_wanting : MethodName := ⟨RX7, "wanting", "(I)I"⟩
abbrev cX7_side : ByteArray := prog_9_method_51_code
def yX7_side : MethodName := ⟨RX7, "side", "(IZ)I"⟩
abbrev cX7_pieceOf : ByteArray := prog_9_method_52_code
def yX7_pieceOf : MethodName := ⟨RX7, "pieceOf", "(II)I"⟩
abbrev cX7_laysCut : ByteArray := prog_9_method_53_code
def yX7_laysCut : MethodName := ⟨RX7, "laysCut", "(IIII)V"⟩
abbrev cX7_laysRectangle : ByteArray := prog_9_method_54_code
def yX7_laysRectangle : MethodName := ⟨RX7, "laysRectangle", "(II)V"⟩
abbrev cX7_laysCloth : ByteArray := prog_9_method_55_code
def yX7_laysCloth : MethodName := ⟨RX7, "laysCloth", "()V"⟩
abbrev cX7_isCloth : ByteArray := prog_9_method_56_code
def yX7_isCloth : MethodName := ⟨RX7, "isCloth", "(II)Z"⟩
abbrev cX7_piece : ByteArray := prog_9_method_57_code
def yX7_piece : MethodName := ⟨RX7, "piece", "(II)I"⟩
abbrev cX7_good : ByteArray := prog_9_method_58_code
def yX7_good : MethodName := ⟨RX7, "good", "(II)I"⟩
abbrev cX7_cut : ByteArray := prog_9_method_59_code
def yX7_cut : MethodName := ⟨RX7, "cut", "(II)I"⟩
abbrev cX7_made : ByteArray := prog_9_method_60_code
def yX7_made : MethodName := ⟨RX7, "made", "(III)I"⟩
abbrev cX7_keep : ByteArray := prog_9_method_61_code
def yX7_keep : MethodName := ⟨RX7, "keep", "(I)I"⟩
abbrev cX7_back : ByteArray := prog_9_method_62_code
def yX7_back : MethodName := ⟨RX7, "back", "(I)I"⟩
abbrev cX7_hues : ByteArray := prog_9_method_63_code
def yX7_hues : MethodName := ⟨RX7, "hues", "()I"⟩
abbrev cX7_count : ByteArray := prog_9_method_64_code
def yX7_count : MethodName := ⟨RX7, "count", "(I)I"⟩
def RJ6 : String := "java/lang/Integer"
def TJ6 : u_T := fun k => match k with
  | _ => ("", "", "", false)
def tyJ6 : Nat → FieldType := fun k => match k with
  | _ => .int
abbrev wsJ60 : List Cond := u_ws RJ6 TJ6 0
theorem nmJ6 : ∀ a, a < 0 → ∀ b, b < 0 → a ≠ b → (TJ6 a).2.1 ≠ (TJ6 b).2.1 := by decide +kernel
theorem tyJ6_ok : ∀ k, k < 0 → parseFieldDescriptor (TJ6 k).2.2.1 = some (tyJ6 k) := by decide +kernel
abbrev cJ6_bitCount_0f7a4 : ByteArray := prog_10_method_49_code
def yJ6_bitCount_0f7a4 : MethodName := ⟨RJ6, "bitCount", "(I)I"⟩
def RJ9 : String := "java/lang/Math"
def TJ9 : u_T := fun k => match k with
  | _ => ("", "", "", false)
def tyJ9 : Nat → FieldType := fun k => match k with
  | _ => .int
abbrev wsJ90 : List Cond := u_ws RJ9 TJ9 0
theorem nmJ9 : ∀ a, a < 0 → ∀ b, b < 0 → a ≠ b → (TJ9 a).2.1 ≠ (TJ9 b).2.1 := by decide +kernel
theorem tyJ9_ok : ∀ k, k < 0 → parseFieldDescriptor (TJ9 k).2.2.1 = some (tyJ9 k) := by decide +kernel
abbrev cJ9_max_7cf53 : ByteArray := prog_11_method_65_code
def yJ9_max_7cf53 : MethodName := ⟨RJ9, "max", "(II)I"⟩
abbrev cJ9_min_7cf53 : ByteArray := prog_11_method_69_code
def yJ9_min_7cf53 : MethodName := ⟨RJ9, "min", "(II)I"⟩
def RJ10 : String := "java/lang/System"
def TJ10 : u_T := fun k => match k with
  | _ => ("", "", "", false)
def tyJ10 : Nat → FieldType := fun k => match k with
  | _ => .int
abbrev wsJ100 : List Cond := u_ws RJ10 TJ10 0
theorem nmJ10 : ∀ a, a < 0 → ∀ b, b < 0 → a ≠ b → (TJ10 a).2.1 ≠ (TJ10 b).2.1 := by decide +kernel
theorem tyJ10_ok : ∀ k, k < 0 → parseFieldDescriptor (TJ10 k).2.2.1 = some (tyJ10 k) := by decide +kernel
def RJ7 : String := "java/util/Arrays"
def TJ7 : u_T := fun k => match k with
  | _ => ("", "", "", false)
def tyJ7 : Nat → FieldType := fun k => match k with
  | _ => .int
abbrev wsJ70 : List Cond := u_ws RJ7 TJ7 0
theorem nmJ7 : ∀ a, a < 0 → ∀ b, b < 0 → a ≠ b → (TJ7 a).2.1 ≠ (TJ7 b).2.1 := by decide +kernel
theorem tyJ7_ok : ∀ k, k < 0 → parseFieldDescriptor (TJ7 k).2.2.1 = some (tyJ7 k) := by decide +kernel
abbrev cJ7_fill_53178 : ByteArray := prog_13_method_103_code
def yJ7_fill_53178 : MethodName := ⟨RJ7, "fill", "([II)V"⟩
def RL : String := "QuiltPatchesLaw"
abbrev cL_law : ByteArray := code
def yL_law : MethodName := ⟨RL, "law", "([I)Z"⟩
